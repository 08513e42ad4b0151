section
-- ===== PART A: goes FIRST, ahead of the names: the tables' words, and 'selects' of the private methods out of them =====
/-- a private method of a class that the tables say can be made, by its rows of tables_1 -/
def lw_okq (q : MethodName × Nat) : Prop := (q.1.cls ≠ "java/lang/invoke/MethodHandle" ∧ q.1.cls ≠ "java/lang/invoke/VarHandle") ∧ Cond.instantiable q.1.cls q.2 ∈ tables_1 ∧ Cond.privateMethod q.1 ∈ tables_1 ∧ Cond.instanceMethod q.1 ∈ tables_1
theorem lw_p0 : lw_okq (⟨"RolledPicks", "finding", "(I)I"⟩, 9) := ⟨⟨by decide +kernel, by decide +kernel⟩, List.mem_of_getElem? (i := 18) (by decide +kernel), List.mem_of_getElem? (i := 188) (by decide +kernel), List.mem_of_getElem? (i := 189) (by decide +kernel)⟩
theorem lw_p1 : lw_okq (⟨"RolledPicks", "enter", "(LRolledPicks$Deal;)I"⟩, 9) := ⟨⟨by decide +kernel, by decide +kernel⟩, List.mem_of_getElem? (i := 18) (by decide +kernel), List.mem_of_getElem? (i := 276) (by decide +kernel), List.mem_of_getElem? (i := 277) (by decide +kernel)⟩
theorem lw_p2 : lw_okq (⟨"RolledPicks", "takes", "(LRolledPicks$Deal;)Z"⟩, 9) := ⟨⟨by decide +kernel, by decide +kernel⟩, List.mem_of_getElem? (i := 18) (by decide +kernel), List.mem_of_getElem? (i := 280) (by decide +kernel), List.mem_of_getElem? (i := 281) (by decide +kernel)⟩
theorem lw_p3 : lw_okq (⟨"RolledPicks", "clashesUnder", "(ILRolledPicks$Deal;)Z"⟩, 9) := ⟨⟨by decide +kernel, by decide +kernel⟩, List.mem_of_getElem? (i := 18) (by decide +kernel), List.mem_of_getElem? (i := 290) (by decide +kernel), List.mem_of_getElem? (i := 291) (by decide +kernel)⟩
theorem lw_p4 : lw_okq (⟨"RolledPicks$Deal", "mayGive", "(I)Z"⟩, 7) := ⟨⟨by decide +kernel, by decide +kernel⟩, List.mem_of_getElem? (i := 236) (by decide +kernel), List.mem_of_getElem? (i := 321) (by decide +kernel), List.mem_of_getElem? (i := 322) (by decide +kernel)⟩
theorem lw_p5 : lw_okq (⟨"RolledPicks$Owners", "give", "(III)V"⟩, 1) := ⟨⟨by decide +kernel, by decide +kernel⟩, List.mem_of_getElem? (i := 63) (by decide +kernel), List.mem_of_getElem? (i := 330) (by decide +kernel), List.mem_of_getElem? (i := 331) (by decide +kernel)⟩
theorem lw_p6 : lw_okq (⟨"RolledPicks$Tape", "step", "()V"⟩, 4) := ⟨⟨by decide +kernel, by decide +kernel⟩, List.mem_of_getElem? (i := 79) (by decide +kernel), List.mem_of_getElem? (i := 350) (by decide +kernel), List.mem_of_getElem? (i := 351) (by decide +kernel)⟩
theorem lw_p7 : lw_okq (⟨"RolledPicks$Reader", "readItem", "(LRolledPicks$Book;)Z"⟩, 4) := ⟨⟨by decide +kernel, by decide +kernel⟩, List.mem_of_getElem? (i := 73) (by decide +kernel), List.mem_of_getElem? (i := 360) (by decide +kernel), List.mem_of_getElem? (i := 361) (by decide +kernel)⟩
theorem lw_p8 : lw_okq (⟨"RolledPicks$Tape", "tokenNumber", "()I"⟩, 4) := ⟨⟨by decide +kernel, by decide +kernel⟩, List.mem_of_getElem? (i := 79) (by decide +kernel), List.mem_of_getElem? (i := 425) (by decide +kernel), List.mem_of_getElem? (i := 426) (by decide +kernel)⟩
theorem lw_p9 : lw_okq (⟨"RolledPicks$Reader", "readKind", "()I"⟩, 4) := ⟨⟨by decide +kernel, by decide +kernel⟩, List.mem_of_getElem? (i := 73) (by decide +kernel), List.mem_of_getElem? (i := 434) (by decide +kernel), List.mem_of_getElem? (i := 435) (by decide +kernel)⟩
theorem lw_p10 : lw_okq (⟨"RolledPicks$Reader", "readAny", "(LRolledPicks$Book;LRolledPicks$Standings;I)Z"⟩, 4) := ⟨⟨by decide +kernel, by decide +kernel⟩, List.mem_of_getElem? (i := 73) (by decide +kernel), List.mem_of_getElem? (i := 444) (by decide +kernel), List.mem_of_getElem? (i := 445) (by decide +kernel)⟩
theorem lw_p11 : lw_okq (⟨"RolledPicks$Reader", "readOne", "(LRolledPicks$Book;LRolledPicks$Standings;I)Z"⟩, 4) := ⟨⟨by decide +kernel, by decide +kernel⟩, List.mem_of_getElem? (i := 73) (by decide +kernel), List.mem_of_getElem? (i := 452) (by decide +kernel), List.mem_of_getElem? (i := 453) (by decide +kernel)⟩
theorem lw_p12 : lw_okq (⟨"RolledPicks$Reader", "dealByThen", "(LRolledPicks$Book;I)LRolledPicks$Deal;"⟩, 4) := ⟨⟨by decide +kernel, by decide +kernel⟩, List.mem_of_getElem? (i := 73) (by decide +kernel), List.mem_of_getElem? (i := 465) (by decide +kernel), List.mem_of_getElem? (i := 466) (by decide +kernel)⟩
theorem lw_p13 : lw_okq (⟨"RolledPicks$Standings", "set", "(IZ)V"⟩, 1) := ⟨⟨by decide +kernel, by decide +kernel⟩, List.mem_of_getElem? (i := 102) (by decide +kernel), List.mem_of_getElem? (i := 480) (by decide +kernel), List.mem_of_getElem? (i := 481) (by decide +kernel)⟩
theorem lw_p14 : lw_okq (⟨"RolledPicks", "settleAll", "()V"⟩, 9) := ⟨⟨by decide +kernel, by decide +kernel⟩, List.mem_of_getElem? (i := 18) (by decide +kernel), List.mem_of_getElem? (i := 513) (by decide +kernel), List.mem_of_getElem? (i := 514) (by decide +kernel)⟩
theorem lw_p15 : lw_okq (⟨"RolledPicks", "countConveying", "(LRolledPicks$Deal;)I"⟩, 9) := ⟨⟨by decide +kernel, by decide +kernel⟩, List.mem_of_getElem? (i := 18) (by decide +kernel), List.mem_of_getElem? (i := 522) (by decide +kernel), List.mem_of_getElem? (i := 523) (by decide +kernel)⟩
def lw_privs_1 : List (MethodName × Nat) := [(⟨"RolledPicks", "finding", "(I)I"⟩, 9), (⟨"RolledPicks", "enter", "(LRolledPicks$Deal;)I"⟩, 9), (⟨"RolledPicks", "takes", "(LRolledPicks$Deal;)Z"⟩, 9), (⟨"RolledPicks", "clashesUnder", "(ILRolledPicks$Deal;)Z"⟩, 9), (⟨"RolledPicks$Deal", "mayGive", "(I)Z"⟩, 7), (⟨"RolledPicks$Owners", "give", "(III)V"⟩, 1), (⟨"RolledPicks$Tape", "step", "()V"⟩, 4), (⟨"RolledPicks$Reader", "readItem", "(LRolledPicks$Book;)Z"⟩, 4), (⟨"RolledPicks$Tape", "tokenNumber", "()I"⟩, 4), (⟨"RolledPicks$Reader", "readKind", "()I"⟩, 4), (⟨"RolledPicks$Reader", "readAny", "(LRolledPicks$Book;LRolledPicks$Standings;I)Z"⟩, 4), (⟨"RolledPicks$Reader", "readOne", "(LRolledPicks$Book;LRolledPicks$Standings;I)Z"⟩, 4), (⟨"RolledPicks$Reader", "dealByThen", "(LRolledPicks$Book;I)LRolledPicks$Deal;"⟩, 4), (⟨"RolledPicks$Standings", "set", "(IZ)V"⟩, 1), (⟨"RolledPicks", "settleAll", "()V"⟩, 9), (⟨"RolledPicks", "countConveying", "(LRolledPicks$Deal;)I"⟩, 9)]
theorem lw_r1 : ∀ q ∈ lw_privs_1, lw_okq q := List.forall_mem_cons.mpr ⟨lw_p0, List.forall_mem_cons.mpr ⟨lw_p1, List.forall_mem_cons.mpr ⟨lw_p2, List.forall_mem_cons.mpr ⟨lw_p3, List.forall_mem_cons.mpr ⟨lw_p4, List.forall_mem_cons.mpr ⟨lw_p5, List.forall_mem_cons.mpr ⟨lw_p6, List.forall_mem_cons.mpr ⟨lw_p7, List.forall_mem_cons.mpr ⟨lw_p8, List.forall_mem_cons.mpr ⟨lw_p9, List.forall_mem_cons.mpr ⟨lw_p10, List.forall_mem_cons.mpr ⟨lw_p11, List.forall_mem_cons.mpr ⟨lw_p12, List.forall_mem_cons.mpr ⟨lw_p13, List.forall_mem_cons.mpr ⟨lw_p14, List.forall_mem_cons.mpr ⟨lw_p15, fun _ h => absurd h List.not_mem_nil⟩⟩⟩⟩⟩⟩⟩⟩⟩⟩⟩⟩⟩⟩⟩⟩
theorem lw_p16 : lw_okq (⟨"RolledPicks", "everOwners", "(I)I"⟩, 9) := ⟨⟨by decide +kernel, by decide +kernel⟩, List.mem_of_getElem? (i := 18) (by decide +kernel), List.mem_of_getElem? (i := 576) (by decide +kernel), List.mem_of_getElem? (i := 577) (by decide +kernel)⟩
theorem lw_p17 : lw_okq (⟨"RolledPicks", "worthUnder", "(II)I"⟩, 9) := ⟨⟨by decide +kernel, by decide +kernel⟩, List.mem_of_getElem? (i := 18) (by decide +kernel), List.mem_of_getElem? (i := 600) (by decide +kernel), List.mem_of_getElem? (i := 601) (by decide +kernel)⟩
theorem lw_p18 : lw_okq (⟨"RolledPicks", "longFinding", "(I)J"⟩, 9) := ⟨⟨by decide +kernel, by decide +kernel⟩, List.mem_of_getElem? (i := 18) (by decide +kernel), List.mem_of_getElem? (i := 608) (by decide +kernel), List.mem_of_getElem? (i := 609) (by decide +kernel)⟩
theorem lw_p19 : lw_okq (⟨"RolledPicks", "worthOver", "(III)J"⟩, 9) := ⟨⟨by decide +kernel, by decide +kernel⟩, List.mem_of_getElem? (i := 18) (by decide +kernel), List.mem_of_getElem? (i := 613) (by decide +kernel), List.mem_of_getElem? (i := 614) (by decide +kernel)⟩
theorem lw_p20 : lw_okq (⟨"RolledPicks", "tellsEachDeal", "(LRolledPicks$Sheet;)Z"⟩, 9) := ⟨⟨by decide +kernel, by decide +kernel⟩, List.mem_of_getElem? (i := 18) (by decide +kernel), List.mem_of_getElem? (i := 634) (by decide +kernel), List.mem_of_getElem? (i := 635) (by decide +kernel)⟩
theorem lw_p21 : lw_okq (⟨"RolledPicks", "countRounds", "(LRolledPicks$Sheet;I)I"⟩, 9) := ⟨⟨by decide +kernel, by decide +kernel⟩, List.mem_of_getElem? (i := 18) (by decide +kernel), List.mem_of_getElem? (i := 638) (by decide +kernel), List.mem_of_getElem? (i := 639) (by decide +kernel)⟩
theorem lw_p22 : lw_okq (⟨"RolledPicks", "goesOver", "(LRolledPicks$Sheet;LRolledPicks$Rounds;)Z"⟩, 9) := ⟨⟨by decide +kernel, by decide +kernel⟩, List.mem_of_getElem? (i := 18) (by decide +kernel), List.mem_of_getElem? (i := 661) (by decide +kernel), List.mem_of_getElem? (i := 662) (by decide +kernel)⟩
theorem lw_p23 : lw_okq (⟨"RolledPicks", "countHeld", "()I"⟩, 9) := ⟨⟨by decide +kernel, by decide +kernel⟩, List.mem_of_getElem? (i := 18) (by decide +kernel), List.mem_of_getElem? (i := 761) (by decide +kernel), List.mem_of_getElem? (i := 762) (by decide +kernel)⟩
theorem lw_p24 : lw_okq (⟨"RolledPicksModel", "finds", "(I)I"⟩, 39) := ⟨⟨by decide +kernel, by decide +kernel⟩, List.mem_of_getElem? (i := 769) (by decide +kernel), List.mem_of_getElem? (i := 906) (by decide +kernel), List.mem_of_getElem? (i := 907) (by decide +kernel)⟩
theorem lw_p25 : lw_okq (⟨"RolledPicksModel", "openFrom", "()I"⟩, 39) := ⟨⟨by decide +kernel, by decide +kernel⟩, List.mem_of_getElem? (i := 769) (by decide +kernel), List.mem_of_getElem? (i := 946) (by decide +kernel), List.mem_of_getElem? (i := 947) (by decide +kernel)⟩
theorem lw_p26 : lw_okq (⟨"RolledPicksModel", "openMany", "()I"⟩, 39) := ⟨⟨by decide +kernel, by decide +kernel⟩, List.mem_of_getElem? (i := 769) (by decide +kernel), List.mem_of_getElem? (i := 950) (by decide +kernel), List.mem_of_getElem? (i := 951) (by decide +kernel)⟩
theorem lw_p27 : lw_okq (⟨"RolledPicksModel", "comes", "(IIIIII)I"⟩, 39) := ⟨⟨by decide +kernel, by decide +kernel⟩, List.mem_of_getElem? (i := 769) (by decide +kernel), List.mem_of_getElem? (i := 964) (by decide +kernel), List.mem_of_getElem? (i := 965) (by decide +kernel)⟩
theorem lw_p28 : lw_okq (⟨"RolledPicksModel", "holdsAlways", "()V"⟩, 39) := ⟨⟨by decide +kernel, by decide +kernel⟩, List.mem_of_getElem? (i := 769) (by decide +kernel), List.mem_of_getElem? (i := 968) (by decide +kernel), List.mem_of_getElem? (i := 969) (by decide +kernel)⟩
theorem lw_p29 : lw_okq (⟨"RolledPicksModel", "lays", "(IIIIIII)V"⟩, 39) := ⟨⟨by decide +kernel, by decide +kernel⟩, List.mem_of_getElem? (i := 769) (by decide +kernel), List.mem_of_getElem? (i := 972) (by decide +kernel), List.mem_of_getElem? (i := 973) (by decide +kernel)⟩
theorem lw_p30 : lw_okq (⟨"RolledPicksModel", "isClashing", "()Z"⟩, 39) := ⟨⟨by decide +kernel, by decide +kernel⟩, List.mem_of_getElem? (i := 769) (by decide +kernel), List.mem_of_getElem? (i := 976) (by decide +kernel), List.mem_of_getElem? (i := 977) (by decide +kernel)⟩
theorem lw_p31 : lw_okq (⟨"RolledPicksModel", "laysOut", "(I)V"⟩, 39) := ⟨⟨by decide +kernel, by decide +kernel⟩, List.mem_of_getElem? (i := 769) (by decide +kernel), List.mem_of_getElem? (i := 980) (by decide +kernel), List.mem_of_getElem? (i := 981) (by decide +kernel)⟩
def lw_privs_2 : List (MethodName × Nat) := [(⟨"RolledPicks", "everOwners", "(I)I"⟩, 9), (⟨"RolledPicks", "worthUnder", "(II)I"⟩, 9), (⟨"RolledPicks", "longFinding", "(I)J"⟩, 9), (⟨"RolledPicks", "worthOver", "(III)J"⟩, 9), (⟨"RolledPicks", "tellsEachDeal", "(LRolledPicks$Sheet;)Z"⟩, 9), (⟨"RolledPicks", "countRounds", "(LRolledPicks$Sheet;I)I"⟩, 9), (⟨"RolledPicks", "goesOver", "(LRolledPicks$Sheet;LRolledPicks$Rounds;)Z"⟩, 9), (⟨"RolledPicks", "countHeld", "()I"⟩, 9), (⟨"RolledPicksModel", "finds", "(I)I"⟩, 39), (⟨"RolledPicksModel", "openFrom", "()I"⟩, 39), (⟨"RolledPicksModel", "openMany", "()I"⟩, 39), (⟨"RolledPicksModel", "comes", "(IIIIII)I"⟩, 39), (⟨"RolledPicksModel", "holdsAlways", "()V"⟩, 39), (⟨"RolledPicksModel", "lays", "(IIIIIII)V"⟩, 39), (⟨"RolledPicksModel", "isClashing", "()Z"⟩, 39), (⟨"RolledPicksModel", "laysOut", "(I)V"⟩, 39)]
theorem lw_r2 : ∀ q ∈ lw_privs_2, lw_okq q := List.forall_mem_cons.mpr ⟨lw_p16, List.forall_mem_cons.mpr ⟨lw_p17, List.forall_mem_cons.mpr ⟨lw_p18, List.forall_mem_cons.mpr ⟨lw_p19, List.forall_mem_cons.mpr ⟨lw_p20, List.forall_mem_cons.mpr ⟨lw_p21, List.forall_mem_cons.mpr ⟨lw_p22, List.forall_mem_cons.mpr ⟨lw_p23, List.forall_mem_cons.mpr ⟨lw_p24, List.forall_mem_cons.mpr ⟨lw_p25, List.forall_mem_cons.mpr ⟨lw_p26, List.forall_mem_cons.mpr ⟨lw_p27, List.forall_mem_cons.mpr ⟨lw_p28, List.forall_mem_cons.mpr ⟨lw_p29, List.forall_mem_cons.mpr ⟨lw_p30, List.forall_mem_cons.mpr ⟨lw_p31, fun _ h => absurd h List.not_mem_nil⟩⟩⟩⟩⟩⟩⟩⟩⟩⟩⟩⟩⟩⟩⟩⟩
theorem lw_p32 : lw_okq (⟨"RolledPicksModel", "conveyed", "(III)I"⟩, 39) := ⟨⟨by decide +kernel, by decide +kernel⟩, List.mem_of_getElem? (i := 769) (by decide +kernel), List.mem_of_getElem? (i := 984) (by decide +kernel), List.mem_of_getElem? (i := 985) (by decide +kernel)⟩
theorem lw_p33 : lw_okq (⟨"RolledPicksModel", "isHolding", "(II)Z"⟩, 39) := ⟨⟨by decide +kernel, by decide +kernel⟩, List.mem_of_getElem? (i := 769) (by decide +kernel), List.mem_of_getElem? (i := 988) (by decide +kernel), List.mem_of_getElem? (i := 989) (by decide +kernel)⟩
theorem lw_p34 : lw_okq (⟨"RolledPicksModel", "goesOn", "(II)I"⟩, 39) := ⟨⟨by decide +kernel, by decide +kernel⟩, List.mem_of_getElem? (i := 769) (by decide +kernel), List.mem_of_getElem? (i := 992) (by decide +kernel), List.mem_of_getElem? (i := 993) (by decide +kernel)⟩
theorem lw_p35 : lw_okq (⟨"RolledPicksModel", "its", "(II)I"⟩, 39) := ⟨⟨by decide +kernel, by decide +kernel⟩, List.mem_of_getElem? (i := 769) (by decide +kernel), List.mem_of_getElem? (i := 996) (by decide +kernel), List.mem_of_getElem? (i := 997) (by decide +kernel)⟩
theorem lw_p36 : lw_okq (⟨"RolledPicksModel", "clashOf", "(I)I"⟩, 39) := ⟨⟨by decide +kernel, by decide +kernel⟩, List.mem_of_getElem? (i := 769) (by decide +kernel), List.mem_of_getElem? (i := 1003) (by decide +kernel), List.mem_of_getElem? (i := 1004) (by decide +kernel)⟩
theorem lw_p37 : lw_okq (⟨"RolledPicksModel", "goesTo", "(II)I"⟩, 39) := ⟨⟨by decide +kernel, by decide +kernel⟩, List.mem_of_getElem? (i := 769) (by decide +kernel), List.mem_of_getElem? (i := 1007) (by decide +kernel), List.mem_of_getElem? (i := 1008) (by decide +kernel)⟩
theorem lw_p38 : lw_okq (⟨"RolledPicksModel", "chains", "(I)Z"⟩, 39) := ⟨⟨by decide +kernel, by decide +kernel⟩, List.mem_of_getElem? (i := 769) (by decide +kernel), List.mem_of_getElem? (i := 1011) (by decide +kernel), List.mem_of_getElem? (i := 1012) (by decide +kernel)⟩
theorem lw_p39 : lw_okq (⟨"RolledPicksModel", "isDeal", "(I)Z"⟩, 39) := ⟨⟨by decide +kernel, by decide +kernel⟩, List.mem_of_getElem? (i := 769) (by decide +kernel), List.mem_of_getElem? (i := 1026) (by decide +kernel), List.mem_of_getElem? (i := 1027) (by decide +kernel)⟩
theorem lw_p40 : lw_okq (⟨"RolledPicksModel", "standing", "(I)I"⟩, 39) := ⟨⟨by decide +kernel, by decide +kernel⟩, List.mem_of_getElem? (i := 769) (by decide +kernel), List.mem_of_getElem? (i := 1031) (by decide +kernel), List.mem_of_getElem? (i := 1032) (by decide +kernel)⟩
theorem lw_p41 : lw_okq (⟨"RolledPicksModel", "isLapsing", "(II)Z"⟩, 39) := ⟨⟨by decide +kernel, by decide +kernel⟩, List.mem_of_getElem? (i := 769) (by decide +kernel), List.mem_of_getElem? (i := 1035) (by decide +kernel), List.mem_of_getElem? (i := 1036) (by decide +kernel)⟩
theorem lw_p42 : lw_okq (⟨"RolledPicksModel", "moves", "(II)V"⟩, 39) := ⟨⟨by decide +kernel, by decide +kernel⟩, List.mem_of_getElem? (i := 769) (by decide +kernel), List.mem_of_getElem? (i := 1055) (by decide +kernel), List.mem_of_getElem? (i := 1056) (by decide +kernel)⟩
theorem lw_p43 : lw_okq (⟨"RolledPicksModel", "isOpen", "(I)Z"⟩, 39) := ⟨⟨by decide +kernel, by decide +kernel⟩, List.mem_of_getElem? (i := 769) (by decide +kernel), List.mem_of_getElem? (i := 1067) (by decide +kernel), List.mem_of_getElem? (i := 1068) (by decide +kernel)⟩
theorem lw_p44 : lw_okq (⟨"RolledPicksModel", "ownerUnder", "(II)I"⟩, 39) := ⟨⟨by decide +kernel, by decide +kernel⟩, List.mem_of_getElem? (i := 769) (by decide +kernel), List.mem_of_getElem? (i := 1071) (by decide +kernel), List.mem_of_getElem? (i := 1072) (by decide +kernel)⟩
theorem lw_p45 : lw_okq (⟨"RolledPicksModel", "ownerOf", "(I)I"⟩, 39) := ⟨⟨by decide +kernel, by decide +kernel⟩, List.mem_of_getElem? (i := 769) (by decide +kernel), List.mem_of_getElem? (i := 1075) (by decide +kernel), List.mem_of_getElem? (i := 1076) (by decide +kernel)⟩
theorem lw_p46 : lw_okq (⟨"RolledPicksModel", "chanceOf", "(II)I"⟩, 39) := ⟨⟨by decide +kernel, by decide +kernel⟩, List.mem_of_getElem? (i := 769) (by decide +kernel), List.mem_of_getElem? (i := 1091) (by decide +kernel), List.mem_of_getElem? (i := 1092) (by decide +kernel)⟩
theorem lw_p47 : lw_okq (⟨"RolledPicksModel", "worthOf", "(II)I"⟩, 39) := ⟨⟨by decide +kernel, by decide +kernel⟩, List.mem_of_getElem? (i := 769) (by decide +kernel), List.mem_of_getElem? (i := 1116) (by decide +kernel), List.mem_of_getElem? (i := 1117) (by decide +kernel)⟩
def lw_privs_3 : List (MethodName × Nat) := [(⟨"RolledPicksModel", "conveyed", "(III)I"⟩, 39), (⟨"RolledPicksModel", "isHolding", "(II)Z"⟩, 39), (⟨"RolledPicksModel", "goesOn", "(II)I"⟩, 39), (⟨"RolledPicksModel", "its", "(II)I"⟩, 39), (⟨"RolledPicksModel", "clashOf", "(I)I"⟩, 39), (⟨"RolledPicksModel", "goesTo", "(II)I"⟩, 39), (⟨"RolledPicksModel", "chains", "(I)Z"⟩, 39), (⟨"RolledPicksModel", "isDeal", "(I)Z"⟩, 39), (⟨"RolledPicksModel", "standing", "(I)I"⟩, 39), (⟨"RolledPicksModel", "isLapsing", "(II)Z"⟩, 39), (⟨"RolledPicksModel", "moves", "(II)V"⟩, 39), (⟨"RolledPicksModel", "isOpen", "(I)Z"⟩, 39), (⟨"RolledPicksModel", "ownerUnder", "(II)I"⟩, 39), (⟨"RolledPicksModel", "ownerOf", "(I)I"⟩, 39), (⟨"RolledPicksModel", "chanceOf", "(II)I"⟩, 39), (⟨"RolledPicksModel", "worthOf", "(II)I"⟩, 39)]
theorem lw_r3 : ∀ q ∈ lw_privs_3, lw_okq q := List.forall_mem_cons.mpr ⟨lw_p32, List.forall_mem_cons.mpr ⟨lw_p33, List.forall_mem_cons.mpr ⟨lw_p34, List.forall_mem_cons.mpr ⟨lw_p35, List.forall_mem_cons.mpr ⟨lw_p36, List.forall_mem_cons.mpr ⟨lw_p37, List.forall_mem_cons.mpr ⟨lw_p38, List.forall_mem_cons.mpr ⟨lw_p39, List.forall_mem_cons.mpr ⟨lw_p40, List.forall_mem_cons.mpr ⟨lw_p41, List.forall_mem_cons.mpr ⟨lw_p42, List.forall_mem_cons.mpr ⟨lw_p43, List.forall_mem_cons.mpr ⟨lw_p44, List.forall_mem_cons.mpr ⟨lw_p45, List.forall_mem_cons.mpr ⟨lw_p46, List.forall_mem_cons.mpr ⟨lw_p47, fun _ h => absurd h List.not_mem_nil⟩⟩⟩⟩⟩⟩⟩⟩⟩⟩⟩⟩⟩⟩⟩⟩
theorem lw_p48 : lw_okq (⟨"RolledPicksModel", "valueFrom", "(III)J"⟩, 39) := ⟨⟨by decide +kernel, by decide +kernel⟩, List.mem_of_getElem? (i := 769) (by decide +kernel), List.mem_of_getElem? (i := 1124) (by decide +kernel), List.mem_of_getElem? (i := 1125) (by decide +kernel)⟩
theorem lw_p49 : lw_okq (⟨"RolledPicksModel", "findsFar", "(I)J"⟩, 39) := ⟨⟨by decide +kernel, by decide +kernel⟩, List.mem_of_getElem? (i := 769) (by decide +kernel), List.mem_of_getElem? (i := 1128) (by decide +kernel), List.mem_of_getElem? (i := 1129) (by decide +kernel)⟩
theorem lw_p50 : lw_okq (⟨"RolledPicksModel", "isTextClashing", "()Z"⟩, 39) := ⟨⟨by decide +kernel, by decide +kernel⟩, List.mem_of_getElem? (i := 769) (by decide +kernel), List.mem_of_getElem? (i := 1155) (by decide +kernel), List.mem_of_getElem? (i := 1156) (by decide +kernel)⟩
theorem lw_p51 : lw_okq (⟨"RolledPicksModel", "token", "()V"⟩, 39) := ⟨⟨by decide +kernel, by decide +kernel⟩, List.mem_of_getElem? (i := 769) (by decide +kernel), List.mem_of_getElem? (i := 1159) (by decide +kernel), List.mem_of_getElem? (i := 1160) (by decide +kernel)⟩
theorem lw_p52 : lw_okq (⟨"RolledPicksModel", "byteAt", "(I)I"⟩, 39) := ⟨⟨by decide +kernel, by decide +kernel⟩, List.mem_of_getElem? (i := 769) (by decide +kernel), List.mem_of_getElem? (i := 1163) (by decide +kernel), List.mem_of_getElem? (i := 1164) (by decide +kernel)⟩
theorem lw_p53 : lw_okq (⟨"RolledPicksModel", "isItemClashing", "()Z"⟩, 39) := ⟨⟨by decide +kernel, by decide +kernel⟩, List.mem_of_getElem? (i := 769) (by decide +kernel), List.mem_of_getElem? (i := 1177) (by decide +kernel), List.mem_of_getElem? (i := 1178) (by decide +kernel)⟩
theorem lw_p54 : lw_okq (⟨"RolledPicksModel", "isWord", "(I)Z"⟩, 39) := ⟨⟨by decide +kernel, by decide +kernel⟩, List.mem_of_getElem? (i := 769) (by decide +kernel), List.mem_of_getElem? (i := 1181) (by decide +kernel), List.mem_of_getElem? (i := 1182) (by decide +kernel)⟩
theorem lw_p55 : lw_okq (⟨"RolledPicksModel", "must", "(Z)V"⟩, 39) := ⟨⟨by decide +kernel, by decide +kernel⟩, List.mem_of_getElem? (i := 769) (by decide +kernel), List.mem_of_getElem? (i := 1185) (by decide +kernel), List.mem_of_getElem? (i := 1186) (by decide +kernel)⟩
theorem lw_p56 : lw_okq (⟨"RolledPicksModel", "number", "(II)I"⟩, 39) := ⟨⟨by decide +kernel, by decide +kernel⟩, List.mem_of_getElem? (i := 769) (by decide +kernel), List.mem_of_getElem? (i := 1189) (by decide +kernel), List.mem_of_getElem? (i := 1190) (by decide +kernel)⟩
theorem lw_p57 : lw_okq (⟨"RolledPicksModel", "numberHere", "()I"⟩, 39) := ⟨⟨by decide +kernel, by decide +kernel⟩, List.mem_of_getElem? (i := 769) (by decide +kernel), List.mem_of_getElem? (i := 1193) (by decide +kernel), List.mem_of_getElem? (i := 1194) (by decide +kernel)⟩
theorem lw_p58 : lw_okq (⟨"RolledPicksModel", "takes", "(I)Z"⟩, 39) := ⟨⟨by decide +kernel, by decide +kernel⟩, List.mem_of_getElem? (i := 769) (by decide +kernel), List.mem_of_getElem? (i := 1197) (by decide +kernel), List.mem_of_getElem? (i := 1198) (by decide +kernel)⟩
theorem lw_p59 : lw_okq (⟨"RolledPicksModel", "either", "()V"⟩, 39) := ⟨⟨by decide +kernel, by decide +kernel⟩, List.mem_of_getElem? (i := 769) (by decide +kernel), List.mem_of_getElem? (i := 1201) (by decide +kernel), List.mem_of_getElem? (i := 1202) (by decide +kernel)⟩
theorem lw_p60 : lw_okq (⟨"RolledPicksModel", "both", "()V"⟩, 39) := ⟨⟨by decide +kernel, by decide +kernel⟩, List.mem_of_getElem? (i := 769) (by decide +kernel), List.mem_of_getElem? (i := 1205) (by decide +kernel), List.mem_of_getElem? (i := 1206) (by decide +kernel)⟩
theorem lw_p61 : lw_okq (⟨"RolledPicksModel", "factor", "()V"⟩, 39) := ⟨⟨by decide +kernel, by decide +kernel⟩, List.mem_of_getElem? (i := 769) (by decide +kernel), List.mem_of_getElem? (i := 1209) (by decide +kernel), List.mem_of_getElem? (i := 1210) (by decide +kernel)⟩
theorem lw_p62 : lw_okq (⟨"RolledPicksModel", "isSign", "(I)Z"⟩, 39) := ⟨⟨by decide +kernel, by decide +kernel⟩, List.mem_of_getElem? (i := 769) (by decide +kernel), List.mem_of_getElem? (i := 1213) (by decide +kernel), List.mem_of_getElem? (i := 1214) (by decide +kernel)⟩
theorem lw_p63 : lw_okq (⟨"RolledPicksModel", "codes", "(I)V"⟩, 39) := ⟨⟨by decide +kernel, by decide +kernel⟩, List.mem_of_getElem? (i := 769) (by decide +kernel), List.mem_of_getElem? (i := 1217) (by decide +kernel), List.mem_of_getElem? (i := 1218) (by decide +kernel)⟩
def lw_privs_4 : List (MethodName × Nat) := [(⟨"RolledPicksModel", "valueFrom", "(III)J"⟩, 39), (⟨"RolledPicksModel", "findsFar", "(I)J"⟩, 39), (⟨"RolledPicksModel", "isTextClashing", "()Z"⟩, 39), (⟨"RolledPicksModel", "token", "()V"⟩, 39), (⟨"RolledPicksModel", "byteAt", "(I)I"⟩, 39), (⟨"RolledPicksModel", "isItemClashing", "()Z"⟩, 39), (⟨"RolledPicksModel", "isWord", "(I)Z"⟩, 39), (⟨"RolledPicksModel", "must", "(Z)V"⟩, 39), (⟨"RolledPicksModel", "number", "(II)I"⟩, 39), (⟨"RolledPicksModel", "numberHere", "()I"⟩, 39), (⟨"RolledPicksModel", "takes", "(I)Z"⟩, 39), (⟨"RolledPicksModel", "either", "()V"⟩, 39), (⟨"RolledPicksModel", "both", "()V"⟩, 39), (⟨"RolledPicksModel", "factor", "()V"⟩, 39), (⟨"RolledPicksModel", "isSign", "(I)Z"⟩, 39), (⟨"RolledPicksModel", "codes", "(I)V"⟩, 39)]
theorem lw_r4 : ∀ q ∈ lw_privs_4, lw_okq q := List.forall_mem_cons.mpr ⟨lw_p48, List.forall_mem_cons.mpr ⟨lw_p49, List.forall_mem_cons.mpr ⟨lw_p50, List.forall_mem_cons.mpr ⟨lw_p51, List.forall_mem_cons.mpr ⟨lw_p52, List.forall_mem_cons.mpr ⟨lw_p53, List.forall_mem_cons.mpr ⟨lw_p54, List.forall_mem_cons.mpr ⟨lw_p55, List.forall_mem_cons.mpr ⟨lw_p56, List.forall_mem_cons.mpr ⟨lw_p57, List.forall_mem_cons.mpr ⟨lw_p58, List.forall_mem_cons.mpr ⟨lw_p59, List.forall_mem_cons.mpr ⟨lw_p60, List.forall_mem_cons.mpr ⟨lw_p61, List.forall_mem_cons.mpr ⟨lw_p62, List.forall_mem_cons.mpr ⟨lw_p63, fun _ h => absurd h List.not_mem_nil⟩⟩⟩⟩⟩⟩⟩⟩⟩⟩⟩⟩⟩⟩⟩⟩
theorem lw_p64 : lw_okq (⟨"RolledPicksModel", "three", "(IZ)V"⟩, 39) := ⟨⟨by decide +kernel, by decide +kernel⟩, List.mem_of_getElem? (i := 769) (by decide +kernel), List.mem_of_getElem? (i := 1221) (by decide +kernel), List.mem_of_getElem? (i := 1222) (by decide +kernel)⟩
theorem lw_p65 : lw_okq (⟨"RolledPicksModel", "laysCondition", "()V"⟩, 39) := ⟨⟨by decide +kernel, by decide +kernel⟩, List.mem_of_getElem? (i := 769) (by decide +kernel), List.mem_of_getElem? (i := 1225) (by decide +kernel), List.mem_of_getElem? (i := 1226) (by decide +kernel)⟩
theorem lw_p66 : lw_okq (⟨"RolledPicksModel", "isTrue", "(I)Z"⟩, 39) := ⟨⟨by decide +kernel, by decide +kernel⟩, List.mem_of_getElem? (i := 769) (by decide +kernel), List.mem_of_getElem? (i := 1229) (by decide +kernel), List.mem_of_getElem? (i := 1230) (by decide +kernel)⟩
theorem lw_p67 : lw_okq (⟨"RolledPicksModel", "isTest", "(II)Z"⟩, 39) := ⟨⟨by decide +kernel, by decide +kernel⟩, List.mem_of_getElem? (i := 769) (by decide +kernel), List.mem_of_getElem? (i := 1233) (by decide +kernel), List.mem_of_getElem? (i := 1234) (by decide +kernel)⟩
theorem lw_p68 : lw_okq (⟨"RolledPicksModel", "areAll", "(I)Z"⟩, 39) := ⟨⟨by decide +kernel, by decide +kernel⟩, List.mem_of_getElem? (i := 769) (by decide +kernel), List.mem_of_getElem? (i := 1263) (by decide +kernel), List.mem_of_getElem? (i := 1264) (by decide +kernel)⟩
theorem lw_p69 : lw_okq (⟨"RolledPicksModel", "goesOver", "(I)Z"⟩, 39) := ⟨⟨by decide +kernel, by decide +kernel⟩, List.mem_of_getElem? (i := 769) (by decide +kernel), List.mem_of_getElem? (i := 1267) (by decide +kernel), List.mem_of_getElem? (i := 1268) (by decide +kernel)⟩
theorem lw_p70 : lw_okq (⟨"RolledPicksModel", "goesBy", "(II)Z"⟩, 39) := ⟨⟨by decide +kernel, by decide +kernel⟩, List.mem_of_getElem? (i := 769) (by decide +kernel), List.mem_of_getElem? (i := 1271) (by decide +kernel), List.mem_of_getElem? (i := 1272) (by decide +kernel)⟩
def lw_privs_5 : List (MethodName × Nat) := [(⟨"RolledPicksModel", "three", "(IZ)V"⟩, 39), (⟨"RolledPicksModel", "laysCondition", "()V"⟩, 39), (⟨"RolledPicksModel", "isTrue", "(I)Z"⟩, 39), (⟨"RolledPicksModel", "isTest", "(II)Z"⟩, 39), (⟨"RolledPicksModel", "areAll", "(I)Z"⟩, 39), (⟨"RolledPicksModel", "goesOver", "(I)Z"⟩, 39), (⟨"RolledPicksModel", "goesBy", "(II)Z"⟩, 39)]
theorem lw_r5 : ∀ q ∈ lw_privs_5, lw_okq q := List.forall_mem_cons.mpr ⟨lw_p64, List.forall_mem_cons.mpr ⟨lw_p65, List.forall_mem_cons.mpr ⟨lw_p66, List.forall_mem_cons.mpr ⟨lw_p67, List.forall_mem_cons.mpr ⟨lw_p68, List.forall_mem_cons.mpr ⟨lw_p69, List.forall_mem_cons.mpr ⟨lw_p70, fun _ h => absurd h List.not_mem_nil⟩⟩⟩⟩⟩⟩⟩
def lw_privs : List (MethodName × Nat) := lw_privs_1 ++ (lw_privs_2 ++ (lw_privs_3 ++ (lw_privs_4 ++ (lw_privs_5))))
def lw_tbl : List Cond := k2_sels lw_privs ++ tables_1
theorem lw_privs_ok : ∀ q ∈ lw_privs, lw_okq q := by
  show ∀ q ∈ lw_privs_1 ++ (lw_privs_2 ++ (lw_privs_3 ++ (lw_privs_4 ++ (lw_privs_5)))), lw_okq q
  exact List.forall_mem_append.mpr ⟨lw_r1, List.forall_mem_append.mpr ⟨lw_r2, List.forall_mem_append.mpr ⟨lw_r3, List.forall_mem_append.mpr ⟨lw_r4, lw_r5⟩⟩⟩⟩
end
section
-- names: classes, fields in the order of the slots, methods
def RX0 : String := "RolledPicks$Book"
def TX0 : u_T := fun k => match k with
  | 0 => ("RolledPicks$Book", "deals", "[LRolledPicks$Deal;", true)
  | 1 => ("RolledPicks$Book", "dealCount", "I", false)
  | 2 => ("RolledPicks$Book", "orders", "[I", true)
  | 3 => ("RolledPicks$Book", "fallenYears", "I", false)
  | 4 => ("RolledPicks$Book", "worths", "[I", true)
  | _ => ("RolledPicks$Book", "z", "I", false)
def tyX0 : Nat → FieldType := fun k => match k with
  | 0 => .array (.object "RolledPicks$Deal")
  | 1 => .int
  | 2 => .array .int
  | 3 => .int
  | 4 => .array .int
  | _ => .int
theorem nmX0 : ∀ a, a < 6 → ∀ b, b < 6 → a ≠ b → (TX0 a).2.1 ≠ (TX0 b).2.1 := by decide +kernel
theorem tyX0_ok : ∀ k, k < 6 → parseFieldDescriptor (TX0 k).2.2.1 = some (tyX0 k) := by decide +kernel
def RX1 : String := "RolledPicks$Deal"
def TX1 : u_T := fun k => match k with
  | 0 => ("RolledPicks$Deal", "kind", "I", true)
  | 1 => ("RolledPicks$Deal", "from", "I", true)
  | 2 => ("RolledPicks$Deal", "to", "I", true)
  | 3 => ("RolledPicks$Deal", "pick", "I", true)
  | 4 => ("RolledPicks$Deal", "other", "I", true)
  | 5 => ("RolledPicks$Deal", "n", "I", true)
  | _ => ("RolledPicks$Deal", "condition", "LRolledPicks$Standings;", true)
def tyX1 : Nat → FieldType := fun k => match k with
  | 0 => .int
  | 1 => .int
  | 2 => .int
  | 3 => .int
  | 4 => .int
  | 5 => .int
  | _ => .object "RolledPicks$Standings"
theorem nmX1 : ∀ a, a < 7 → ∀ b, b < 7 → a ≠ b → (TX1 a).2.1 ≠ (TX1 b).2.1 := by decide +kernel
theorem tyX1_ok : ∀ k, k < 7 → parseFieldDescriptor (TX1 k).2.2.1 = some (tyX1 k) := by decide +kernel
def RX2 : String := "RolledPicks$Owners"
def TX2 : u_T := fun k => match k with
  | _ => ("RolledPicks$Owners", "rows", "[I", true)
def tyX2 : Nat → FieldType := fun k => match k with
  | _ => .array .int
theorem nmX2 : ∀ a, a < 1 → ∀ b, b < 1 → a ≠ b → (TX2 a).2.1 ≠ (TX2 b).2.1 := by decide +kernel
theorem tyX2_ok : ∀ k, k < 1 → parseFieldDescriptor (TX2 k).2.2.1 = some (tyX2 k) := by decide +kernel
def RX3 : String := "RolledPicks$Reader"
def TX3 : u_T := fun k => match k with
  | 0 => ("RolledPicks$Reader", "tape", "LRolledPicks$Tape;", true)
  | 1 => ("RolledPicks$Reader", "came", "[LRolledPicks$Deal;", true)
  | 2 => ("RolledPicks$Reader", "cameCount", "I", false)
  | _ => ("RolledPicks$Reader", "spare", "[LRolledPicks$Standings;", true)
def tyX3 : Nat → FieldType := fun k => match k with
  | 0 => .object "RolledPicks$Tape"
  | 1 => .array (.object "RolledPicks$Deal")
  | 2 => .int
  | _ => .array (.object "RolledPicks$Standings")
theorem nmX3 : ∀ a, a < 4 → ∀ b, b < 4 → a ≠ b → (TX3 a).2.1 ≠ (TX3 b).2.1 := by decide +kernel
theorem tyX3_ok : ∀ k, k < 4 → parseFieldDescriptor (TX3 k).2.2.1 = some (tyX3 k) := by decide +kernel
def RX4 : String := "RolledPicks$Rounds"
def TX4 : u_T := fun k => match k with
  | 0 => ("RolledPicks$Rounds", "standing", "I", true)
  | 1 => ("RolledPicks$Rounds", "has", "[I", true)
  | 2 => ("RolledPicks$Rounds", "givenBy", "I", false)
  | _ => ("RolledPicks$Rounds", "gotBackBy", "I", false)
def tyX4 : Nat → FieldType := fun k => match k with
  | 0 => .int
  | 1 => .array .int
  | 2 => .int
  | _ => .int
theorem nmX4 : ∀ a, a < 4 → ∀ b, b < 4 → a ≠ b → (TX4 a).2.1 ≠ (TX4 b).2.1 := by decide +kernel
theorem tyX4_ok : ∀ k, k < 4 → parseFieldDescriptor (TX4 k).2.2.1 = some (tyX4 k) := by decide +kernel
def RX5 : String := "RolledPicks$Sheet"
def TX5 : u_T := fun k => match k with
  | 0 => ("RolledPicks$Sheet", "numbers", "[J", true)
  | 1 => ("RolledPicks$Sheet", "sort", "I", false)
  | _ => ("RolledPicks$Sheet", "length", "I", false)
def tyX5 : Nat → FieldType := fun k => match k with
  | 0 => .array .long
  | 1 => .int
  | _ => .int
theorem nmX5 : ∀ a, a < 3 → ∀ b, b < 3 → a ≠ b → (TX5 a).2.1 ≠ (TX5 b).2.1 := by decide +kernel
theorem tyX5_ok : ∀ k, k < 3 → parseFieldDescriptor (TX5 k).2.2.1 = some (tyX5 k) := by decide +kernel
def RX6 : String := "RolledPicks$Standings"
def TX6 : u_T := fun k => match k with
  | _ => ("RolledPicks$Standings", "words", "[J", true)
def tyX6 : Nat → FieldType := fun k => match k with
  | _ => .array .long
theorem nmX6 : ∀ a, a < 1 → ∀ b, b < 1 → a ≠ b → (TX6 a).2.1 ≠ (TX6 b).2.1 := by decide +kernel
theorem tyX6_ok : ∀ k, k < 1 → parseFieldDescriptor (TX6 k).2.2.1 = some (tyX6 k) := by decide +kernel
def RX7 : String := "RolledPicks$Tape"
def TX7 : u_T := fun k => match k with
  | 0 => ("RolledPicks$Tape", "bytes", "[B", true)
  | 1 => ("RolledPicks$Tape", "length", "I", false)
  | 2 => ("RolledPicks$Tape", "tokenAt", "I", false)
  | _ => ("RolledPicks$Tape", "tokenEnd", "I", false)
def tyX7 : Nat → FieldType := fun k => match k with
  | 0 => .array .byte
  | 1 => .int
  | 2 => .int
  | _ => .int
theorem nmX7 : ∀ a, a < 4 → ∀ b, b < 4 → a ≠ b → (TX7 a).2.1 ≠ (TX7 b).2.1 := by decide +kernel
theorem tyX7_ok : ∀ k, k < 4 → parseFieldDescriptor (TX7 k).2.2.1 = some (tyX7 k) := by decide +kernel
def RX8 : String := "RolledPicks"
def TX8 : u_T := fun k => match k with
  | 0 => ("RolledPicks", "book", "LRolledPicks$Book;", true)
  | 1 => ("RolledPicks", "pile", "[LRolledPicks$Book;", true)
  | 2 => ("RolledPicks", "images", "I", false)
  | 3 => ("RolledPicks", "owners", "LRolledPicks$Owners;", true)
  | 4 => ("RolledPicks", "reader", "LRolledPicks$Reader;", true)
  | 5 => ("RolledPicks", "sheets", "[LRolledPicks$Sheet;", true)
  | 6 => ("RolledPicks", "spots", "[LRolledPicks$Deal;", true)
  | 7 => ("RolledPicks", "told", "[I", true)
  | _ => ("RolledPicks", "findings", "[I", true)
def tyX8 : Nat → FieldType := fun k => match k with
  | 0 => .object "RolledPicks$Book"
  | 1 => .array (.object "RolledPicks$Book")
  | 2 => .int
  | 3 => .object "RolledPicks$Owners"
  | 4 => .object "RolledPicks$Reader"
  | 5 => .array (.object "RolledPicks$Sheet")
  | 6 => .array (.object "RolledPicks$Deal")
  | 7 => .array .int
  | _ => .array .int
theorem nmX8 : ∀ a, a < 9 → ∀ b, b < 9 → a ≠ b → (TX8 a).2.1 ≠ (TX8 b).2.1 := by decide +kernel
theorem tyX8_ok : ∀ k, k < 9 → parseFieldDescriptor (TX8 k).2.2.1 = some (tyX8 k) := by decide +kernel
def RX9 : String := "RolledPicksModel"
def TX9 : u_T := fun k => match k with
  | 0 => ("RolledPicksModel", "findings", "[I", true)
  | 1 => ("RolledPicksModel", "fallen", "I", false)
  | 2 => ("RolledPicksModel", "orderOf", "[I", true)
  | 3 => ("RolledPicksModel", "z", "I", false)
  | 4 => ("RolledPicksModel", "many", "I", false)
  | 5 => ("RolledPicksModel", "deal", "[I", true)
  | 6 => ("RolledPicksModel", "where", "[I", true)
  | 7 => ("RolledPicksModel", "born", "I", false)
  | 8 => ("RolledPicksModel", "clashed", "[I", true)
  | 9 => ("RolledPicksModel", "sent", "[I", true)
  | 10 => ("RolledPicksModel", "chainOf", "[I", true)
  | 11 => ("RolledPicksModel", "chainLong", "I", false)
  | 12 => ("RolledPicksModel", "price", "[I", true)
  | 13 => ("RolledPicksModel", "tape", "[I", true)
  | 14 => ("RolledPicksModel", "taped", "I", false)
  | 15 => ("RolledPicksModel", "from", "I", false)
  | 16 => ("RolledPicksModel", "end", "I", false)
  | 17 => ("RolledPicksModel", "value", "I", false)
  | 18 => ("RolledPicksModel", "isWrong", "Z", false)
  | 19 => ("RolledPicksModel", "comesTrue", "Z", false)
  | 20 => ("RolledPicksModel", "found", "I", false)
  | 21 => ("RolledPicksModel", "opened", "I", false)
  | 22 => ("RolledPicksModel", "code", "[I", true)
  | 23 => ("RolledPicksModel", "codeLong", "I", false)
  | 24 => ("RolledPicksModel", "stack", "[Z", true)
  | 25 => ("RolledPicksModel", "words", "[C", true)
  | 26 => ("RolledPicksModel", "sortOf", "[I", true)
  | 27 => ("RolledPicksModel", "sizeOf", "[I", true)
  | 28 => ("RolledPicksModel", "numbers", "[J", true)
  | 29 => ("RolledPicksModel", "moved", "[J", true)
  | 30 => ("RolledPicksModel", "has", "[I", true)
  | 31 => ("RolledPicksModel", "gone", "[I", true)
  | 32 => ("RolledPicksModel", "spotHas", "[I", true)
  | 33 => ("RolledPicksModel", "spotWho", "[I", true)
  | 34 => ("RolledPicksModel", "spotKind", "[I", true)
  | 35 => ("RolledPicksModel", "piled", "I", false)
  | 36 => ("RolledPicksModel", "pileDeals", "[I", true)
  | 37 => ("RolledPicksModel", "pileWhere", "[I", true)
  | _ => ("RolledPicksModel", "pileRest", "[I", true)
def tyX9 : Nat → FieldType := fun k => match k with
  | 0 => .array .int
  | 1 => .int
  | 2 => .array .int
  | 3 => .int
  | 4 => .int
  | 5 => .array .int
  | 6 => .array .int
  | 7 => .int
  | 8 => .array .int
  | 9 => .array .int
  | 10 => .array .int
  | 11 => .int
  | 12 => .array .int
  | 13 => .array .int
  | 14 => .int
  | 15 => .int
  | 16 => .int
  | 17 => .int
  | 18 => .boolean
  | 19 => .boolean
  | 20 => .int
  | 21 => .int
  | 22 => .array .int
  | 23 => .int
  | 24 => .array .boolean
  | 25 => .array .char
  | 26 => .array .int
  | 27 => .array .int
  | 28 => .array .long
  | 29 => .array .long
  | 30 => .array .int
  | 31 => .array .int
  | 32 => .array .int
  | 33 => .array .int
  | 34 => .array .int
  | 35 => .int
  | 36 => .array .int
  | 37 => .array .int
  | _ => .array .int
theorem nmX9 : ∀ a, a < 39 → ∀ b, b < 39 → a ≠ b → (TX9 a).2.1 ≠ (TX9 b).2.1 := by decide +kernel
theorem tyX9_ok : ∀ k, k < 39 → parseFieldDescriptor (TX9 k).2.2.1 = some (tyX9 k) := by decide +kernel
def RJ9 : String := "java/lang/Math"
def RJ0 : String := "java/lang/String"
def RJ1 : String := "java/lang/StringLatin1"
def RJ2 : String := "java/lang/StringUTF16"
def RJ10 : String := "java/lang/System"
def RJ3 : String := "jdk/internal/util/Preconditions"
def RL : String := "RolledPicksLaw"
abbrev vwCl : List vw_C := [(RX0, TX0, 6), (RX1, TX1, 7), (RX2, TX2, 1), (RX3, TX3, 4), (RX4, TX4, 4), (RX5, TX5, 3), (RX6, TX6, 1), (RX7, TX7, 4), (RX8, TX8, 9), (RX9, TX9, 39)]
/-- a method: its name, its bytes, how many locals, what it answers -/
abbrev MD : Type := MethodName × ByteArray × Nat × Option FieldType
abbrev cX0_init : ByteArray := prog_2_method_1_code
def yX0_init : MethodName := ⟨RX0, "<init>", "()V"⟩
def mX0_init : MD := (yX0_init, cX0_init, 1, none)
abbrev cX0_become : ByteArray := prog_2_method_2_code
def yX0_become : MethodName := ⟨RX0, "become", "(LRolledPicks$Book;)V"⟩
def mX0_become : MD := (yX0_become, cX0_become, 3, none)
abbrev cX0_firstOpen : ByteArray := prog_2_method_3_code
def yX0_firstOpen : MethodName := ⟨RX0, "firstOpen", "()I"⟩
def mX0_firstOpen : MD := (yX0_firstOpen, cX0_firstOpen, 3, some .int)
abbrev cX0_openCount : ByteArray := prog_2_method_4_code
def yX0_openCount : MethodName := ⟨RX0, "openCount", "()I"⟩
def mX0_openCount : MD := (yX0_openCount, cX0_openCount, 1, some .int)
abbrev cX0_endOpen : ByteArray := prog_2_method_5_code
def yX0_endOpen : MethodName := ⟨RX0, "endOpen", "()I"⟩
def mX0_endOpen : MD := (yX0_endOpen, cX0_endOpen, 1, some .int)
abbrev cX0_isOpen : ByteArray := prog_2_method_6_code
def yX0_isOpen : MethodName := ⟨RX0, "isOpen", "(I)Z"⟩
def mX0_isOpen : MD := (yX0_isOpen, cX0_isOpen, 2, some .boolean)
abbrev cX0_dealAt : ByteArray := prog_2_method_7_code
def yX0_dealAt : MethodName := ⟨RX0, "dealAt", "(I)LRolledPicks$Deal;"⟩
def mX0_dealAt : MD := (yX0_dealAt, cX0_dealAt, 2, some (.object "RolledPicks$Deal"))
abbrev cX0_numberOf : ByteArray := prog_2_method_8_code
def yX0_numberOf : MethodName := ⟨RX0, "numberOf", "(LRolledPicks$Deal;)I"⟩
def mX0_numberOf : MD := (yX0_numberOf, cX0_numberOf, 3, some .int)
abbrev cX0_clashOf : ByteArray := prog_2_method_9_code
def yX0_clashOf : MethodName := ⟨RX0, "clashOf", "(IIII)I"⟩
def mX0_clashOf : MD := (yX0_clashOf, cX0_clashOf, 10, some .int)
abbrev cX1_init : ByteArray := prog_3_method_1_code
def yX1_init : MethodName := ⟨RX1, "<init>", "(IIIIIILRolledPicks$Standings;)V"⟩
def mX1_init : MD := (yX1_init, cX1_init, 8, none)
abbrev cX1_isMet : ByteArray := prog_3_method_2_code
def yX1_isMet : MethodName := ⟨RX1, "isMet", "(I)Z"⟩
def mX1_isMet : MD := (yX1_isMet, cX1_isMet, 2, some .boolean)
abbrev cX1_gives : ByteArray := prog_3_method_3_code
def yX1_gives : MethodName := ⟨RX1, "gives", "(I)I"⟩
def mX1_gives : MD := (yX1_gives, cX1_gives, 5, some .int)
abbrev cX1_getsBack : ByteArray := prog_3_method_4_code
def yX1_getsBack : MethodName := ⟨RX1, "getsBack", "(I)I"⟩
def mX1_getsBack : MD := (yX1_getsBack, cX1_getsBack, 2, some .int)
abbrev cX1_takerOf : ByteArray := prog_3_method_5_code
def yX1_takerOf : MethodName := ⟨RX1, "takerOf", "(II)I"⟩
def mX1_takerOf : MD := (yX1_takerOf, cX1_takerOf, 3, some .int)
abbrev cX1_mayGive : ByteArray := prog_3_method_6_code
def yX1_mayGive : MethodName := ⟨RX1, "mayGive", "(I)Z"⟩
def mX1_mayGive : MD := (yX1_mayGive, cX1_mayGive, 2, some .boolean)
abbrev cX2_init : ByteArray := prog_4_method_1_code
def yX2_init : MethodName := ⟨RX2, "<init>", "()V"⟩
def mX2_init : MD := (yX2_init, cX2_init, 1, none)
abbrev cX2_at : ByteArray := prog_4_method_2_code
def yX2_at : MethodName := ⟨RX2, "at", "(II)I"⟩
def mX2_at : MD := (yX2_at, cX2_at, 3, some .int)
abbrev cX2_startAll : ByteArray := prog_4_method_3_code
def yX2_startAll : MethodName := ⟨RX2, "startAll", "(II)V"⟩
def mX2_startAll : MD := (yX2_startAll, cX2_startAll, 4, none)
abbrev cX2_settle : ByteArray := prog_4_method_4_code
def yX2_settle : MethodName := ⟨RX2, "settle", "(LRolledPicks$Deal;II)V"⟩
def mX2_settle : MD := (yX2_settle, cX2_settle, 6, none)
abbrev cX2_give : ByteArray := prog_4_method_5_code
def yX2_give : MethodName := ⟨RX2, "give", "(III)V"⟩
def mX2_give : MD := (yX2_give, cX2_give, 4, none)
abbrev cX3_init : ByteArray := prog_5_method_1_code
def yX3_init : MethodName := ⟨RX3, "<init>", "()V"⟩
def mX3_init : MD := (yX3_init, cX3_init, 2, none)
abbrev cX3_cameAt : ByteArray := prog_5_method_2_code
def yX3_cameAt : MethodName := ⟨RX3, "cameAt", "(I)LRolledPicks$Deal;"⟩
def mX3_cameAt : MD := (yX3_cameAt, cX3_cameAt, 2, some (.object "RolledPicks$Deal"))
abbrev cX3_readText : ByteArray := prog_5_method_3_code
def yX3_readText : MethodName := ⟨RX3, "readText", "(LRolledPicks$Book;)I"⟩
def mX3_readText : MD := (yX3_readText, cX3_readText, 4, some .int)
abbrev cX3_readItem : ByteArray := prog_5_method_4_code
def yX3_readItem : MethodName := ⟨RX3, "readItem", "(LRolledPicks$Book;)Z"⟩
def mX3_readItem : MD := (yX3_readItem, cX3_readItem, 11, some .boolean)
abbrev cX3_readKind : ByteArray := prog_5_method_5_code
def yX3_readKind : MethodName := ⟨RX3, "readKind", "()I"⟩
def mX3_readKind : MD := (yX3_readKind, cX3_readKind, 1, some .int)
abbrev cX3_readAny : ByteArray := prog_5_method_6_code
def yX3_readAny : MethodName := ⟨RX3, "readAny", "(LRolledPicks$Book;LRolledPicks$Standings;I)Z"⟩
def mX3_readAny : MD := (yX3_readAny, cX3_readAny, 9, some .boolean)
abbrev cX3_readOne : ByteArray := prog_5_method_7_code
def yX3_readOne : MethodName := ⟨RX3, "readOne", "(LRolledPicks$Book;LRolledPicks$Standings;I)Z"⟩
def mX3_readOne : MD := (yX3_readOne, cX3_readOne, 9, some .boolean)
abbrev cX3_dealByThen : ByteArray := prog_5_method_8_code
def yX3_dealByThen : MethodName := ⟨RX3, "dealByThen", "(LRolledPicks$Book;I)LRolledPicks$Deal;"⟩
def mX3_dealByThen : MD := (yX3_dealByThen, cX3_dealByThen, 3, some (.object "RolledPicks$Deal"))
abbrev cX4_init : ByteArray := prog_6_method_1_code
def yX4_init : MethodName := ⟨RX4, "<init>", "(I)V"⟩
def mX4_init : MD := (yX4_init, cX4_init, 3, none)
abbrev cX4_move : ByteArray := prog_6_method_2_code
def yX4_move : MethodName := ⟨RX4, "move", "(LRolledPicks$Deal;I)Z"⟩
def mX4_move : MD := (yX4_move, cX4_move, 6, some .boolean)
abbrev cX5_init : ByteArray := prog_7_method_1_code
def yX5_init : MethodName := ⟨RX5, "<init>", "()V"⟩
def mX5_init : MD := (yX5_init, cX5_init, 1, none)
abbrev cX5_isMissing : ByteArray := prog_7_method_2_code
def yX5_isMissing : MethodName := ⟨RX5, "isMissing", "()Z"⟩
def mX5_isMissing : MD := (yX5_isMissing, cX5_isMissing, 1, some .boolean)
abbrev cX5_become : ByteArray := prog_7_method_3_code
def yX5_become : MethodName := ⟨RX5, "become", "(II)V"⟩
def mX5_become : MD := (yX5_become, cX5_become, 4, none)
abbrev cX5_put : ByteArray := prog_7_method_4_code
def yX5_put : MethodName := ⟨RX5, "put", "(IJ)V"⟩
def mX5_put : MD := (yX5_put, cX5_put, 4, none)
abbrev cX5_hasRun : ByteArray := prog_7_method_5_code
def yX5_hasRun : MethodName := ⟨RX5, "hasRun", "(II)Z"⟩
def mX5_hasRun : MD := (yX5_hasRun, cX5_hasRun, 3, some .boolean)
abbrev cX6_init : ByteArray := prog_8_method_1_code
def yX6_init : MethodName := ⟨RX6, "<init>", "()V"⟩
def mX6_init : MD := (yX6_init, cX6_init, 1, none)
abbrev cX6_has : ByteArray := prog_8_method_2_code
def yX6_has : MethodName := ⟨RX6, "has", "(I)Z"⟩
def mX6_has : MD := (yX6_has, cX6_has, 2, some .boolean)
abbrev cX6_becomeAhead : ByteArray := prog_8_method_3_code
def yX6_becomeAhead : MethodName := ⟨RX6, "becomeAhead", "(II)V"⟩
def mX6_becomeAhead : MD := (yX6_becomeAhead, cX6_becomeAhead, 4, none)
abbrev cX6_becomeAt : ByteArray := prog_8_method_4_code
def yX6_becomeAt : MethodName := ⟨RX6, "becomeAt", "(II)V"⟩
def mX6_becomeAt : MD := (yX6_becomeAt, cX6_becomeAt, 4, none)
abbrev cX6_becomeLapsed : ByteArray := prog_8_method_5_code
def yX6_becomeLapsed : MethodName := ⟨RX6, "becomeLapsed", "(LRolledPicks$Deal;)V"⟩
def mX6_becomeLapsed : MD := (yX6_becomeLapsed, cX6_becomeLapsed, 3, none)
abbrev cX6_clear : ByteArray := prog_8_method_6_code
def yX6_clear : MethodName := ⟨RX6, "clear", "()V"⟩
def mX6_clear : MD := (yX6_clear, cX6_clear, 2, none)
abbrev cX6_turn : ByteArray := prog_8_method_7_code
def yX6_turn : MethodName := ⟨RX6, "turn", "()V"⟩
def mX6_turn : MD := (yX6_turn, cX6_turn, 2, none)
abbrev cX6_join : ByteArray := prog_8_method_8_code
def yX6_join : MethodName := ⟨RX6, "join", "(LRolledPicks$Standings;)V"⟩
def mX6_join : MD := (yX6_join, cX6_join, 3, none)
abbrev cX6_meet : ByteArray := prog_8_method_9_code
def yX6_meet : MethodName := ⟨RX6, "meet", "(LRolledPicks$Standings;)V"⟩
def mX6_meet : MD := (yX6_meet, cX6_meet, 3, none)
abbrev cX6_set : ByteArray := prog_8_method_10_code
def yX6_set : MethodName := ⟨RX6, "set", "(IZ)V"⟩
def mX6_set : MD := (yX6_set, cX6_set, 6, none)
abbrev cX7_init : ByteArray := prog_9_method_1_code
def yX7_init : MethodName := ⟨RX7, "<init>", "()V"⟩
def mX7_init : MD := (yX7_init, cX7_init, 1, none)
abbrev cX7_add : ByteArray := prog_9_method_2_code
def yX7_add : MethodName := ⟨RX7, "add", "(B)V"⟩
def mX7_add : MD := (yX7_add, cX7_add, 2, none)
abbrev cX7_start : ByteArray := prog_9_method_3_code
def yX7_start : MethodName := ⟨RX7, "start", "()V"⟩
def mX7_start : MD := (yX7_start, cX7_start, 1, none)
abbrev cX7_tokenPlace : ByteArray := prog_9_method_4_code
def yX7_tokenPlace : MethodName := ⟨RX7, "tokenPlace", "()I"⟩
def mX7_tokenPlace : MD := (yX7_tokenPlace, cX7_tokenPlace, 1, some .int)
abbrev cX7_isAtEnd : ByteArray := prog_9_method_5_code
def yX7_isAtEnd : MethodName := ⟨RX7, "isAtEnd", "()Z"⟩
def mX7_isAtEnd : MD := (yX7_isAtEnd, cX7_isAtEnd, 1, some .boolean)
abbrev cX7_takes : ByteArray := prog_9_method_6_code
def yX7_takes : MethodName := ⟨RX7, "takes", "(Ljava/lang/String;)Z"⟩
def mX7_takes : MD := (yX7_takes, cX7_takes, 3, some .boolean)
abbrev cX7_takeNumber : ByteArray := prog_9_method_7_code
def yX7_takeNumber : MethodName := ⟨RX7, "takeNumber", "(III)I"⟩
def mX7_takeNumber : MD := (yX7_takeNumber, cX7_takeNumber, 5, some .int)
abbrev cX7_tokenNumber : ByteArray := prog_9_method_8_code
def yX7_tokenNumber : MethodName := ⟨RX7, "tokenNumber", "()I"⟩
def mX7_tokenNumber : MD := (yX7_tokenNumber, cX7_tokenNumber, 3, some .int)
abbrev cX7_step : ByteArray := prog_9_method_9_code
def yX7_step : MethodName := ⟨RX7, "step", "()V"⟩
def mX7_step : MD := (yX7_step, cX7_step, 2, none)
abbrev cX7_isLetter : ByteArray := prog_9_method_10_code
def yX7_isLetter : MethodName := ⟨RX7, "isLetter", "(B)Z"⟩
def mX7_isLetter : MD := (yX7_isLetter, cX7_isLetter, 1, some .boolean)
abbrev cX7_isDigit : ByteArray := prog_9_method_11_code
def yX7_isDigit : MethodName := ⟨RX7, "isDigit", "(B)Z"⟩
def mX7_isDigit : MD := (yX7_isDigit, cX7_isDigit, 1, some .boolean)
abbrev cX8_init : ByteArray := prog_1_method_1_code
def yX8_init : MethodName := ⟨RX8, "<init>", "()V"⟩
def mX8_init : MD := (yX8_init, cX8_init, 2, none)
abbrev cX8_order : ByteArray := prog_1_method_2_code
def yX8_order : MethodName := ⟨RX8, "order", "(II)I"⟩
def mX8_order : MD := (yX8_order, cX8_order, 3, some .int)
abbrev cX8_place : ByteArray := prog_1_method_3_code
def yX8_place : MethodName := ⟨RX8, "place", "(II)I"⟩
def mX8_place : MD := (yX8_place, cX8_place, 3, some .int)
abbrev cX8_fall : ByteArray := prog_1_method_4_code
def yX8_fall : MethodName := ⟨RX8, "fall", "(I)I"⟩
def mX8_fall : MD := (yX8_fall, cX8_fall, 2, some .int)
abbrev cX8_fallen : ByteArray := prog_1_method_5_code
def yX8_fallen : MethodName := ⟨RX8, "fallen", "(I)I"⟩
def mX8_fallen : MD := (yX8_fallen, cX8_fallen, 2, some .int)
abbrev cX8_draw : ByteArray := prog_1_method_6_code
def yX8_draw : MethodName := ⟨RX8, "draw", "()I"⟩
def mX8_draw : MD := (yX8_draw, cX8_draw, 1, some .int)
abbrev cX8_sale : ByteArray := prog_1_method_7_code
def yX8_sale : MethodName := ⟨RX8, "sale", "(IIIII)I"⟩
def mX8_sale : MD := (yX8_sale, cX8_sale, 7, some .int)
abbrev cX8_swap : ByteArray := prog_1_method_8_code
def yX8_swap : MethodName := ⟨RX8, "swap", "(IIIII)I"⟩
def mX8_swap : MD := (yX8_swap, cX8_swap, 6, some .int)
abbrev cX8_text : ByteArray := prog_1_method_9_code
def yX8_text : MethodName := ⟨RX8, "text", "()I"⟩
def mX8_text : MD := (yX8_text, cX8_text, 4, some .int)
abbrev cX8_of : ByteArray := prog_1_method_10_code
def yX8_of : MethodName := ⟨RX8, "of", "(II)I"⟩
def mX8_of : MD := (yX8_of, cX8_of, 4, some .int)
abbrev cX8_holds : ByteArray := prog_1_method_11_code
def yX8_holds : MethodName := ⟨RX8, "holds", "(II)I"⟩
def mX8_holds : MD := (yX8_holds, cX8_holds, 4, some .int)
abbrev cX8_conveys : ByteArray := prog_1_method_12_code
def yX8_conveys : MethodName := ⟨RX8, "conveys", "(III)I"⟩
def mX8_conveys : MD := (yX8_conveys, cX8_conveys, 6, some .int)
abbrev cX8_drop : ByteArray := prog_1_method_13_code
def yX8_drop : MethodName := ⟨RX8, "drop", "()I"⟩
def mX8_drop : MD := (yX8_drop, cX8_drop, 1, some .int)
abbrev cX8_prune : ByteArray := prog_1_method_14_code
def yX8_prune : MethodName := ⟨RX8, "prune", "()I"⟩
def mX8_prune : MD := (yX8_prune, cX8_prune, 5, some .int)
abbrev cX8_clash : ByteArray := prog_1_method_15_code
def yX8_clash : MethodName := ⟨RX8, "clash", "(I)I"⟩
def mX8_clash : MD := (yX8_clash, cX8_clash, 2, some .int)
abbrev cX8_owner : ByteArray := prog_1_method_16_code
def yX8_owner : MethodName := ⟨RX8, "owner", "(II)I"⟩
def mX8_owner : MD := (yX8_owner, cX8_owner, 3, some .int)
abbrev cX8_chain : ByteArray := prog_1_method_17_code
def yX8_chain : MethodName := ⟨RX8, "chain", "(III)I"⟩
def mX8_chain : MD := (yX8_chain, cX8_chain, 9, some .int)
abbrev cX8_hand : ByteArray := prog_1_method_18_code
def yX8_hand : MethodName := ⟨RX8, "hand", "(II)I"⟩
def mX8_hand : MD := (yX8_hand, cX8_hand, 5, some .int)
abbrev cX8_owners : ByteArray := prog_1_method_19_code
def yX8_owners : MethodName := ⟨RX8, "owners", "(I)I"⟩
def mX8_owners : MD := (yX8_owners, cX8_owners, 2, some .int)
abbrev cX8_sure : ByteArray := prog_1_method_20_code
def yX8_sure : MethodName := ⟨RX8, "sure", "(I)I"⟩
def mX8_sure : MD := (yX8_sure, cX8_sure, 4, some .int)
abbrev cX8_chance : ByteArray := prog_1_method_21_code
def yX8_chance : MethodName := ⟨RX8, "chance", "(II)I"⟩
def mX8_chance : MD := (yX8_chance, cX8_chance, 6, some .int)
abbrev cX8_least : ByteArray := prog_1_method_22_code
def yX8_least : MethodName := ⟨RX8, "least", "(II)I"⟩
def mX8_least : MD := (yX8_least, cX8_least, 5, some .int)
abbrev cX8_price : ByteArray := prog_1_method_23_code
def yX8_price : MethodName := ⟨RX8, "price", "(II)I"⟩
def mX8_price : MD := (yX8_price, cX8_price, 4, some .int)
abbrev cX8_worth : ByteArray := prog_1_method_24_code
def yX8_worth : MethodName := ⟨RX8, "worth", "(II)I"⟩
def mX8_worth : MD := (yX8_worth, cX8_worth, 3, some .int)
abbrev cX8_value : ByteArray := prog_1_method_25_code
def yX8_value : MethodName := ⟨RX8, "value", "(I)J"⟩
def mX8_value : MD := (yX8_value, cX8_value, 2, some .long)
abbrev cX8_best : ByteArray := prog_1_method_26_code
def yX8_best : MethodName := ⟨RX8, "best", "(II)I"⟩
def mX8_best : MD := (yX8_best, cX8_best, 8, some .int)
abbrev cX8_hope : ByteArray := prog_1_method_27_code
def yX8_hope : MethodName := ⟨RX8, "hope", "(I)I"⟩
def mX8_hope : MD := (yX8_hope, cX8_hope, 10, some .int)
abbrev cX8_rounds : ByteArray := prog_1_method_28_code
def yX8_rounds : MethodName := ⟨RX8, "rounds", "(II)I"⟩
def mX8_rounds : MD := (yX8_rounds, cX8_rounds, 4, some .int)
abbrev cX8_lays : ByteArray := prog_1_method_29_code
def yX8_lays : MethodName := ⟨RX8, "lays", "(II)I"⟩
def mX8_lays : MD := (yX8_lays, cX8_lays, 6, some .int)
abbrev cX8_judge : ByteArray := prog_1_method_30_code
def yX8_judge : MethodName := ⟨RX8, "judge", "(II)I"⟩
def mX8_judge : MD := (yX8_judge, cX8_judge, 6, some .int)
abbrev cX8_feed : ByteArray := prog_1_method_31_code
def yX8_feed : MethodName := ⟨RX8, "feed", "(II)I"⟩
def mX8_feed : MD := (yX8_feed, cX8_feed, 4, some .int)
abbrev cX8_wipe : ByteArray := prog_1_method_32_code
def yX8_wipe : MethodName := ⟨RX8, "wipe", "()I"⟩
def mX8_wipe : MD := (yX8_wipe, cX8_wipe, 2, some .int)
abbrev cX8_sheet : ByteArray := prog_1_method_33_code
def yX8_sheet : MethodName := ⟨RX8, "sheet", "(III)I"⟩
def mX8_sheet : MD := (yX8_sheet, cX8_sheet, 4, some .int)
abbrev cX8_write : ByteArray := prog_1_method_34_code
def yX8_write : MethodName := ⟨RX8, "write", "(IIJ)I"⟩
def mX8_write : MD := (yX8_write, cX8_write, 6, some .int)
abbrev cX8_item : ByteArray := prog_1_method_35_code
def yX8_item : MethodName := ⟨RX8, "item", "(II)J"⟩
def mX8_item : MD := (yX8_item, cX8_item, 4, some .long)
abbrev cX8_copy : ByteArray := prog_1_method_36_code
def yX8_copy : MethodName := ⟨RX8, "copy", "(IIIII)I"⟩
def mX8_copy : MD := (yX8_copy, cX8_copy, 8, some .int)
abbrev cX8_hold : ByteArray := prog_1_method_37_code
def yX8_hold : MethodName := ⟨RX8, "hold", "(II)I"⟩
def mX8_hold : MD := (yX8_hold, cX8_hold, 4, some .int)
abbrev cX8_taken : ByteArray := prog_1_method_38_code
def yX8_taken : MethodName := ⟨RX8, "taken", "(II)I"⟩
def mX8_taken : MD := (yX8_taken, cX8_taken, 4, some .int)
abbrev cX8_image : ByteArray := prog_1_method_39_code
def yX8_image : MethodName := ⟨RX8, "image", "()I"⟩
def mX8_image : MD := (yX8_image, cX8_image, 1, some .int)
abbrev cX8_back : ByteArray := prog_1_method_40_code
def yX8_back : MethodName := ⟨RX8, "back", "()I"⟩
def mX8_back : MD := (yX8_back, cX8_back, 1, some .int)
abbrev cX8_seed : ByteArray := prog_1_method_41_code
def yX8_seed : MethodName := ⟨RX8, "seed", "(I)I"⟩
def mX8_seed : MD := (yX8_seed, cX8_seed, 3, some .int)
abbrev cX8_count : ByteArray := prog_1_method_42_code
def yX8_count : MethodName := ⟨RX8, "count", "(I)I"⟩
def mX8_count : MD := (yX8_count, cX8_count, 2, some .int)
abbrev cX8_status : ByteArray := prog_1_method_43_code
def yX8_status : MethodName := ⟨RX8, "status", "(I)I"⟩
def mX8_status : MD := (yX8_status, cX8_status, 4, some .int)
abbrev cX8_isOutside : ByteArray := prog_1_method_44_code
def yX8_isOutside : MethodName := ⟨RX8, "isOutside", "(II)Z"⟩
def mX8_isOutside : MD := (yX8_isOutside, cX8_isOutside, 2, some .boolean)
abbrev cX8_areNoPair : ByteArray := prog_1_method_45_code
def yX8_areNoPair : MethodName := ⟨RX8, "areNoPair", "(II)Z"⟩
def mX8_areNoPair : MD := (yX8_areNoPair, cX8_areNoPair, 2, some .boolean)
abbrev cX8_placeUnder : ByteArray := prog_1_method_46_code
def yX8_placeUnder : MethodName := ⟨RX8, "placeUnder", "(II)I"⟩
def mX8_placeUnder : MD := (yX8_placeUnder, cX8_placeUnder, 3, some .int)
abbrev cX8_isUnder : ByteArray := prog_1_method_47_code
def yX8_isUnder : MethodName := ⟨RX8, "isUnder", "(II)Z"⟩
def mX8_isUnder : MD := (yX8_isUnder, cX8_isUnder, 4, some .boolean)
abbrev cX8_finding : ByteArray := prog_1_method_48_code
def yX8_finding : MethodName := ⟨RX8, "finding", "(I)I"⟩
def mX8_finding : MD := (yX8_finding, cX8_finding, 2, some .int)
abbrev cX8_longFinding : ByteArray := prog_1_method_49_code
def yX8_longFinding : MethodName := ⟨RX8, "longFinding", "(I)J"⟩
def mX8_longFinding : MD := (yX8_longFinding, cX8_longFinding, 2, some .long)
abbrev cX8_enter : ByteArray := prog_1_method_50_code
def yX8_enter : MethodName := ⟨RX8, "enter", "(LRolledPicks$Deal;)I"⟩
def mX8_enter : MD := (yX8_enter, cX8_enter, 2, some .int)
abbrev cX8_takes : ByteArray := prog_1_method_51_code
def yX8_takes : MethodName := ⟨RX8, "takes", "(LRolledPicks$Deal;)Z"⟩
def mX8_takes : MD := (yX8_takes, cX8_takes, 5, some .boolean)
abbrev cX8_clashesUnder : ByteArray := prog_1_method_52_code
def yX8_clashesUnder : MethodName := ⟨RX8, "clashesUnder", "(ILRolledPicks$Deal;)Z"⟩
def mX8_clashesUnder : MD := (yX8_clashesUnder, cX8_clashesUnder, 8, some .boolean)
abbrev cX8_settleAll : ByteArray := prog_1_method_53_code
def yX8_settleAll : MethodName := ⟨RX8, "settleAll", "()V"⟩
def mX8_settleAll : MD := (yX8_settleAll, cX8_settleAll, 4, none)
abbrev cX8_countConveying : ByteArray := prog_1_method_54_code
def yX8_countConveying : MethodName := ⟨RX8, "countConveying", "(LRolledPicks$Deal;)I"⟩
def mX8_countConveying : MD := (yX8_countConveying, cX8_countConveying, 5, some .int)
abbrev cX8_everOwners : ByteArray := prog_1_method_55_code
def yX8_everOwners : MethodName := ⟨RX8, "everOwners", "(I)I"⟩
def mX8_everOwners : MD := (yX8_everOwners, cX8_everOwners, 5, some .int)
abbrev cX8_worthUnder : ByteArray := prog_1_method_56_code
def yX8_worthUnder : MethodName := ⟨RX8, "worthUnder", "(II)I"⟩
def mX8_worthUnder : MD := (yX8_worthUnder, cX8_worthUnder, 5, some .int)
abbrev cX8_worthOver : ByteArray := prog_1_method_57_code
def yX8_worthOver : MethodName := ⟨RX8, "worthOver", "(III)J"⟩
def mX8_worthOver : MD := (yX8_worthOver, cX8_worthOver, 7, some .long)
abbrev cX8_tellsEachDeal : ByteArray := prog_1_method_58_code
def yX8_tellsEachDeal : MethodName := ⟨RX8, "tellsEachDeal", "(LRolledPicks$Sheet;)Z"⟩
def mX8_tellsEachDeal : MD := (yX8_tellsEachDeal, cX8_tellsEachDeal, 6, some .boolean)
abbrev cX8_countRounds : ByteArray := prog_1_method_59_code
def yX8_countRounds : MethodName := ⟨RX8, "countRounds", "(LRolledPicks$Sheet;I)I"⟩
def mX8_countRounds : MD := (yX8_countRounds, cX8_countRounds, 5, some .int)
abbrev cX8_goesOver : ByteArray := prog_1_method_60_code
def yX8_goesOver : MethodName := ⟨RX8, "goesOver", "(LRolledPicks$Sheet;LRolledPicks$Rounds;)Z"⟩
def mX8_goesOver : MD := (yX8_goesOver, cX8_goesOver, 7, some .boolean)
abbrev cX8_countHeld : ByteArray := prog_1_method_61_code
def yX8_countHeld : MethodName := ⟨RX8, "countHeld", "()I"⟩
def mX8_countHeld : MD := (yX8_countHeld, cX8_countHeld, 3, some .int)
abbrev cX9_init : ByteArray := prog_11_method_1_code
def yX9_init : MethodName := ⟨RX9, "<init>", "()V"⟩
def mX9_init : MD := (yX9_init, cX9_init, 1, none)
abbrev cX9_in : ByteArray := prog_11_method_3_code
def yX9_in : MethodName := ⟨RX9, "in", "(JJJ)Z"⟩
def mX9_in : MD := (yX9_in, cX9_in, 6, some .boolean)
abbrev cX9_finds : ByteArray := prog_11_method_4_code
def yX9_finds : MethodName := ⟨RX9, "finds", "(I)I"⟩
def mX9_finds : MD := (yX9_finds, cX9_finds, 2, some .int)
abbrev cX9_findsFar : ByteArray := prog_11_method_5_code
def yX9_findsFar : MethodName := ⟨RX9, "findsFar", "(I)J"⟩
def mX9_findsFar : MD := (yX9_findsFar, cX9_findsFar, 2, some .long)
abbrev cX9_clubAt : ByteArray := prog_11_method_6_code
def yX9_clubAt : MethodName := ⟨RX9, "clubAt", "(II)I"⟩
def mX9_clubAt : MD := (yX9_clubAt, cX9_clubAt, 5, some .int)
abbrev cX9_orderIn : ByteArray := prog_11_method_7_code
def yX9_orderIn : MethodName := ⟨RX9, "orderIn", "(II)I"⟩
def mX9_orderIn : MD := (yX9_orderIn, cX9_orderIn, 2, some .int)
abbrev cX9_placeIn : ByteArray := prog_11_method_8_code
def yX9_placeIn : MethodName := ⟨RX9, "placeIn", "(III)I"⟩
def mX9_placeIn : MD := (yX9_placeIn, cX9_placeIn, 4, some .int)
abbrev cX9_placeOf : ByteArray := prog_11_method_9_code
def yX9_placeOf : MethodName := ⟨RX9, "placeOf", "(II)I"⟩
def mX9_placeOf : MD := (yX9_placeOf, cX9_placeOf, 2, some .int)
abbrev cX9_isStanding : ByteArray := prog_11_method_10_code
def yX9_isStanding : MethodName := ⟨RX9, "isStanding", "(I)Z"⟩
def mX9_isStanding : MD := (yX9_isStanding, cX9_isStanding, 1, some .boolean)
abbrev cX9_isPick : ByteArray := prog_11_method_11_code
def yX9_isPick : MethodName := ⟨RX9, "isPick", "(I)Z"⟩
def mX9_isPick : MD := (yX9_isPick, cX9_isPick, 1, some .boolean)
abbrev cX9_isClub : ByteArray := prog_11_method_12_code
def yX9_isClub : MethodName := ⟨RX9, "isClub", "(I)Z"⟩
def mX9_isClub : MD := (yX9_isClub, cX9_isClub, 1, some .boolean)
abbrev cX9_openFrom : ByteArray := prog_11_method_13_code
def yX9_openFrom : MethodName := ⟨RX9, "openFrom", "()I"⟩
def mX9_openFrom : MD := (yX9_openFrom, cX9_openFrom, 4, some .int)
abbrev cX9_openMany : ByteArray := prog_11_method_14_code
def yX9_openMany : MethodName := ⟨RX9, "openMany", "()I"⟩
def mX9_openMany : MD := (yX9_openMany, cX9_openMany, 3, some .int)
abbrev cX9_isOpen : ByteArray := prog_11_method_15_code
def yX9_isOpen : MethodName := ⟨RX9, "isOpen", "(I)Z"⟩
def mX9_isOpen : MD := (yX9_isOpen, cX9_isOpen, 2, some .boolean)
abbrev cX9_order : ByteArray := prog_11_method_16_code
def yX9_order : MethodName := ⟨RX9, "order", "(II)I"⟩
def mX9_order : MD := (yX9_order, cX9_order, 3, some .int)
abbrev cX9_place : ByteArray := prog_11_method_17_code
def yX9_place : MethodName := ⟨RX9, "place", "(II)I"⟩
def mX9_place : MD := (yX9_place, cX9_place, 3, some .int)
abbrev cX9_fall : ByteArray := prog_11_method_18_code
def yX9_fall : MethodName := ⟨RX9, "fall", "(I)I"⟩
def mX9_fall : MD := (yX9_fall, cX9_fall, 2, some .int)
abbrev cX9_fallen : ByteArray := prog_11_method_19_code
def yX9_fallen : MethodName := ⟨RX9, "fallen", "(I)I"⟩
def mX9_fallen : MD := (yX9_fallen, cX9_fallen, 2, some .int)
abbrev cX9_draw : ByteArray := prog_11_method_20_code
def yX9_draw : MethodName := ⟨RX9, "draw", "()I"⟩
def mX9_draw : MD := (yX9_draw, cX9_draw, 1, some .int)
abbrev cX9_its : ByteArray := prog_11_method_21_code
def yX9_its : MethodName := ⟨RX9, "its", "(II)I"⟩
def mX9_its : MD := (yX9_its, cX9_its, 3, some .int)
abbrev cX9_isHolding : ByteArray := prog_11_method_22_code
def yX9_isHolding : MethodName := ⟨RX9, "isHolding", "(II)Z"⟩
def mX9_isHolding : MD := (yX9_isHolding, cX9_isHolding, 3, some .boolean)
abbrev cX9_goesOn : ByteArray := prog_11_method_23_code
def yX9_goesOn : MethodName := ⟨RX9, "goesOn", "(II)I"⟩
def mX9_goesOn : MD := (yX9_goesOn, cX9_goesOn, 6, some .int)
abbrev cX9_rolled : ByteArray := prog_11_method_24_code
def yX9_rolled : MethodName := ⟨RX9, "rolled", "(III)I"⟩
def mX9_rolled : MD := (yX9_rolled, cX9_rolled, 4, some .int)
abbrev cX9_conveyed : ByteArray := prog_11_method_25_code
def yX9_conveyed : MethodName := ⟨RX9, "conveyed", "(III)I"⟩
def mX9_conveyed : MD := (yX9_conveyed, cX9_conveyed, 5, some .int)
abbrev cX9_isLapsing : ByteArray := prog_11_method_26_code
def yX9_isLapsing : MethodName := ⟨RX9, "isLapsing", "(II)Z"⟩
def mX9_isLapsing : MD := (yX9_isLapsing, cX9_isLapsing, 3, some .boolean)
abbrev cX9_laysOut : ByteArray := prog_11_method_27_code
def yX9_laysOut : MethodName := ⟨RX9, "laysOut", "(I)V"⟩
def mX9_laysOut : MD := (yX9_laysOut, cX9_laysOut, 3, none)
abbrev cX9_goesTo : ByteArray := prog_11_method_28_code
def yX9_goesTo : MethodName := ⟨RX9, "goesTo", "(II)I"⟩
def mX9_goesTo : MD := (yX9_goesTo, cX9_goesTo, 6, some .int)
abbrev cX9_chains : ByteArray := prog_11_method_29_code
def yX9_chains : MethodName := ⟨RX9, "chains", "(I)Z"⟩
def mX9_chains : MD := (yX9_chains, cX9_chains, 4, some .boolean)
abbrev cX9_clashOf : ByteArray := prog_11_method_30_code
def yX9_clashOf : MethodName := ⟨RX9, "clashOf", "(I)I"⟩
def mX9_clashOf : MD := (yX9_clashOf, cX9_clashOf, 4, some .int)
abbrev cX9_isClashing : ByteArray := prog_11_method_31_code
def yX9_isClashing : MethodName := ⟨RX9, "isClashing", "()Z"⟩
def mX9_isClashing : MD := (yX9_isClashing, cX9_isClashing, 5, some .boolean)
abbrev cX9_lays : ByteArray := prog_11_method_32_code
def yX9_lays : MethodName := ⟨RX9, "lays", "(IIIIIII)V"⟩
def mX9_lays : MD := (yX9_lays, cX9_lays, 9, none)
abbrev cX9_holdsAlways : ByteArray := prog_11_method_33_code
def yX9_holdsAlways : MethodName := ⟨RX9, "holdsAlways", "()V"⟩
def mX9_holdsAlways : MD := (yX9_holdsAlways, cX9_holdsAlways, 2, none)
abbrev cX9_comes : ByteArray := prog_11_method_34_code
def yX9_comes : MethodName := ⟨RX9, "comes", "(IIIIII)I"⟩
def mX9_comes : MD := (yX9_comes, cX9_comes, 7, some .int)
abbrev cX9_areTwo : ByteArray := prog_11_method_35_code
def yX9_areTwo : MethodName := ⟨RX9, "areTwo", "(II)Z"⟩
def mX9_areTwo : MD := (yX9_areTwo, cX9_areTwo, 2, some .boolean)
abbrev cX9_sale : ByteArray := prog_11_method_36_code
def yX9_sale : MethodName := ⟨RX9, "sale", "(IIIII)I"⟩
def mX9_sale : MD := (yX9_sale, cX9_sale, 7, some .int)
abbrev cX9_areOfYear : ByteArray := prog_11_method_37_code
def yX9_areOfYear : MethodName := ⟨RX9, "areOfYear", "(II)Z"⟩
def mX9_areOfYear : MD := (yX9_areOfYear, cX9_areOfYear, 2, some .boolean)
abbrev cX9_swap : ByteArray := prog_11_method_38_code
def yX9_swap : MethodName := ⟨RX9, "swap", "(IIIII)I"⟩
def mX9_swap : MD := (yX9_swap, cX9_swap, 6, some .int)
abbrev cX9_isDeal : ByteArray := prog_11_method_39_code
def yX9_isDeal : MethodName := ⟨RX9, "isDeal", "(I)Z"⟩
def mX9_isDeal : MD := (yX9_isDeal, cX9_isDeal, 2, some .boolean)
abbrev cX9_standing : ByteArray := prog_11_method_40_code
def yX9_standing : MethodName := ⟨RX9, "standing", "(I)I"⟩
def mX9_standing : MD := (yX9_standing, cX9_standing, 5, some .int)
abbrev cX9_of : ByteArray := prog_11_method_41_code
def yX9_of : MethodName := ⟨RX9, "of", "(II)I"⟩
def mX9_of : MD := (yX9_of, cX9_of, 3, some .int)
abbrev cX9_holds : ByteArray := prog_11_method_42_code
def yX9_holds : MethodName := ⟨RX9, "holds", "(II)I"⟩
def mX9_holds : MD := (yX9_holds, cX9_holds, 3, some .int)
abbrev cX9_conveys : ByteArray := prog_11_method_43_code
def yX9_conveys : MethodName := ⟨RX9, "conveys", "(III)I"⟩
def mX9_conveys : MD := (yX9_conveys, cX9_conveys, 5, some .int)
abbrev cX9_drop : ByteArray := prog_11_method_44_code
def yX9_drop : MethodName := ⟨RX9, "drop", "()I"⟩
def mX9_drop : MD := (yX9_drop, cX9_drop, 1, some .int)
abbrev cX9_moves : ByteArray := prog_11_method_45_code
def yX9_moves : MethodName := ⟨RX9, "moves", "(II)V"⟩
def mX9_moves : MD := (yX9_moves, cX9_moves, 4, none)
abbrev cX9_prune : ByteArray := prog_11_method_46_code
def yX9_prune : MethodName := ⟨RX9, "prune", "()I"⟩
def mX9_prune : MD := (yX9_prune, cX9_prune, 3, some .int)
abbrev cX9_clash : ByteArray := prog_11_method_47_code
def yX9_clash : MethodName := ⟨RX9, "clash", "(I)I"⟩
def mX9_clash : MD := (yX9_clash, cX9_clash, 2, some .int)
abbrev cX9_ownerOf : ByteArray := prog_11_method_48_code
def yX9_ownerOf : MethodName := ⟨RX9, "ownerOf", "(I)I"⟩
def mX9_ownerOf : MD := (yX9_ownerOf, cX9_ownerOf, 2, some .int)
abbrev cX9_ownerUnder : ByteArray := prog_11_method_49_code
def yX9_ownerUnder : MethodName := ⟨RX9, "ownerUnder", "(II)I"⟩
def mX9_ownerUnder : MD := (yX9_ownerUnder, cX9_ownerUnder, 3, some .int)
abbrev cX9_owner : ByteArray := prog_11_method_50_code
def yX9_owner : MethodName := ⟨RX9, "owner", "(II)I"⟩
def mX9_owner : MD := (yX9_owner, cX9_owner, 3, some .int)
abbrev cX9_chain : ByteArray := prog_11_method_51_code
def yX9_chain : MethodName := ⟨RX9, "chain", "(III)I"⟩
def mX9_chain : MD := (yX9_chain, cX9_chain, 4, some .int)
abbrev cX9_hand : ByteArray := prog_11_method_52_code
def yX9_hand : MethodName := ⟨RX9, "hand", "(II)I"⟩
def mX9_hand : MD := (yX9_hand, cX9_hand, 5, some .int)
abbrev cX9_chanceOf : ByteArray := prog_11_method_53_code
def yX9_chanceOf : MethodName := ⟨RX9, "chanceOf", "(II)I"⟩
def mX9_chanceOf : MD := (yX9_chanceOf, cX9_chanceOf, 6, some .int)
abbrev cX9_owners : ByteArray := prog_11_method_54_code
def yX9_owners : MethodName := ⟨RX9, "owners", "(I)I"⟩
def mX9_owners : MD := (yX9_owners, cX9_owners, 4, some .int)
abbrev cX9_sure : ByteArray := prog_11_method_55_code
def yX9_sure : MethodName := ⟨RX9, "sure", "(I)I"⟩
def mX9_sure : MD := (yX9_sure, cX9_sure, 3, some .int)
abbrev cX9_chance : ByteArray := prog_11_method_56_code
def yX9_chance : MethodName := ⟨RX9, "chance", "(II)I"⟩
def mX9_chance : MD := (yX9_chance, cX9_chance, 3, some .int)
abbrev cX9_least : ByteArray := prog_11_method_57_code
def yX9_least : MethodName := ⟨RX9, "least", "(II)I"⟩
def mX9_least : MD := (yX9_least, cX9_least, 5, some .int)
abbrev cX9_price : ByteArray := prog_11_method_58_code
def yX9_price : MethodName := ⟨RX9, "price", "(II)I"⟩
def mX9_price : MD := (yX9_price, cX9_price, 4, some .int)
abbrev cX9_worthOf : ByteArray := prog_11_method_59_code
def yX9_worthOf : MethodName := ⟨RX9, "worthOf", "(II)I"⟩
def mX9_worthOf : MD := (yX9_worthOf, cX9_worthOf, 5, some .int)
abbrev cX9_worth : ByteArray := prog_11_method_60_code
def yX9_worth : MethodName := ⟨RX9, "worth", "(II)I"⟩
def mX9_worth : MD := (yX9_worth, cX9_worth, 3, some .int)
abbrev cX9_valueFrom : ByteArray := prog_11_method_61_code
def yX9_valueFrom : MethodName := ⟨RX9, "valueFrom", "(III)J"⟩
def mX9_valueFrom : MD := (yX9_valueFrom, cX9_valueFrom, 7, some .long)
abbrev cX9_value : ByteArray := prog_11_method_62_code
def yX9_value : MethodName := ⟨RX9, "value", "(I)J"⟩
def mX9_value : MD := (yX9_value, cX9_value, 2, some .long)
abbrev cX9_best : ByteArray := prog_11_method_63_code
def yX9_best : MethodName := ⟨RX9, "best", "(II)I"⟩
def mX9_best : MD := (yX9_best, cX9_best, 8, some .int)
abbrev cX9_hope : ByteArray := prog_11_method_64_code
def yX9_hope : MethodName := ⟨RX9, "hope", "(I)I"⟩
def mX9_hope : MD := (yX9_hope, cX9_hope, 9, some .int)
abbrev cX9_feed : ByteArray := prog_11_method_65_code
def yX9_feed : MethodName := ⟨RX9, "feed", "(II)I"⟩
def mX9_feed : MD := (yX9_feed, cX9_feed, 4, some .int)
abbrev cX9_wipe : ByteArray := prog_11_method_66_code
def yX9_wipe : MethodName := ⟨RX9, "wipe", "()I"⟩
def mX9_wipe : MD := (yX9_wipe, cX9_wipe, 2, some .int)
abbrev cX9_byteAt : ByteArray := prog_11_method_67_code
def yX9_byteAt : MethodName := ⟨RX9, "byteAt", "(I)I"⟩
def mX9_byteAt : MD := (yX9_byteAt, cX9_byteAt, 2, some .int)
abbrev cX9_isLetter : ByteArray := prog_11_method_68_code
def yX9_isLetter : MethodName := ⟨RX9, "isLetter", "(I)Z"⟩
def mX9_isLetter : MD := (yX9_isLetter, cX9_isLetter, 1, some .boolean)
abbrev cX9_isDigit : ByteArray := prog_11_method_69_code
def yX9_isDigit : MethodName := ⟨RX9, "isDigit", "(I)Z"⟩
def mX9_isDigit : MD := (yX9_isDigit, cX9_isDigit, 1, some .boolean)
abbrev cX9_token : ByteArray := prog_11_method_70_code
def yX9_token : MethodName := ⟨RX9, "token", "()V"⟩
def mX9_token : MD := (yX9_token, cX9_token, 3, none)
abbrev cX9_must : ByteArray := prog_11_method_71_code
def yX9_must : MethodName := ⟨RX9, "must", "(Z)V"⟩
def mX9_must : MD := (yX9_must, cX9_must, 2, none)
abbrev cX9_isWord : ByteArray := prog_11_method_72_code
def yX9_isWord : MethodName := ⟨RX9, "isWord", "(I)Z"⟩
def mX9_isWord : MD := (yX9_isWord, cX9_isWord, 4, some .boolean)
abbrev cX9_takes : ByteArray := prog_11_method_73_code
def yX9_takes : MethodName := ⟨RX9, "takes", "(I)Z"⟩
def mX9_takes : MD := (yX9_takes, cX9_takes, 3, some .boolean)
abbrev cX9_isSign : ByteArray := prog_11_method_74_code
def yX9_isSign : MethodName := ⟨RX9, "isSign", "(I)Z"⟩
def mX9_isSign : MD := (yX9_isSign, cX9_isSign, 2, some .boolean)
abbrev cX9_numberHere : ByteArray := prog_11_method_75_code
def yX9_numberHere : MethodName := ⟨RX9, "numberHere", "()I"⟩
def mX9_numberHere : MD := (yX9_numberHere, cX9_numberHere, 3, some .int)
abbrev cX9_number : ByteArray := prog_11_method_76_code
def yX9_number : MethodName := ⟨RX9, "number", "(II)I"⟩
def mX9_number : MD := (yX9_number, cX9_number, 4, some .int)
abbrev cX9_codes : ByteArray := prog_11_method_77_code
def yX9_codes : MethodName := ⟨RX9, "codes", "(I)V"⟩
def mX9_codes : MD := (yX9_codes, cX9_codes, 2, none)
abbrev cX9_three : ByteArray := prog_11_method_78_code
def yX9_three : MethodName := ⟨RX9, "three", "(IZ)V"⟩
def mX9_three : MD := (yX9_three, cX9_three, 6, none)
abbrev cX9_factor : ByteArray := prog_11_method_79_code
def yX9_factor : MethodName := ⟨RX9, "factor", "()V"⟩
def mX9_factor : MD := (yX9_factor, cX9_factor, 2, none)
abbrev cX9_both : ByteArray := prog_11_method_80_code
def yX9_both : MethodName := ⟨RX9, "both", "()V"⟩
def mX9_both : MD := (yX9_both, cX9_both, 1, none)
abbrev cX9_either : ByteArray := prog_11_method_81_code
def yX9_either : MethodName := ⟨RX9, "either", "()V"⟩
def mX9_either : MD := (yX9_either, cX9_either, 1, none)
abbrev cX9_isTest : ByteArray := prog_11_method_82_code
def yX9_isTest : MethodName := ⟨RX9, "isTest", "(II)Z"⟩
def mX9_isTest : MD := (yX9_isTest, cX9_isTest, 5, some .boolean)
abbrev cX9_isTrue : ByteArray := prog_11_method_83_code
def yX9_isTrue : MethodName := ⟨RX9, "isTrue", "(I)Z"⟩
def mX9_isTrue : MD := (yX9_isTrue, cX9_isTrue, 4, some .boolean)
abbrev cX9_laysCondition : ByteArray := prog_11_method_84_code
def yX9_laysCondition : MethodName := ⟨RX9, "laysCondition", "()V"⟩
def mX9_laysCondition : MD := (yX9_laysCondition, cX9_laysCondition, 2, none)
abbrev cX9_isItemClashing : ByteArray := prog_11_method_85_code
def yX9_isItemClashing : MethodName := ⟨RX9, "isItemClashing", "()Z"⟩
def mX9_isItemClashing : MD := (yX9_isItemClashing, cX9_isItemClashing, 8, some .boolean)
abbrev cX9_isTextClashing : ByteArray := prog_11_method_86_code
def yX9_isTextClashing : MethodName := ⟨RX9, "isTextClashing", "()Z"⟩
def mX9_isTextClashing : MD := (yX9_isTextClashing, cX9_isTextClashing, 2, some .boolean)
abbrev cX9_text : ByteArray := prog_11_method_87_code
def yX9_text : MethodName := ⟨RX9, "text", "()I"⟩
def mX9_text : MD := (yX9_text, cX9_text, 4, some .int)
abbrev cX9_isSheet : ByteArray := prog_11_method_88_code
def yX9_isSheet : MethodName := ⟨RX9, "isSheet", "(I)Z"⟩
def mX9_isSheet : MD := (yX9_isSheet, cX9_isSheet, 1, some .boolean)
abbrev cX9_sheet : ByteArray := prog_11_method_89_code
def yX9_sheet : MethodName := ⟨RX9, "sheet", "(III)I"⟩
def mX9_sheet : MD := (yX9_sheet, cX9_sheet, 5, some .int)
abbrev cX9_narrowed : ByteArray := prog_11_method_90_code
def yX9_narrowed : MethodName := ⟨RX9, "narrowed", "(IJ)J"⟩
def mX9_narrowed : MD := (yX9_narrowed, cX9_narrowed, 3, some .long)
abbrev cX9_write : ByteArray := prog_11_method_91_code
def yX9_write : MethodName := ⟨RX9, "write", "(IIJ)I"⟩
def mX9_write : MD := (yX9_write, cX9_write, 5, some .int)
abbrev cX9_item : ByteArray := prog_11_method_92_code
def yX9_item : MethodName := ⟨RX9, "item", "(II)J"⟩
def mX9_item : MD := (yX9_item, cX9_item, 3, some .long)
abbrev cX9_copy : ByteArray := prog_11_method_93_code
def yX9_copy : MethodName := ⟨RX9, "copy", "(IIIII)I"⟩
def mX9_copy : MD := (yX9_copy, cX9_copy, 7, some .int)
abbrev cX9_areAll : ByteArray := prog_11_method_94_code
def yX9_areAll : MethodName := ⟨RX9, "areAll", "(I)Z"⟩
def mX9_areAll : MD := (yX9_areAll, cX9_areAll, 6, some .boolean)
abbrev cX9_goesBy : ByteArray := prog_11_method_95_code
def yX9_goesBy : MethodName := ⟨RX9, "goesBy", "(II)Z"⟩
def mX9_goesBy : MD := (yX9_goesBy, cX9_goesBy, 4, some .boolean)
abbrev cX9_goesOver : ByteArray := prog_11_method_96_code
def yX9_goesOver : MethodName := ⟨RX9, "goesOver", "(I)Z"⟩
def mX9_goesOver : MD := (yX9_goesOver, cX9_goesOver, 7, some .boolean)
abbrev cX9_rounds : ByteArray := prog_11_method_97_code
def yX9_rounds : MethodName := ⟨RX9, "rounds", "(II)I"⟩
def mX9_rounds : MD := (yX9_rounds, cX9_rounds, 4, some .int)
abbrev cX9_lays_ : ByteArray := prog_11_method_98_code
def yX9_lays_ : MethodName := ⟨RX9, "lays", "(II)I"⟩
def mX9_lays_ : MD := (yX9_lays_, cX9_lays_, 4, some .int)
abbrev cX9_judge : ByteArray := prog_11_method_99_code
def yX9_judge : MethodName := ⟨RX9, "judge", "(II)I"⟩
def mX9_judge : MD := (yX9_judge, cX9_judge, 4, some .int)
abbrev cX9_isSpot : ByteArray := prog_11_method_100_code
def yX9_isSpot : MethodName := ⟨RX9, "isSpot", "(I)Z"⟩
def mX9_isSpot : MD := (yX9_isSpot, cX9_isSpot, 1, some .boolean)
abbrev cX9_hold : ByteArray := prog_11_method_101_code
def yX9_hold : MethodName := ⟨RX9, "hold", "(II)I"⟩
def mX9_hold : MD := (yX9_hold, cX9_hold, 3, some .int)
abbrev cX9_isUnder : ByteArray := prog_11_method_102_code
def yX9_isUnder : MethodName := ⟨RX9, "isUnder", "(II)Z"⟩
def mX9_isUnder : MD := (yX9_isUnder, cX9_isUnder, 2, some .boolean)
abbrev cX9_taken : ByteArray := prog_11_method_103_code
def yX9_taken : MethodName := ⟨RX9, "taken", "(II)I"⟩
def mX9_taken : MD := (yX9_taken, cX9_taken, 5, some .int)
abbrev cX9_image : ByteArray := prog_11_method_104_code
def yX9_image : MethodName := ⟨RX9, "image", "()I"⟩
def mX9_image : MD := (yX9_image, cX9_image, 3, some .int)
abbrev cX9_back : ByteArray := prog_11_method_105_code
def yX9_back : MethodName := ⟨RX9, "back", "()I"⟩
def mX9_back : MD := (yX9_back, cX9_back, 3, some .int)
abbrev cX9_seed : ByteArray := prog_11_method_106_code
def yX9_seed : MethodName := ⟨RX9, "seed", "(I)I"⟩
def mX9_seed : MD := (yX9_seed, cX9_seed, 3, some .int)
abbrev cX9_count : ByteArray := prog_11_method_107_code
def yX9_count : MethodName := ⟨RX9, "count", "(I)I"⟩
def mX9_count : MD := (yX9_count, cX9_count, 2, some .int)
abbrev cX9_status : ByteArray := prog_11_method_108_code
def yX9_status : MethodName := ⟨RX9, "status", "(I)I"⟩
def mX9_status : MD := (yX9_status, cX9_status, 4, some .int)
abbrev cJ9_min_7cf53 : ByteArray := prog_12_method_69_code
def yJ9_min_7cf53 : MethodName := ⟨RJ9, "min", "(II)I"⟩
def mJ9_min_7cf53 : MD := (yJ9_min_7cf53, cJ9_min_7cf53, 2, some .int)
abbrev cJ0_length_8abf5 : ByteArray := prog_13_method_54_code
def yJ0_length_8abf5 : MethodName := ⟨RJ0, "length", "()I"⟩
def mJ0_length_8abf5 : MD := (yJ0_length_8abf5, cJ0_length_8abf5, 1, some .int)
abbrev cJ0_charAt_5068e : ByteArray := prog_13_method_56_code
def yJ0_charAt_5068e : MethodName := ⟨RJ0, "charAt", "(I)C"⟩
def mJ0_charAt_5068e : MD := (yJ0_charAt_5068e, cJ0_charAt_5068e, 2, some .char)
abbrev cJ0_coder_7d493 : ByteArray := prog_13_method_152_code
def yJ0_coder_7d493 : MethodName := ⟨RJ0, "coder", "()B"⟩
def mJ0_coder_7d493 : MD := (yJ0_coder_7d493, cJ0_coder_7d493, 1, some .byte)
abbrev cJ0_isLatin1_aae02 : ByteArray := prog_13_method_154_code
def yJ0_isLatin1_aae02 : MethodName := ⟨RJ0, "isLatin1", "()Z"⟩
def mJ0_isLatin1_aae02 : MD := (yJ0_isLatin1_aae02, cJ0_isLatin1_aae02, 1, some .boolean)
abbrev cJ0_checkIndex_df160 : ByteArray := prog_13_method_155_code
def yJ0_checkIndex_df160 : MethodName := ⟨RJ0, "checkIndex", "(II)V"⟩
def mJ0_checkIndex_df160 : MD := (yJ0_checkIndex_df160, cJ0_checkIndex_df160, 2, none)
abbrev cJ1_charAt_3b067 : ByteArray := prog_14_method_2_code
def yJ1_charAt_3b067 : MethodName := ⟨RJ1, "charAt", "([BI)C"⟩
def mJ1_charAt_3b067 : MD := (yJ1_charAt_3b067, cJ1_charAt_3b067, 2, some .char)
abbrev cJ2_getChar_3b067 : ByteArray := prog_15_method_5_code
def yJ2_getChar_3b067 : MethodName := ⟨RJ2, "getChar", "([BI)C"⟩
def mJ2_getChar_3b067 : MD := (yJ2_getChar_3b067, cJ2_getChar_3b067, 2, some .char)
abbrev cJ2_length_9d52b : ByteArray := prog_15_method_6_code
def yJ2_length_9d52b : MethodName := ⟨RJ2, "length", "([B)I"⟩
def mJ2_length_9d52b : MD := (yJ2_length_9d52b, cJ2_length_9d52b, 1, some .int)
abbrev cJ2_charAt_3b067 : ByteArray := prog_15_method_83_code
def yJ2_charAt_3b067 : MethodName := ⟨RJ2, "charAt", "([BI)C"⟩
def mJ2_charAt_3b067 : MD := (yJ2_charAt_3b067, cJ2_charAt_3b067, 2, some .char)
abbrev cJ2_checkIndex_2214a : ByteArray := prog_15_method_91_code
def yJ2_checkIndex_2214a : MethodName := ⟨RJ2, "checkIndex", "(I[B)V"⟩
def mJ2_checkIndex_2214a : MD := (yJ2_checkIndex_2214a, cJ2_checkIndex_2214a, 2, none)
abbrev cJ3_checkIndex_8e157 : ByteArray := prog_17_method_11_code
def yJ3_checkIndex_8e157 : MethodName := ⟨RJ3, "checkIndex", "(IILjava/util/function/BiFunction;)I"⟩
def mJ3_checkIndex_8e157 : MD := (yJ3_checkIndex_8e157, cJ3_checkIndex_8e157, 3, some .int)
end
section
/-! THE LOGIC: a heap of my own (typed contents by address), values of my own, and 'Ev': from here the machine comes to the method's end with Q. One rule an instruction (part 04), out of the kit's rows. -/
def TT : List Cond := lw_tbl.filter goodWord
theorem tt_of {w : Cond} (i : Nat) (h : lw_tbl[i]? = some w) (g : goodWord w = true) : w ∈ TT := List.mem_filter.mpr ⟨List.mem_of_getElem? h, g⟩
theorem tt_in {w : Cond} (h : w ∈ TT) : w ∈ lw_tbl := (List.mem_filter.mp h).1
theorem tt_good {w : Cond} (h : w ∈ TT) : goodWord w = true := (List.mem_filter.mp h).2
theorem tt_goodIn {ws : List Cond} (h : ∀ w ∈ ws, w ∈ TT) : GoodIn TT ws := fun w hw => ⟨h w hw, good_of_word (tt_good (h w hw))⟩
/-- values: ints, longs, references (none: null; else an address of mine) -/
abbrev VV : Type := Int32 ⊕ (Int64 ⊕ Option Nat)
abbrev vI (x : Int32) : VV := .inl x
abbrev vL (x : Int64) : VV := .inr (.inl x)
abbrev vR (r : Option Nat) : VV := .inr (.inr r)
/-- a heap: ints, longs, references by address and place; the kind of each address, its length, the next address -/
abbrev HP : Type := (Nat → Nat → Int32) × (Nat → Nat → Int64) × (Nat → Nat → Option Nat) × (Nat → Nat) × (Nat → Nat) × Nat
abbrev hI (h : HP) : Nat → Nat → Int32 := h.1
abbrev hL (h : HP) : Nat → Nat → Int64 := h.2.1
abbrev hR (h : HP) : Nat → Nat → Option Nat := h.2.2.1
abbrev hT (h : HP) : Nat → Nat := h.2.2.2.1
abbrev hN (h : HP) : Nat → Nat := h.2.2.2.2.1
abbrev hZ (h : HP) : Nat := h.2.2.2.2.2
def up2 {α : Type} (f : Nat → Nat → α) (a i : Nat) (v : α) : Nat → Nat → α := fun b j => if b = a ∧ j = i then v else f b j
def wI (h : HP) (a i : Nat) (v : Int32) : HP := (up2 h.1 a i v, h.2)
def wL (h : HP) (a i : Nat) (v : Int64) : HP := (h.1, up2 h.2.1 a i v, h.2.2)
def wR (h : HP) (a i : Nat) (v : Option Nat) : HP := (h.1, h.2.1, up2 h.2.2.1 a i v, h.2.2.2)
/-- one more cell, of kind t and length n, all 0 -/
def nw (h : HP) (t n : Nat) : HP :=
  (fun b j => if b = hZ h then 0 else hI h b j, fun b j => if b = hZ h then 0 else hL h b j, fun b j => if b = hZ h then none else hR h b j,
   fun b => if b = hZ h then t else hT h b, fun b => if b = hZ h then n else hN h b, hZ h + 1)
theorem up2_s {α : Type} {f : Nat → Nat → α} {a i : Nat} {v : α} : up2 f a i v a i = v := if_pos ⟨rfl, rfl⟩
theorem up2_a {α : Type} {f : Nat → Nat → α} {a i b j : Nat} {v : α} (h : b ≠ a) : up2 f a i v b j = f b j := if_neg (fun q => h q.1)
theorem up2_i {α : Type} {f : Nat → Nat → α} {a i b j : Nat} {v : α} (h : j ≠ i) : up2 f a i v b j = f b j := if_neg (fun q => h q.2)
/-- what stays through the whole run: the launch; the first address of the machine's that is ours; those of statics and strings; the classes' numbers and slots; the array classes' numbers; the script -/
abbrev EX : Type := Launch × Nat × (Nat → Nat) × va_G × (Nat → ClassId) × Nat × (Nat → Int32)
abbrev xl (X : EX) : Launch := X.1
abbrev xb (X : EX) : Nat := X.2.1
abbrev xS (X : EX) : Nat → Nat := X.2.2.1
abbrev xD (X : EX) : va_G := X.2.2.2.1
abbrev xA (X : EX) : Nat → ClassId := X.2.2.2.2.1
abbrev xN (X : EX) : Nat := X.2.2.2.2.2.1
abbrev xs (X : EX) : Nat → Int32 := X.2.2.2.2.2.2
/-- where an address of mine lies in the machine -/
def ad (X : EX) (k : Nat) : Nat := if k < 32 then xS X k else xb X + (k - 32)
def cv (X : EX) : VV → Value
  | .inl x => .int x
  | .inr (.inl x) => .long x
  | .inr (.inr r) => va_rf (r.map (ad X))
/-- how many fields, and whether a field is a reference -/
def nF : Nat → Nat
  | 0 => 6 | 1 => 7 | 2 => 1 | 3 => 4 | 4 => 4 | 5 => 3 | 6 => 1 | 7 => 4 | 8 => 9 | _ => 39
def tyF : Nat → Nat → FieldType
  | 0 => tyX0 | 1 => tyX1 | 2 => tyX2 | 3 => tyX3 | 4 => tyX4 | 5 => tyX5 | 6 => tyX6 | 7 => tyX7 | 8 => tyX8 | _ => tyX9
def isR (c k : Nat) : Bool := match tyF c k with
  | .object _ => true
  | .array _ => true
  | _ => false
/-- a cell's picture, as the kit's worlds have it: kinds 1 to 10 objects of vwCl, 11 to 15 arrays of bytes, chars, ints, longs, booleans, 16 to 19 arrays of references -/
def ent (X : EX) (h : HP) (k : Nat) : va_E :=
  if hT h k ≤ 10 then .inr (hT h k - 1, (List.range (nF (hT h k - 1))).map (fun i => if isR (hT h k - 1) i then va_rf ((hR h k i).map (ad X)) else .int (hI h k i)))
  else if hT h k = 14 then .inl (xA X 14, hN h k, .inr (.inl (hL h k)))
  else if hT h k ≤ 15 then .inl (xA X (hT h k), hN h k, .inl (hI h k))
  else .inl (xA X (hT h k), hN h k, .inr (.inr (.inr (.inr (fun i => (hR h k i).map (ad X))))))
def wl (X : EX) (h : HP) : va_W := (List.range (hZ h - 32)).map (fun j => (xb X + j, ent X h (j + 32)))
def tys (X : EX) : List (ClassId × FieldType) := [(xA X 11, .byte), (xA X 12, .char), (xA X 13, .int), (xA X 14, .long), (xA X 15, .boolean), (xA X 16, .object RX0), (xA X 17, .object RX1), (xA X 18, .object RX5), (xA X 19, .object RX6)]
/-- what is ours in the machine's heap -/
def AA (X : EX) : Nat → Prop := fun q => xb X ≤ q
theorem wl_get {X : EX} {h : HP} {a : Nat} (h1 : 32 ≤ a) (h2 : a < hZ h) : (wl X h)[a - 32]? = some (ad X a, ent X h a) := by
  unfold wl ad
  rw [List.getElem?_map, List.getElem?_range (by omega), if_neg (by omega)]
  show some (xb X + (a - 32), ent X h (a - 32 + 32)) = _
  rw [show a - 32 + 32 = a by omega]
theorem wl_len {X : EX} {h : HP} : (wl X h).length = hZ h - 32 := by simp [wl]
theorem wl_set {X : EX} {h h' : HP} {a : Nat} {E : va_E} (h1 : 32 ≤ a) (h2 : a < hZ h) (hz : hZ h' = hZ h) (he : ent X h' a = E) (ho : ∀ k, k ≠ a → ent X h' k = ent X h k) : (wl X h).set (a - 32) (ad X a, E) = wl X h' := by
  apply List.ext_getElem?
  intro j
  rw [List.getElem?_set]
  by_cases hj : j < hZ h - 32
  · have g := wl_get (X := X) (h := h) (a := j + 32) (by omega) (by omega)
    have g' := wl_get (X := X) (h := h') (a := j + 32) (by omega) (by omega)
    rw [Nat.add_sub_cancel] at g g'
    rw [g, g', wl_len]
    by_cases hja : a - 32 = j
    · have : a = j + 32 := by omega
      subst this
      rw [if_pos (by omega), if_pos (by omega), he]
    · rw [if_neg hja, ho _ (by omega)]
  · rw [if_neg (by omega), List.getElem?_eq_none (by rw [wl_len]; omega), List.getElem?_eq_none (by rw [wl_len]; omega)]
theorem wl_push {X : EX} {h h' : HP} {E : va_E} (h1 : 32 ≤ hZ h) (hz : hZ h' = hZ h + 1) (he : ent X h' (hZ h) = E) (ho : ∀ k, k < hZ h → ent X h' k = ent X h k) : wl X h ++ [(ad X (hZ h), E)] = wl X h' := by
  apply List.ext_getElem?
  intro j
  by_cases hj : j < hZ h - 32
  · have g := wl_get (X := X) (h := h) (a := j + 32) (by omega) (by omega)
    have g' := wl_get (X := X) (h := h') (a := j + 32) (by omega) (by omega)
    rw [Nat.add_sub_cancel] at g g'
    rw [List.getElem?_append_left (by rw [wl_len]; exact hj), g, g', ho _ (by omega)]
  · rw [List.getElem?_append_right (by rw [wl_len]; omega), wl_len]
    by_cases hj2 : j = hZ h - 32
    · subst hj2
      have g' := wl_get (X := X) (h := h') (a := hZ h) (by omega) (by omega)
      rw [g', he, Nat.sub_self]
      rfl
    · rw [List.getElem?_eq_none (by simp; omega), List.getElem?_eq_none (by rw [wl_len]; omega)]
theorem wl_D (X : EX) (h : HP) : va_D (AA X) (wl X h) := by
  have key : ∀ (i : Nat) (p : Nat × va_E), (wl X h)[i]? = some p → p.1 = xb X + i := by
    intro i p hp
    unfold wl at hp
    rw [List.getElem?_map] at hp
    cases hq : (List.range (hZ h - 32))[i]? with
    | none => rw [hq] at hp; cases hp
    | some j =>
      rw [hq] at hp
      have hij : j = i := by
        obtain ⟨h3, h4⟩ := List.getElem?_eq_some_iff.mp hq
        simpa using h4.symm
      subst hij
      cases hp
      rfl
  refine ⟨fun i j p q hp hq e => ?_, fun k q hq => ?_⟩
  · have e1 := key i p hp
    have e2 := key j q hq
    omega
  · show xb X ≤ q.1
    rw [key k q hq]
    omega
/-- my heap is the machine's -/
def CorH (X : EX) (h : HP) (H : Heap) : Prop := H.size = xb X + (hZ h - 32) ∧ 32 ≤ hZ h ∧ va_P (xD X) vwCl (wl X h) H
/-- words of nest mates: good at every warmed state -/
def nestW : List Cond := [.methodLinkNest RX8 9 yX0_init RX8, .methodLinkNest RX8 22 yX2_init RX8, .methodLinkNest RX3 11 yX7_init RX8, .methodLinkNest RX3 30 yX6_init RX8, .methodLinkNest RX8 53 yX5_init RX8, .methodLinkNest RX1 40 yX8_placeUnder RX8, .methodLinkNest RX0 56 yX8_isOutside RX8, .methodLinkNest RX3 35 yX8_isOutside RX8, .methodLinkNest RX6 15 yX8_placeUnder RX8, .fieldLinkNest RX0 40 RX8 "YEAR_STEP" "[I" RX8, .fieldLinkNest RX0 43 RX8 "OPEN_LEFT" "[I" RX8]
def aoW : List String := [RX0, RX1, RX5, RX6]
/-- the strings: the constant's place in the pool of RolledPicks$Reader, its letters -/
def strs : List (Nat × String) := [(65, "from"), (71, "to"), (73, "pick"), (90, "guard"), (92, "tail"), (94, "roll"), (96, "swap"), (98, "choice"), (81, "if"), (117, "not"), (122, "("), (124, ")"), (126, "lapsed"), (136, "ahead"), (138, "at"), (106, "and"), (115, "or"), (50, ";")]
def strL (i : Nat) : List Int32 := match strs[i]? with
  | some q => q.2.toList.map (fun c => Int32.ofNat c.toNat)
  | none => []
/-- the static arrays -/
def stW : List (String × List Int32) := [("CLUB_AT", [0, 1, 2, 0, 2, 1, 1, 0, 2, 1, 2, 0, 2, 0, 1, 2, 1, 0]), ("KIND_ABOVE", [-1, 0, 0, 1, 1, 2]), ("OPEN_LEFT", [1296, 216, 36, 6, 1]), ("PLACE_OF", [0, 1, 2, 0, 2, 1, 1, 0, 2, 2, 0, 1, 1, 2, 0, 2, 1, 0]), ("YEAR_STEP", [216, 36, 6, 1])]
/-- what the tables say of classes, at any state of the run -/
def Kn (X : EX) (U : State) : Prop := va_K (xD X) vwCl (tys X) U ∧ (∀ w ∈ nestW, va_Nw w U) ∧ (∀ C ∈ aoW, va_AO C U) ∧ (∀ i q, strs[i]? = some q → vk_R RX3 q.1 q.2 (xS X (i + 8)) U)
/-- what lies below our cells, and is never written -/
def Pre (X : EX) (U : State) (H : Heap) : Prop :=
  (∀ i q, stW[i]? = some q → va_Z RX8 q.1 "[I" (.ref (xS X (i + 1))) (AA X) U H ∧ va_T .int (xS X (i + 1)) q.2.length (fun j => .int (q.2.getD j 0)) (AA X) U H) ∧
  va_T .int (xS X 6) (xN X) (fun j => .int (xs X j)) (AA X) U H ∧
  (∃ adV : Nat → Nat, vk_S 18 (strs.map (fun q => q.2.length)) (strs.map (fun q => q.2.toList.map (fun c => Int32.ofNat c.toNat))) (fun i => xS X (i + 8)) adV (AA X) U H) ∧
  va_Z "java/lang/String" "COMPACT_STRINGS" "Z" (.int 1) (AA X) U H ∧ va_Zq "jdk/internal/util/Preconditions" "SIOOBE_FORMATTER" "Ljava/util/function/BiFunction;" (AA X) U H
/-- all of it -/
def Cor (X : EX) (h : HP) (U : State) : Prop := CorH X h U.heap ∧ Kn X U ∧ Pre X U U.heap
def rmd (d mc ms : Nat) : Room := { frames := d, cells := mc, slots := ms, locals := 40 * d }
def cw (y : MD) : Cond := .code y.1 y.2.1 y.2.2.1 y.2.2.2
def wsM (y : MD) : List Cond := cw y :: TT
def Qm (X : EX) (Q : Option VV → HP → Prop) : Array Value → State → Outcome → State → Prop := fun _ st oc t => (∃ (v : Option VV) (h' : HP), oc = .returned (v.map (cv X)) ∧ Q v h' ∧ Cor X h' t) ∧ va_F (AA X) st t
/-- A CONTRACT: y, begun with the arguments av over the heap h, returns with Q, at a depth of d calls, making mc cells of ms slots at most -/
def Ct (X : EX) (y : MD) (d mc ms : Nat) (av : List VV) (h : HP) (Q : Option VV → HP → Prop) : Prop :=
  Met (xl X) y.1 (wsM y) (rmd d mc ms) (va_Pc (av.map (cv X)) (fun U => Cor X h U)) (Qm X Q) mc ms (AA X)
/-- what holds of the method's own frame all the while -/
def Cx (X : EX) (y : MD) (p : Program) (s : State) (m : MethodId) (args : Array Value) (meth : Method) (c : Code) : Prop :=
  p.tables.exec = Jvm.exec ∧ c.code = y.2.1 ∧ c.maxLocals = y.2.2.1 ∧ meth.sig.returnType = y.2.2.2 ∧ s.vm.findClass y.1.cls = some m.cls ∧ (∀ w ∈ TT, w.before args s = true) ∧ meth.locks = false ∧ meth.name = y.1.name ∧ Kn X s ∧ Pre X s s.heap ∧ xb X ≤ s.heap.size
/-- the locals: the newest entry of a place counts; none: dead -/
abbrev ZL : Type := List (Nat × Option VV)
def gL : ZL → Nat → Option VV
  | [], _ => none
  | (j, v) :: r, i => if i = j then v else gL r i
def is2 : Option VV → Bool
  | some (.inr (.inl _)) => true
  | _ => false
/-- a store at i: a long that begins one place before dies -/
def stL (ls : ZL) (i : Nat) (v : VV) : ZL := match i with
  | 0 => (0, some v) :: ls
  | k + 1 => if is2 (gL ls k) then (k + 1, some v) :: (k, none) :: ls else (k + 1, some v) :: ls
def stL2 (ls : ZL) (i : Nat) (v : VV) : ZL := (i + 1, none) :: stL ls i v
def Lok (X : EX) (nL : Nat) (ls : ZL) (lsr : Array Slot) : Prop := ∃ lv : List (Nat × Value), lv_has lsr nL lv ∧ ∀ i v, gL ls i = some v → (i, cv X v) ∈ lv
def Ev (X : EX) (y : MD) (d mc ms : Nat) (Q : Option VV → HP → Prop) (cells slots pc : Nat) (ls : ZL) (st : List VV) (h : HP) : Prop :=
  ∀ (p : Program) (e : Env) (s : State) (m : MethodId) (args : Array Value) (below : List Frame) (meth : Method) (c : Code) (H : Heap) (locs : List Loc) (lsr : Array Slot),
    Cx X y p s m args meth c → CorH X h H → va_S (AA X) s.heap H locs → Lok X y.2.2.1 ls lsr →
    W p (xl X) e (rmd d mc ms) s m args below meth c H locs cells slots (MQ below (Qm X Q) args s mc ms (AA X)) (F0 m pc lsr (st.map (cv X)))
/-- an instruction, its length, the next place -/
def At (b : ByteArray) (pc : Nat) (i : Instr) (n pc' : Nat) : Prop := decode b pc = .ok (i, n) ∧ pc' = pc + n
def Br (b : ByteArray) (pc : Nat) (i : Instr) (off : Int) (pc' tgt : Nat) : Prop := decode b pc = .ok (i, 3) ∧ pc' = pc + 3 ∧ (pc : Int) + off = (tgt : Int)
end
section
/-! RULES: locals, constants, arithmetic, branches, returns (written by wip/whole/gen4.py) -/
theorem cv_cat {X : EX} {v : VV} : (cv X v).category = if is2 (some v) then 2 else 1 := by
  rcases v with x | x | r
  · rfl
  · rfl
  · cases r <;> rfl
theorem stL_in {X : EX} {lv : List (Nat × Value)} {ls : ZL} {i0 : Nat} {v0 : VV} (hg : ∀ i v, gL ls i = some v → (i, cv X v) ∈ lv) :
    ∀ i v, gL (stL ls i0 v0) i = some v → (i, cv X v) ∈ (i0, cv X v0) :: lv.filter (fun q => !(q.1 == i0) && !(q.1 + 1 == i0 && q.2.category == 2)) := by
  intro i v h
  by_cases hi : i = i0
  · subst hi
    have : v = v0 := by
      unfold stL at h
      cases i with
      | zero => simp [gL] at h; exact h.symm
      | succ k =>
        dsimp only at h
        split at h <;> simp [gL] at h <;> exact h.symm
    subst this
    exact List.mem_cons_self
  · refine List.mem_cons_of_mem _ (List.mem_filter.mpr ⟨?_, ?_⟩)
    · refine hg i v ?_
      unfold stL at h
      cases i0 with
      | zero => simpa [gL, hi] using h
      | succ k =>
        dsimp only at h
        split at h
        · simp only [gL, hi, if_false] at h
          by_cases hk : i = k
          · rw [if_pos hk] at h; cases h
          · rw [if_neg hk] at h; exact h
        · simpa [gL, hi] using h
    · simp only [Bool.and_eq_true, Bool.not_eq_true', beq_eq_false_iff_ne, ne_eq, hi, not_false_eq_true, true_and, Bool.and_eq_false_iff]
      by_cases hk : i + 1 = i0
      · right
        subst hk
        unfold stL at h
        dsimp only at h
        split at h
        · simp [gL] at h
        · next hn =>
          simp [gL] at h
          rw [h] at hn
          rw [cv_cat]
          simp [hn]
      · left; exact hk
theorem stL2_in {X : EX} {lv : List (Nat × Value)} {ls : ZL} {i0 : Nat} {v0 : VV} (hg : ∀ i v, gL ls i = some v → (i, cv X v) ∈ lv) :
    ∀ i v, gL (stL2 ls i0 v0) i = some v → (i, cv X v) ∈ (i0, cv X v0) :: lv.filter (fun q => !(q.1 == i0) && (!(q.1 == i0 + 1) && !(q.1 + 1 == i0 && q.2.category == 2))) := by
  intro i v h
  unfold stL2 at h
  simp only [gL] at h
  by_cases hi : i = i0 + 1
  · rw [if_pos hi] at h; cases h
  · rw [if_neg hi] at h
    rcases List.mem_cons.mp (stL_in hg i v h) with q | q
    · rw [q]; exact List.mem_cons_self
    · refine List.mem_cons_of_mem _ ?_
      rw [List.mem_filter] at q ⊢
      refine ⟨q.1, ?_⟩
      have q2 := q.2
      simp only [Bool.and_eq_true, Bool.not_eq_true', beq_eq_false_iff_ne, ne_eq] at q2 ⊢
      exact ⟨q2.1, hi, q2.2⟩
section R4
variable {X : EX} {y : MD} {d mc ms : Nat} {Q : Option VV → HP → Prop} {cells slots pc pc' : Nat} {ls : ZL} {st : List VV} {h : HP}

theorem e_iconst {n : Int} {v : Int32} (hd : At y.2.1 pc (.iconst n) 1 pc') (he : Int32.ofInt n = v) (k : Ev X y d mc ms Q cells slots pc' ls (vI v :: st) h) : Ev X y d mc ms Q cells slots pc ls (st) h := by
  obtain ⟨hd, rfl⟩ := hd
  intro p e s m args below meth c H locs lsr C hC hS hl
  obtain ⟨lv, hv, hg⟩ := id hl
  exact lv_iconst C.1 C.2.1 hd he (k p e s m args below meth c H locs lsr C hC hS hl)
theorem e_bipush {n : Int} {v : Int32} (hd : At y.2.1 pc (.bipush n) 2 pc') (he : (Int8.ofInt n).toInt32 = v) (k : Ev X y d mc ms Q cells slots pc' ls (vI v :: st) h) : Ev X y d mc ms Q cells slots pc ls (st) h := by
  obtain ⟨hd, rfl⟩ := hd
  intro p e s m args below meth c H locs lsr C hC hS hl
  obtain ⟨lv, hv, hg⟩ := id hl
  exact lv_bipush C.1 C.2.1 hd he (k p e s m args below meth c H locs lsr C hC hS hl)
theorem e_sipush {n : Int} {v : Int32} (hd : At y.2.1 pc (.sipush n) 3 pc') (he : (Int16.ofInt n).toInt32 = v) (k : Ev X y d mc ms Q cells slots pc' ls (vI v :: st) h) : Ev X y d mc ms Q cells slots pc ls (st) h := by
  obtain ⟨hd, rfl⟩ := hd
  intro p e s m args below meth c H locs lsr C hC hS hl
  obtain ⟨lv, hv, hg⟩ := id hl
  exact lv_sipush C.1 C.2.1 hd he (k p e s m args below meth c H locs lsr C hC hS hl)
theorem e_lconst {n : Fin 2} {v : Int64} (hd : At y.2.1 pc (.lconst n) 1 pc') (he : Int64.ofNat (n : Nat) = v) (k : Ev X y d mc ms Q cells slots pc' ls (vL v :: st) h) : Ev X y d mc ms Q cells slots pc ls (st) h := by
  obtain ⟨hd, rfl⟩ := hd
  intro p e s m args below meth c H locs lsr C hC hS hl
  obtain ⟨lv, hv, hg⟩ := id hl
  exact lv_lconst C.1 C.2.1 hd he (k p e s m args below meth c H locs lsr C hC hS hl)
theorem e_aconst_null  (hd : At y.2.1 pc (.aconst_null) 1 pc') (k : Ev X y d mc ms Q cells slots pc' ls (vR none :: st) h) : Ev X y d mc ms Q cells slots pc ls (st) h := by
  obtain ⟨hd, rfl⟩ := hd
  intro p e s m args below meth c H locs lsr C hC hS hl
  obtain ⟨lv, hv, hg⟩ := id hl
  exact lv_null C.1 C.2.1 hd (k p e s m args below meth c H locs lsr C hC hS hl)
theorem e_iload_n {n : Fin 4} {x : Int32} (hd : At y.2.1 pc (.iload_n n) 1 pc') (hx : gL ls (n : Nat) = some (vI x)) (k : Ev X y d mc ms Q cells slots pc' ls (vI x :: st) h) : Ev X y d mc ms Q cells slots pc ls (st) h := by
  obtain ⟨hd, rfl⟩ := hd
  intro p e s m args below meth c H locs lsr C hC hS hl
  obtain ⟨lv, hv, hg⟩ := id hl
  exact lv_iload_n C.1 C.2.1 hd rfl (hv.2.2 _ (hg _ _ hx)) (k p e s m args below meth c H locs lsr C hC hS hl)
theorem e_iload {n : Nat} {x : Int32} (hd : At y.2.1 pc (.iload n) 2 pc') (hx : gL ls n = some (vI x)) (k : Ev X y d mc ms Q cells slots pc' ls (vI x :: st) h) : Ev X y d mc ms Q cells slots pc ls (st) h := by
  obtain ⟨hd, rfl⟩ := hd
  intro p e s m args below meth c H locs lsr C hC hS hl
  obtain ⟨lv, hv, hg⟩ := id hl
  exact lv_iload C.1 C.2.1 hd (hv.2.2 _ (hg _ _ hx)) (k p e s m args below meth c H locs lsr C hC hS hl)
theorem e_lload_n {n : Fin 4} {x : Int64} (hd : At y.2.1 pc (.lload_n n) 1 pc') (hx : gL ls (n : Nat) = some (vL x)) (k : Ev X y d mc ms Q cells slots pc' ls (vL x :: st) h) : Ev X y d mc ms Q cells slots pc ls (st) h := by
  obtain ⟨hd, rfl⟩ := hd
  intro p e s m args below meth c H locs lsr C hC hS hl
  obtain ⟨lv, hv, hg⟩ := id hl
  exact lv_lload_n C.1 C.2.1 hd rfl (hv.2.2 _ (hg _ _ hx)) (k p e s m args below meth c H locs lsr C hC hS hl)
theorem e_lload {n : Nat} {x : Int64} (hd : At y.2.1 pc (.lload n) 2 pc') (hx : gL ls n = some (vL x)) (k : Ev X y d mc ms Q cells slots pc' ls (vL x :: st) h) : Ev X y d mc ms Q cells slots pc ls (st) h := by
  obtain ⟨hd, rfl⟩ := hd
  intro p e s m args below meth c H locs lsr C hC hS hl
  obtain ⟨lv, hv, hg⟩ := id hl
  exact lv_lload C.1 C.2.1 hd (hv.2.2 _ (hg _ _ hx)) (k p e s m args below meth c H locs lsr C hC hS hl)
theorem e_aload_n {n : Fin 4} {r : Option Nat} (hd : At y.2.1 pc (.aload_n n) 1 pc') (hx : gL ls (n : Nat) = some (vR r)) (k : Ev X y d mc ms Q cells slots pc' ls (vR r :: st) h) : Ev X y d mc ms Q cells slots pc ls (st) h := by
  obtain ⟨hd, rfl⟩ := hd
  intro p e s m args below meth c H locs lsr C hC hS hl
  obtain ⟨lv, hv, hg⟩ := id hl
  have hx' := hv.2.2 _ (hg _ _ hx)
  have kk := k p e s m args below meth c H locs lsr C hC hS hl
  cases r with
  | none => exact lv_aload_nN C.1 C.2.1 hd rfl hx' kk
  | some a => exact lv_aload_n C.1 C.2.1 hd rfl hx' kk
theorem e_aload {n : Nat} {r : Option Nat} (hd : At y.2.1 pc (.aload n) 2 pc') (hx : gL ls n = some (vR r)) (k : Ev X y d mc ms Q cells slots pc' ls (vR r :: st) h) : Ev X y d mc ms Q cells slots pc ls (st) h := by
  obtain ⟨hd, rfl⟩ := hd
  intro p e s m args below meth c H locs lsr C hC hS hl
  obtain ⟨lv, hv, hg⟩ := id hl
  have hx' := hv.2.2 _ (hg _ _ hx)
  have kk := k p e s m args below meth c H locs lsr C hC hS hl
  cases r with
  | none => exact lv_aloadN C.1 C.2.1 hd hx' kk
  | some a => exact lv_aload C.1 C.2.1 hd hx' kk
theorem e_istore_n {n : Fin 4} {x : Int32} (hd : At y.2.1 pc (.istore_n n) 1 pc') (hn : ((n : Nat) : Nat) < y.2.2.1) (k : Ev X y d mc ms Q cells slots pc' (stL ls (n : Nat) (vI x)) (st) h) : Ev X y d mc ms Q cells slots pc ls (vI x :: st) h := by
  obtain ⟨hd, rfl⟩ := hd
  intro p e s m args below meth c H locs lsr C hC hS hl
  obtain ⟨lv, hv, hg⟩ := id hl
  exact lv_istore_n C.1 C.2.1 hd rfl hv (by simpa using hn) rfl (fun ls' h' => k p e s m args below meth c H locs ls' C hC hS ⟨_, h', stL_in (v0 := vI x) hg⟩)
theorem e_istore {n : Nat} {x : Int32} (hd : At y.2.1 pc (.istore n) 2 pc') (hn : (n : Nat) < y.2.2.1) (k : Ev X y d mc ms Q cells slots pc' (stL ls n (vI x)) (st) h) : Ev X y d mc ms Q cells slots pc ls (vI x :: st) h := by
  obtain ⟨hd, rfl⟩ := hd
  intro p e s m args below meth c H locs lsr C hC hS hl
  obtain ⟨lv, hv, hg⟩ := id hl
  exact lv_istore C.1 C.2.1 hd hv (by simpa using hn) rfl (fun ls' h' => k p e s m args below meth c H locs ls' C hC hS ⟨_, h', stL_in (v0 := vI x) hg⟩)
theorem e_lstore_n {n : Fin 4} {x : Int64} (hd : At y.2.1 pc (.lstore_n n) 1 pc') (hn : ((n : Nat) + 1 : Nat) < y.2.2.1) (k : Ev X y d mc ms Q cells slots pc' (stL2 ls (n : Nat) (vL x)) (st) h) : Ev X y d mc ms Q cells slots pc ls (vL x :: st) h := by
  obtain ⟨hd, rfl⟩ := hd
  intro p e s m args below meth c H locs lsr C hC hS hl
  obtain ⟨lv, hv, hg⟩ := id hl
  exact lv_lstore_n C.1 C.2.1 hd rfl hv (by simpa using hn) rfl (fun ls' h' => k p e s m args below meth c H locs ls' C hC hS ⟨_, h', stL2_in (v0 := vL x) hg⟩)
theorem e_lstore {n : Nat} {x : Int64} (hd : At y.2.1 pc (.lstore n) 2 pc') (hn : (n + 1 : Nat) < y.2.2.1) (k : Ev X y d mc ms Q cells slots pc' (stL2 ls n (vL x)) (st) h) : Ev X y d mc ms Q cells slots pc ls (vL x :: st) h := by
  obtain ⟨hd, rfl⟩ := hd
  intro p e s m args below meth c H locs lsr C hC hS hl
  obtain ⟨lv, hv, hg⟩ := id hl
  exact lv_lstore C.1 C.2.1 hd hv (by simpa using hn) rfl (fun ls' h' => k p e s m args below meth c H locs ls' C hC hS ⟨_, h', stL2_in (v0 := vL x) hg⟩)
theorem e_astore_n {n : Fin 4} {r : Option Nat} (hd : At y.2.1 pc (.astore_n n) 1 pc') (hn : ((n : Nat) : Nat) < y.2.2.1) (k : Ev X y d mc ms Q cells slots pc' (stL ls (n : Nat) (vR r)) (st) h) : Ev X y d mc ms Q cells slots pc ls (vR r :: st) h := by
  obtain ⟨hd, rfl⟩ := hd
  intro p e s m args below meth c H locs lsr C hC hS hl
  obtain ⟨lv, hv, hg⟩ := id hl
  cases r with
  | none => exact lv_astore_nN C.1 C.2.1 hd rfl hv (by simpa using hn) rfl (fun ls' h' => k p e s m args below meth c H locs ls' C hC hS ⟨_, h', stL_in (v0 := vR none) hg⟩)
  | some a => exact lv_astore_n C.1 C.2.1 hd rfl hv (by simpa using hn) rfl (fun ls' h' => k p e s m args below meth c H locs ls' C hC hS ⟨_, h', stL_in (v0 := vR (some a)) hg⟩)
theorem e_astore {n : Nat} {r : Option Nat} (hd : At y.2.1 pc (.astore n) 2 pc') (hn : (n : Nat) < y.2.2.1) (k : Ev X y d mc ms Q cells slots pc' (stL ls n (vR r)) (st) h) : Ev X y d mc ms Q cells slots pc ls (vR r :: st) h := by
  obtain ⟨hd, rfl⟩ := hd
  intro p e s m args below meth c H locs lsr C hC hS hl
  obtain ⟨lv, hv, hg⟩ := id hl
  cases r with
  | none => exact lv_astoreN C.1 C.2.1 hd hv (by simpa using hn) rfl (fun ls' h' => k p e s m args below meth c H locs ls' C hC hS ⟨_, h', stL_in (v0 := vR none) hg⟩)
  | some a => exact lv_astore C.1 C.2.1 hd hv (by simpa using hn) rfl (fun ls' h' => k p e s m args below meth c H locs ls' C hC hS ⟨_, h', stL_in (v0 := vR (some a)) hg⟩)
theorem e_iinc {n : Nat} {z : Int} {x v : Int32} (hd : At y.2.1 pc (.iinc n z) 3 pc') (hx : gL ls n = some (vI x)) (he : x + Int32.ofInt z = v) (hn : n < y.2.2.1) (k : Ev X y d mc ms Q cells slots pc' (stL ls n (vI v)) (st) h) : Ev X y d mc ms Q cells slots pc ls (st) h := by
  obtain ⟨hd, rfl⟩ := hd
  intro p e s m args below meth c H locs lsr C hC hS hl
  obtain ⟨lv, hv, hg⟩ := id hl
  obtain ⟨k0, hk0⟩ := List.getElem?_of_mem (hg _ _ hx)
  exact lv_iinc C.1 C.2.1 hd hv hk0 he hn rfl (fun ls' h' => k p e s m args below meth c H locs ls' C hC hS ⟨_, h', stL_in (v0 := vI v) hg⟩)
theorem e_iadd {x y0 : Int32} (hd : At y.2.1 pc (.iadd) 1 pc') (k : Ev X y d mc ms Q cells slots pc' ls (vI (x + y0) :: st) h) : Ev X y d mc ms Q cells slots pc ls (vI y0 :: vI x :: st) h := by
  obtain ⟨hd, rfl⟩ := hd
  intro p e s m args below meth c H locs lsr C hC hS hl
  obtain ⟨lv, hv, hg⟩ := id hl
  exact lv_iadd C.1 C.2.1 hd (k p e s m args below meth c H locs lsr C hC hS hl)
theorem e_isub {x y0 : Int32} (hd : At y.2.1 pc (.isub) 1 pc') (k : Ev X y d mc ms Q cells slots pc' ls (vI (x - y0) :: st) h) : Ev X y d mc ms Q cells slots pc ls (vI y0 :: vI x :: st) h := by
  obtain ⟨hd, rfl⟩ := hd
  intro p e s m args below meth c H locs lsr C hC hS hl
  obtain ⟨lv, hv, hg⟩ := id hl
  exact lv_isub C.1 C.2.1 hd (k p e s m args below meth c H locs lsr C hC hS hl)
theorem e_imul {x y0 : Int32} (hd : At y.2.1 pc (.imul) 1 pc') (k : Ev X y d mc ms Q cells slots pc' ls (vI (x * y0) :: st) h) : Ev X y d mc ms Q cells slots pc ls (vI y0 :: vI x :: st) h := by
  obtain ⟨hd, rfl⟩ := hd
  intro p e s m args below meth c H locs lsr C hC hS hl
  obtain ⟨lv, hv, hg⟩ := id hl
  exact lv_imul C.1 C.2.1 hd (k p e s m args below meth c H locs lsr C hC hS hl)
theorem e_iand {x y0 : Int32} (hd : At y.2.1 pc (.iand) 1 pc') (k : Ev X y d mc ms Q cells slots pc' ls (vI (x &&& y0) :: st) h) : Ev X y d mc ms Q cells slots pc ls (vI y0 :: vI x :: st) h := by
  obtain ⟨hd, rfl⟩ := hd
  intro p e s m args below meth c H locs lsr C hC hS hl
  obtain ⟨lv, hv, hg⟩ := id hl
  exact lv_iand C.1 C.2.1 hd (k p e s m args below meth c H locs lsr C hC hS hl)
theorem e_ior {x y0 : Int32} (hd : At y.2.1 pc (.ior) 1 pc') (k : Ev X y d mc ms Q cells slots pc' ls (vI (x ||| y0) :: st) h) : Ev X y d mc ms Q cells slots pc ls (vI y0 :: vI x :: st) h := by
  obtain ⟨hd, rfl⟩ := hd
  intro p e s m args below meth c H locs lsr C hC hS hl
  obtain ⟨lv, hv, hg⟩ := id hl
  exact lv_ior C.1 C.2.1 hd (k p e s m args below meth c H locs lsr C hC hS hl)
theorem e_ixor {x y0 : Int32} (hd : At y.2.1 pc (.ixor) 1 pc') (k : Ev X y d mc ms Q cells slots pc' ls (vI (x ^^^ y0) :: st) h) : Ev X y d mc ms Q cells slots pc ls (vI y0 :: vI x :: st) h := by
  obtain ⟨hd, rfl⟩ := hd
  intro p e s m args below meth c H locs lsr C hC hS hl
  obtain ⟨lv, hv, hg⟩ := id hl
  exact lv_ixor C.1 C.2.1 hd (k p e s m args below meth c H locs lsr C hC hS hl)
theorem e_ladd {x y0 : Int64} (hd : At y.2.1 pc (.ladd) 1 pc') (k : Ev X y d mc ms Q cells slots pc' ls (vL (x + y0) :: st) h) : Ev X y d mc ms Q cells slots pc ls (vL y0 :: vL x :: st) h := by
  obtain ⟨hd, rfl⟩ := hd
  intro p e s m args below meth c H locs lsr C hC hS hl
  obtain ⟨lv, hv, hg⟩ := id hl
  exact lv_ladd C.1 C.2.1 hd (k p e s m args below meth c H locs lsr C hC hS hl)
theorem e_lsub {x y0 : Int64} (hd : At y.2.1 pc (.lsub) 1 pc') (k : Ev X y d mc ms Q cells slots pc' ls (vL (x - y0) :: st) h) : Ev X y d mc ms Q cells slots pc ls (vL y0 :: vL x :: st) h := by
  obtain ⟨hd, rfl⟩ := hd
  intro p e s m args below meth c H locs lsr C hC hS hl
  obtain ⟨lv, hv, hg⟩ := id hl
  exact lv_lsub C.1 C.2.1 hd (k p e s m args below meth c H locs lsr C hC hS hl)
theorem e_land {x y0 : Int64} (hd : At y.2.1 pc (.land) 1 pc') (k : Ev X y d mc ms Q cells slots pc' ls (vL (x &&& y0) :: st) h) : Ev X y d mc ms Q cells slots pc ls (vL y0 :: vL x :: st) h := by
  obtain ⟨hd, rfl⟩ := hd
  intro p e s m args below meth c H locs lsr C hC hS hl
  obtain ⟨lv, hv, hg⟩ := id hl
  exact lv_land C.1 C.2.1 hd (k p e s m args below meth c H locs lsr C hC hS hl)
theorem e_lor {x y0 : Int64} (hd : At y.2.1 pc (.lor) 1 pc') (k : Ev X y d mc ms Q cells slots pc' ls (vL (x ||| y0) :: st) h) : Ev X y d mc ms Q cells slots pc ls (vL y0 :: vL x :: st) h := by
  obtain ⟨hd, rfl⟩ := hd
  intro p e s m args below meth c H locs lsr C hC hS hl
  obtain ⟨lv, hv, hg⟩ := id hl
  exact lv_lor C.1 C.2.1 hd (k p e s m args below meth c H locs lsr C hC hS hl)
theorem e_lxor {x y0 : Int64} (hd : At y.2.1 pc (.lxor) 1 pc') (k : Ev X y d mc ms Q cells slots pc' ls (vL (x ^^^ y0) :: st) h) : Ev X y d mc ms Q cells slots pc ls (vL y0 :: vL x :: st) h := by
  obtain ⟨hd, rfl⟩ := hd
  intro p e s m args below meth c H locs lsr C hC hS hl
  obtain ⟨lv, hv, hg⟩ := id hl
  exact lv_lxor C.1 C.2.1 hd (k p e s m args below meth c H locs lsr C hC hS hl)
theorem e_ishl {x y0 : Int32} (hd : At y.2.1 pc (.ishl) 1 pc') (k : Ev X y d mc ms Q cells slots pc' ls (vI (x <<< (y0 &&& 31)) :: st) h) : Ev X y d mc ms Q cells slots pc ls (vI y0 :: vI x :: st) h := by
  obtain ⟨hd, rfl⟩ := hd
  intro p e s m args below meth c H locs lsr C hC hS hl
  obtain ⟨lv, hv, hg⟩ := id hl
  exact lv_ishl C.1 C.2.1 hd (k p e s m args below meth c H locs lsr C hC hS hl)
theorem e_ishr {x y0 : Int32} (hd : At y.2.1 pc (.ishr) 1 pc') (k : Ev X y d mc ms Q cells slots pc' ls (vI (x >>> (y0 &&& 31)) :: st) h) : Ev X y d mc ms Q cells slots pc ls (vI y0 :: vI x :: st) h := by
  obtain ⟨hd, rfl⟩ := hd
  intro p e s m args below meth c H locs lsr C hC hS hl
  obtain ⟨lv, hv, hg⟩ := id hl
  exact lv_ishr C.1 C.2.1 hd (k p e s m args below meth c H locs lsr C hC hS hl)
theorem e_idiv {x y0 : Int32} (hd : At y.2.1 pc (.idiv) 1 pc') (hne : ¬ y0 = 0) (k : Ev X y d mc ms Q cells slots pc' ls (vI (x / y0) :: st) h) : Ev X y d mc ms Q cells slots pc ls (vI y0 :: vI x :: st) h := by
  obtain ⟨hd, rfl⟩ := hd
  intro p e s m args below meth c H locs lsr C hC hS hl
  obtain ⟨lv, hv, hg⟩ := id hl
  exact lv_idiv C.1 C.2.1 hd hne (k p e s m args below meth c H locs lsr C hC hS hl)
theorem e_irem {x y0 : Int32} (hd : At y.2.1 pc (.irem) 1 pc') (hne : ¬ y0 = 0) (k : Ev X y d mc ms Q cells slots pc' ls (vI (x - x / y0 * y0) :: st) h) : Ev X y d mc ms Q cells slots pc ls (vI y0 :: vI x :: st) h := by
  obtain ⟨hd, rfl⟩ := hd
  intro p e s m args below meth c H locs lsr C hC hS hl
  obtain ⟨lv, hv, hg⟩ := id hl
  exact lv_irem C.1 C.2.1 hd hne (k p e s m args below meth c H locs lsr C hC hS hl)
theorem e_ineg {x : Int32} (hd : At y.2.1 pc (.ineg) 1 pc') (k : Ev X y d mc ms Q cells slots pc' ls (vI (-x) :: st) h) : Ev X y d mc ms Q cells slots pc ls (vI x :: st) h := by
  obtain ⟨hd, rfl⟩ := hd
  intro p e s m args below meth c H locs lsr C hC hS hl
  obtain ⟨lv, hv, hg⟩ := id hl
  exact lv_ineg C.1 C.2.1 hd (k p e s m args below meth c H locs lsr C hC hS hl)
theorem e_iushr {x y0 : Int32} (hd : At y.2.1 pc (.iushr) 1 pc') (k : Ev X y d mc ms Q cells slots pc' ls (vI ((x.toUInt32 >>> (y0.toUInt32 &&& Int32.toUInt32 31)).toInt32) :: st) h) : Ev X y d mc ms Q cells slots pc ls (vI y0 :: vI x :: st) h := by
  obtain ⟨hd, rfl⟩ := hd
  intro p e s m args below meth c H locs lsr C hC hS hl
  obtain ⟨lv, hv, hg⟩ := id hl
  exact lv_iushr C.1 C.2.1 hd rfl (k p e s m args below meth c H locs lsr C hC hS hl)
theorem e_lshl {x : Int64} {y0 : Int32} (hd : At y.2.1 pc (.lshl) 1 pc') (k : Ev X y d mc ms Q cells slots pc' ls (vL (x <<< (y0.toInt64 &&& 63)) :: st) h) : Ev X y d mc ms Q cells slots pc ls (vI y0 :: vL x :: st) h := by
  obtain ⟨hd, rfl⟩ := hd
  intro p e s m args below meth c H locs lsr C hC hS hl
  obtain ⟨lv, hv, hg⟩ := id hl
  exact lv_lshl C.1 C.2.1 hd rfl (k p e s m args below meth c H locs lsr C hC hS hl)
theorem e_lshr {x : Int64} {y0 : Int32} (hd : At y.2.1 pc (.lshr) 1 pc') (k : Ev X y d mc ms Q cells slots pc' ls (vL (x >>> (y0.toInt64 &&& 63)) :: st) h) : Ev X y d mc ms Q cells slots pc ls (vI y0 :: vL x :: st) h := by
  obtain ⟨hd, rfl⟩ := hd
  intro p e s m args below meth c H locs lsr C hC hS hl
  obtain ⟨lv, hv, hg⟩ := id hl
  exact lv_lshr C.1 C.2.1 hd rfl (k p e s m args below meth c H locs lsr C hC hS hl)
theorem e_i2l {x : Int32} (hd : At y.2.1 pc (.i2l) 1 pc') (k : Ev X y d mc ms Q cells slots pc' ls (vL x.toInt64 :: st) h) : Ev X y d mc ms Q cells slots pc ls (vI x :: st) h := by
  obtain ⟨hd, rfl⟩ := hd
  intro p e s m args below meth c H locs lsr C hC hS hl
  obtain ⟨lv, hv, hg⟩ := id hl
  exact lv_i2l C.1 C.2.1 hd rfl (k p e s m args below meth c H locs lsr C hC hS hl)
theorem e_l2i {x : Int64} (hd : At y.2.1 pc (.l2i) 1 pc') (k : Ev X y d mc ms Q cells slots pc' ls (vI x.toInt32 :: st) h) : Ev X y d mc ms Q cells slots pc ls (vL x :: st) h := by
  obtain ⟨hd, rfl⟩ := hd
  intro p e s m args below meth c H locs lsr C hC hS hl
  obtain ⟨lv, hv, hg⟩ := id hl
  exact lv_l2i C.1 C.2.1 hd rfl (k p e s m args below meth c H locs lsr C hC hS hl)
theorem e_i2b {x : Int32} (hd : At y.2.1 pc (.i2b) 1 pc') (k : Ev X y d mc ms Q cells slots pc' ls (vI x.toInt8.toInt32 :: st) h) : Ev X y d mc ms Q cells slots pc ls (vI x :: st) h := by
  obtain ⟨hd, rfl⟩ := hd
  intro p e s m args below meth c H locs lsr C hC hS hl
  obtain ⟨lv, hv, hg⟩ := id hl
  exact lv_i2b C.1 C.2.1 hd rfl (k p e s m args below meth c H locs lsr C hC hS hl)
theorem e_i2s {x : Int32} (hd : At y.2.1 pc (.i2s) 1 pc') (k : Ev X y d mc ms Q cells slots pc' ls (vI x.toInt16.toInt32 :: st) h) : Ev X y d mc ms Q cells slots pc ls (vI x :: st) h := by
  obtain ⟨hd, rfl⟩ := hd
  intro p e s m args below meth c H locs lsr C hC hS hl
  obtain ⟨lv, hv, hg⟩ := id hl
  exact lv_i2s C.1 C.2.1 hd rfl (k p e s m args below meth c H locs lsr C hC hS hl)
theorem e_lcmp {x y0 : Int64} (hd : At y.2.1 pc (.lcmp) 1 pc') (k : Ev X y d mc ms Q cells slots pc' ls (vI (lg_cmp x y0) :: st) h) : Ev X y d mc ms Q cells slots pc ls (vL y0 :: vL x :: st) h := by
  obtain ⟨hd, rfl⟩ := hd
  intro p e s m args below meth c H locs lsr C hC hS hl
  obtain ⟨lv, hv, hg⟩ := id hl
  exact W.lcmp C.1 C.2.1 hd (k p e s m args below meth c H locs lsr C hC hS hl)
theorem e_dup {v : VV} (hd : At y.2.1 pc (.dup) 1 pc') (hc : is2 (some v) = false) (k : Ev X y d mc ms Q cells slots pc' ls (v :: v :: st) h) : Ev X y d mc ms Q cells slots pc ls (v :: st) h := by
  obtain ⟨hd, rfl⟩ := hd
  intro p e s m args below meth c H locs lsr C hC hS hl
  obtain ⟨lv, hv, hg⟩ := id hl
  exact lv_dup C.1 C.2.1 hd (by rw [cv_cat, hc]; rfl) (k p e s m args below meth c H locs lsr C hC hS hl)
theorem e_pop {v : VV} (hd : At y.2.1 pc (.pop) 1 pc') (hc : is2 (some v) = false) (k : Ev X y d mc ms Q cells slots pc' ls (st) h) : Ev X y d mc ms Q cells slots pc ls (v :: st) h := by
  obtain ⟨hd, rfl⟩ := hd
  intro p e s m args below meth c H locs lsr C hC hS hl
  obtain ⟨lv, hv, hg⟩ := id hl
  exact lv_pop C.1 C.2.1 hd (by rw [cv_cat, hc]; rfl) (k p e s m args below meth c H locs lsr C hC hS hl)
theorem e_dup2 {v w : VV} (hd : At y.2.1 pc (.dup2) 1 pc') (hc : is2 (some v) = false) (hc2 : is2 (some w) = false) (k : Ev X y d mc ms Q cells slots pc' ls (v :: w :: v :: w :: st) h) : Ev X y d mc ms Q cells slots pc ls (v :: w :: st) h := by
  obtain ⟨hd, rfl⟩ := hd
  intro p e s m args below meth c H locs lsr C hC hS hl
  obtain ⟨lv, hv, hg⟩ := id hl
  exact lv_dup2_11 C.1 C.2.1 hd (by rw [cv_cat, hc]; rfl) (by rw [cv_cat, hc2]; rfl) (k p e s m args below meth c H locs lsr C hC hS hl)
theorem e_if_eq {x : Int32} {off : Int} {tgt : Nat} (hd : Br y.2.1 pc (.ifCond .eq off) off pc' tgt) (kt : x = 0 → Ev X y d mc ms Q cells slots tgt ls st h) (kf : ¬ x = 0 → Ev X y d mc ms Q cells slots pc' ls st h) : Ev X y d mc ms Q cells slots pc ls (vI x :: st) h := by
  obtain ⟨hd, rfl, ht⟩ := hd
  intro p e s m args below meth c H locs lsr C hC hS hl
  exact lv_if_eq C.1 C.2.1 hd ht (fun q => kt q p e s m args below meth c H locs lsr C hC hS hl) (fun q => kf q p e s m args below meth c H locs lsr C hC hS hl)
theorem e_icmp_eq {x y0 : Int32} {off : Int} {tgt : Nat} (hd : Br y.2.1 pc (.if_icmp .eq off) off pc' tgt) (kt : x = y0 → Ev X y d mc ms Q cells slots tgt ls st h) (kf : ¬ x = y0 → Ev X y d mc ms Q cells slots pc' ls st h) : Ev X y d mc ms Q cells slots pc ls (vI y0 :: vI x :: st) h := by
  obtain ⟨hd, rfl, ht⟩ := hd
  intro p e s m args below meth c H locs lsr C hC hS hl
  exact lv_icmp_eq C.1 C.2.1 hd ht (fun q => kt q p e s m args below meth c H locs lsr C hC hS hl) (fun q => kf q p e s m args below meth c H locs lsr C hC hS hl)
theorem e_if_ne {x : Int32} {off : Int} {tgt : Nat} (hd : Br y.2.1 pc (.ifCond .ne off) off pc' tgt) (kt : ¬ x = 0 → Ev X y d mc ms Q cells slots tgt ls st h) (kf : x = 0 → Ev X y d mc ms Q cells slots pc' ls st h) : Ev X y d mc ms Q cells slots pc ls (vI x :: st) h := by
  obtain ⟨hd, rfl, ht⟩ := hd
  intro p e s m args below meth c H locs lsr C hC hS hl
  exact lv_if_ne C.1 C.2.1 hd ht (fun q => kt q p e s m args below meth c H locs lsr C hC hS hl) (fun q => kf q p e s m args below meth c H locs lsr C hC hS hl)
theorem e_icmp_ne {x y0 : Int32} {off : Int} {tgt : Nat} (hd : Br y.2.1 pc (.if_icmp .ne off) off pc' tgt) (kt : ¬ x = y0 → Ev X y d mc ms Q cells slots tgt ls st h) (kf : x = y0 → Ev X y d mc ms Q cells slots pc' ls st h) : Ev X y d mc ms Q cells slots pc ls (vI y0 :: vI x :: st) h := by
  obtain ⟨hd, rfl, ht⟩ := hd
  intro p e s m args below meth c H locs lsr C hC hS hl
  exact lv_icmp_ne C.1 C.2.1 hd ht (fun q => kt q p e s m args below meth c H locs lsr C hC hS hl) (fun q => kf q p e s m args below meth c H locs lsr C hC hS hl)
theorem e_if_lt {x : Int32} {off : Int} {tgt : Nat} (hd : Br y.2.1 pc (.ifCond .lt off) off pc' tgt) (kt : x < 0 → Ev X y d mc ms Q cells slots tgt ls st h) (kf : ¬ x < 0 → Ev X y d mc ms Q cells slots pc' ls st h) : Ev X y d mc ms Q cells slots pc ls (vI x :: st) h := by
  obtain ⟨hd, rfl, ht⟩ := hd
  intro p e s m args below meth c H locs lsr C hC hS hl
  exact lv_if_lt C.1 C.2.1 hd ht (fun q => kt q p e s m args below meth c H locs lsr C hC hS hl) (fun q => kf q p e s m args below meth c H locs lsr C hC hS hl)
theorem e_icmp_lt {x y0 : Int32} {off : Int} {tgt : Nat} (hd : Br y.2.1 pc (.if_icmp .lt off) off pc' tgt) (kt : x < y0 → Ev X y d mc ms Q cells slots tgt ls st h) (kf : ¬ x < y0 → Ev X y d mc ms Q cells slots pc' ls st h) : Ev X y d mc ms Q cells slots pc ls (vI y0 :: vI x :: st) h := by
  obtain ⟨hd, rfl, ht⟩ := hd
  intro p e s m args below meth c H locs lsr C hC hS hl
  exact lv_icmp_lt C.1 C.2.1 hd ht (fun q => kt q p e s m args below meth c H locs lsr C hC hS hl) (fun q => kf q p e s m args below meth c H locs lsr C hC hS hl)
theorem e_if_ge {x : Int32} {off : Int} {tgt : Nat} (hd : Br y.2.1 pc (.ifCond .ge off) off pc' tgt) (kt : 0 ≤ x → Ev X y d mc ms Q cells slots tgt ls st h) (kf : ¬ 0 ≤ x → Ev X y d mc ms Q cells slots pc' ls st h) : Ev X y d mc ms Q cells slots pc ls (vI x :: st) h := by
  obtain ⟨hd, rfl, ht⟩ := hd
  intro p e s m args below meth c H locs lsr C hC hS hl
  exact lv_if_ge C.1 C.2.1 hd ht (fun q => kt q p e s m args below meth c H locs lsr C hC hS hl) (fun q => kf q p e s m args below meth c H locs lsr C hC hS hl)
theorem e_icmp_ge {x y0 : Int32} {off : Int} {tgt : Nat} (hd : Br y.2.1 pc (.if_icmp .ge off) off pc' tgt) (kt : y0 ≤ x → Ev X y d mc ms Q cells slots tgt ls st h) (kf : ¬ y0 ≤ x → Ev X y d mc ms Q cells slots pc' ls st h) : Ev X y d mc ms Q cells slots pc ls (vI y0 :: vI x :: st) h := by
  obtain ⟨hd, rfl, ht⟩ := hd
  intro p e s m args below meth c H locs lsr C hC hS hl
  exact lv_icmp_ge C.1 C.2.1 hd ht (fun q => kt q p e s m args below meth c H locs lsr C hC hS hl) (fun q => kf q p e s m args below meth c H locs lsr C hC hS hl)
theorem e_if_gt {x : Int32} {off : Int} {tgt : Nat} (hd : Br y.2.1 pc (.ifCond .gt off) off pc' tgt) (kt : 0 < x → Ev X y d mc ms Q cells slots tgt ls st h) (kf : ¬ 0 < x → Ev X y d mc ms Q cells slots pc' ls st h) : Ev X y d mc ms Q cells slots pc ls (vI x :: st) h := by
  obtain ⟨hd, rfl, ht⟩ := hd
  intro p e s m args below meth c H locs lsr C hC hS hl
  exact lv_if_gt C.1 C.2.1 hd ht (fun q => kt q p e s m args below meth c H locs lsr C hC hS hl) (fun q => kf q p e s m args below meth c H locs lsr C hC hS hl)
theorem e_icmp_gt {x y0 : Int32} {off : Int} {tgt : Nat} (hd : Br y.2.1 pc (.if_icmp .gt off) off pc' tgt) (kt : y0 < x → Ev X y d mc ms Q cells slots tgt ls st h) (kf : ¬ y0 < x → Ev X y d mc ms Q cells slots pc' ls st h) : Ev X y d mc ms Q cells slots pc ls (vI y0 :: vI x :: st) h := by
  obtain ⟨hd, rfl, ht⟩ := hd
  intro p e s m args below meth c H locs lsr C hC hS hl
  exact lv_icmp_gt C.1 C.2.1 hd ht (fun q => kt q p e s m args below meth c H locs lsr C hC hS hl) (fun q => kf q p e s m args below meth c H locs lsr C hC hS hl)
theorem e_if_le {x : Int32} {off : Int} {tgt : Nat} (hd : Br y.2.1 pc (.ifCond .le off) off pc' tgt) (kt : x ≤ 0 → Ev X y d mc ms Q cells slots tgt ls st h) (kf : ¬ x ≤ 0 → Ev X y d mc ms Q cells slots pc' ls st h) : Ev X y d mc ms Q cells slots pc ls (vI x :: st) h := by
  obtain ⟨hd, rfl, ht⟩ := hd
  intro p e s m args below meth c H locs lsr C hC hS hl
  exact lv_if_le C.1 C.2.1 hd ht (fun q => kt q p e s m args below meth c H locs lsr C hC hS hl) (fun q => kf q p e s m args below meth c H locs lsr C hC hS hl)
theorem e_icmp_le {x y0 : Int32} {off : Int} {tgt : Nat} (hd : Br y.2.1 pc (.if_icmp .le off) off pc' tgt) (kt : x ≤ y0 → Ev X y d mc ms Q cells slots tgt ls st h) (kf : ¬ x ≤ y0 → Ev X y d mc ms Q cells slots pc' ls st h) : Ev X y d mc ms Q cells slots pc ls (vI y0 :: vI x :: st) h := by
  obtain ⟨hd, rfl, ht⟩ := hd
  intro p e s m args below meth c H locs lsr C hC hS hl
  exact lv_icmp_le C.1 C.2.1 hd ht (fun q => kt q p e s m args below meth c H locs lsr C hC hS hl) (fun q => kf q p e s m args below meth c H locs lsr C hC hS hl)
theorem e_goto {off : Int} {tgt : Nat} (hd : Br y.2.1 pc (.goto off) off pc' tgt) (k : Ev X y d mc ms Q cells slots tgt ls st h) : Ev X y d mc ms Q cells slots pc ls st h := by
  obtain ⟨hd, rfl, ht⟩ := hd
  intro p e s m args below meth c H locs lsr C hC hS hl
  exact lv_goto C.1 C.2.1 hd ht (k p e s m args below meth c H locs lsr C hC hS hl)
theorem e_ifnull {r : Option Nat} {off : Int} {tgt : Nat} (hd : Br y.2.1 pc (.ifnull off) off pc' tgt) (kt : r = none → Ev X y d mc ms Q cells slots tgt ls st h) (kf : ∀ a, r = some a → Ev X y d mc ms Q cells slots pc' ls st h) : Ev X y d mc ms Q cells slots pc ls (vR r :: st) h := by
  obtain ⟨hd, rfl, ht⟩ := hd
  intro p e s m args below meth c H locs lsr C hC hS hl
  cases r with
  | none => exact lv_ifnullN C.1 C.2.1 hd ht (kt rfl p e s m args below meth c H locs lsr C hC hS hl)
  | some a => exact lv_ifnull C.1 C.2.1 hd (kf a rfl p e s m args below meth c H locs lsr C hC hS hl)
theorem e_ifnonnull {r : Option Nat} {off : Int} {tgt : Nat} (hd : Br y.2.1 pc (.ifnonnull off) off pc' tgt) (kt : ∀ a, r = some a → Ev X y d mc ms Q cells slots tgt ls st h) (kf : r = none → Ev X y d mc ms Q cells slots pc' ls st h) : Ev X y d mc ms Q cells slots pc ls (vR r :: st) h := by
  obtain ⟨hd, rfl, ht⟩ := hd
  intro p e s m args below meth c H locs lsr C hC hS hl
  cases r with
  | none => exact lv_ifnonnullN C.1 C.2.1 hd (kf rfl p e s m args below meth c H locs lsr C hC hS hl)
  | some a => exact lv_ifnonnull C.1 C.2.1 hd ht (kt a rfl p e s m args below meth c H locs lsr C hC hS hl)
theorem e_tableIn {dflt lo hi : Int} {offs : Array Int} {n : Nat} {x : Int32} {off : Int} {tgt : Nat} (hd : At y.2.1 pc (.tableswitch dflt lo hi offs) n pc') (h1 : ¬ x.toInt < lo) (h2 : ¬ hi < x.toInt) (ho : offs[(x.toInt - lo).toNat]? = some off) (ht : (pc : Int) + off = (tgt : Int)) (k : Ev X y d mc ms Q cells slots tgt ls st h) : Ev X y d mc ms Q cells slots pc ls (vI x :: st) h := by
  obtain ⟨hd, rfl⟩ := hd
  intro p e s m args below meth c H locs lsr C hC hS hl
  exact lv_tableIn C.1 C.2.1 hd h1 h2 ho ht (k p e s m args below meth c H locs lsr C hC hS hl)
theorem e_tableOut {dflt lo hi : Int} {offs : Array Int} {n : Nat} {x : Int32} {tgt : Nat} (hd : At y.2.1 pc (.tableswitch dflt lo hi offs) n pc') (h1 : x.toInt < lo ∨ hi < x.toInt) (ht : (pc : Int) + dflt = (tgt : Int)) (k : Ev X y d mc ms Q cells slots tgt ls st h) : Ev X y d mc ms Q cells slots pc ls (vI x :: st) h := by
  obtain ⟨hd, rfl⟩ := hd
  intro p e s m args below meth c H locs lsr C hC hS hl
  exact lv_tableOut C.1 C.2.1 hd h1 ht (k p e s m args below meth c H locs lsr C hC hS hl)
theorem e_lookup {dflt : Int} {ps : Array (Int × Int)} {n : Nat} {x : Int32} {off : Int} {tgt : Nat} (hd : At y.2.1 pc (.lookupswitch dflt ps) n pc') (hp : (ps.toList.zip (ps.toList.drop 1)).all (fun (a, next) => a.1 < next.1) = true) (ho : Op.lookupswitch.offset ps.toList dflt x.toInt = off) (ht : (pc : Int) + off = (tgt : Int)) (k : Ev X y d mc ms Q cells slots tgt ls st h) : Ev X y d mc ms Q cells slots pc ls (vI x :: st) h := by
  obtain ⟨hd, rfl⟩ := hd
  intro p e s m args below meth c H locs lsr C hC hS hl
  exact lv_lookup C.1 C.2.1 hd hp ho ht (k p e s m args below meth c H locs lsr C hC hS hl)
end R4
end
section
/-! what stays while the machine goes on; returns; contracts; calls -/
theorem Kn.warm {X : EX} {s U : State} (hW : s.WarmedH U.vm) (h : Kn X s) : Kn X U := by
  obtain ⟨h1, h2, h3, h4⟩ := h
  refine ⟨h1.moved hW.alike, fun w hw => ?_, fun C hC => (h3 C hC).moved hW.alike, fun i q hq => (h4 i q hq).warm hW⟩
  have h5 := h2 w hw
  simp only [nestW, List.mem_cons, List.not_mem_nil, or_false] at hw
  rcases hw with rfl | rfl | rfl | rfl | rfl | rfl | rfl | rfl | rfl | rfl | rfl <;> first | exact va_Nw.warmM hW h5 | exact va_Nw.warmF hW h5
theorem Kn.same {X : EX} {u U : State} (hv : U.vm = u.vm) (h : Kn X u) : Kn X U := by
  obtain ⟨h1, h2, h3, h4⟩ := h
  have hal : u.vm.Alike U.vm := by rw [hv]; exact Vm.Alike.refl _
  refine ⟨h1.moved hal, fun w hw => ?_, fun C hC => (h3 C hC).moved hal, fun i q hq => (h4 i q hq).same hv⟩
  have h5 := h2 w hw
  simp only [nestW, List.mem_cons, List.not_mem_nil, or_false] at hw
  rcases hw with rfl | rfl | rfl | rfl | rfl | rfl | rfl | rfl | rfl | rfl | rfl <;> exact va_Nw.same rfl hv.symm h5
theorem Pre.moved {X : EX} {u U : State} {H : Heap} (hvm : u.vm.Alike U.vm) (h : Pre X u H) : Pre X U H := by
  obtain ⟨h1, h2, ⟨adV, h3⟩, h4, h5⟩ := h
  exact ⟨fun i q hq => ⟨va_Z.moved hvm (h1 i q hq).1, va_T.moved hvm (h1 i q hq).2⟩, va_T.moved hvm h2, ⟨adV, vk_S.moved hvm h3⟩, va_Z.moved hvm h4, va_Zq.moved hvm h5⟩
theorem Pre.kept {X : EX} {U : State} {H H1 : Heap} (h : Pre X U H) (hq : ∀ a : Nat, a < H.size → ¬ AA X a → H1[a]? = H[a]?) : Pre X U H1 := by
  obtain ⟨h1, h2, ⟨adV, h3⟩, h4, h5⟩ := h
  exact ⟨fun i q hi => ⟨va_Z.kept (h1 i q hi).1 hq, va_T.kept (h1 i q hi).2 hq⟩, va_T.kept h2 hq, ⟨adV, vk_S.kept h3 hq⟩, va_Z.kept h4 hq, va_Zq.kept h5 hq⟩
theorem cor_of {X : EX} {h : HP} {s t : State} {H : Heap} {locs : List Loc} (hK : Kn X s) (hP : Pre X s s.heap) (hC : CorH X h H) (hS : va_S (AA X) s.heap H locs) (ht : t.heap = H) (hW : s.WarmedH t.vm) : Cor X h t := by
  subst ht
  exact ⟨hC, hK.warm hW, (hP.moved hW.alike).kept hS.2.1⟩
theorem blind {X : EX} {h : HP} (av : List Value) : FrameBlind (va_Pc av (fun U => Cor X h U)) := fun a U g mk q => by
  obtain ⟨q1, q2, q3, q4⟩ := q
  exact ⟨q1, q2, Kn.same (u := U) (U := U.calling g mk a) rfl q3, q4.moved (U := U.calling g mk a) (Vm.Alike.refl _)⟩
/-- the locals at the beginning -/
def arL : Nat → List VV → ZL
  | _, [] => []
  | i, v :: vs => (i, some v) :: arL (if is2 (some v) then i + 2 else i + 1) vs
def szL : List VV → Nat
  | [] => 0
  | v :: vs => (if is2 (some v) then 2 else 1) + szL vs
theorem szL_eq {X : EX} (av : List VV) : (lg_sl (av.map (cv X))).length = szL av := by
  induction av with
  | nil => rfl
  | cons v vs ih =>
    unfold lg_sl at ih ⊢
    rw [List.map_cons, List.flatMap_cons, List.length_append, ih, cv_cat]
    show _ = (if is2 (some v) then 2 else 1) + szL vs
    cases is2 (some v) <;> simp
theorem arL_in {X : EX} (av : List VV) : ∀ (i0 i : Nat) (v : VV), gL (arL i0 av) i = some v → (i, cv X v) ∈ lv_args i0 (av.map (cv X)) := by
  induction av with
  | nil => intro i0 i v h; cases h
  | cons w vs ih =>
    intro i0 i v h
    unfold arL at h
    simp only [gL] at h
    rw [List.map_cons]
    unfold lv_args
    by_cases hi : i = i0
    · subst hi
      rw [if_pos rfl] at h
      cases h
      exact List.mem_cons_self
    · rw [if_neg hi] at h
      refine List.mem_cons_of_mem _ ?_
      have h2 := ih _ _ _ h
      rw [cv_cat]
      cases hw : is2 (some w)
      · rw [hw] at h2; exact h2
      · rw [hw] at h2; exact h2
theorem ct_of {X : EX} {y : MD} {d mc ms : Nat} {av : List VV} {h : HP} {Q : Option VV → HP → Prop} (hpl : plainName y.1.cls = true) (hlen : szL av ≤ y.2.2.1) (k : Ev X y d mc ms Q 0 0 0 (arL 0 av) [] h) : Ct X y d mc ms av h Q := by
  refine Met.ofW (cc := y.2.1) (maxL := y.2.2.1) (ret := y.2.2.2) (ws' := TT) hpl rfl ?_
  intro p e s m args below meth c s₁ B hml hv
  obtain ⟨rfl, hcor⟩ := hv
  have hts := atoms_spec (ws := wsM y) B.pre
  have hin := (name_of_methodNamed B.named B.method).1
  have hown : s.vm.findClass y.1.cls = some m.cls := findClass_of_methodNamed B.named
  rw [lg_entry_eq]
  refine k p e s m _ below meth c s.heap [] _ ⟨B.exec, B.bytes, hml, B.returns, hown, fun w hw => hts w (List.mem_cons_of_mem _ hw), B.notSynchronized, hin, hcor.2.1, hcor.2.2, ?_⟩ hcor.1 va_S.rf ⟨_, lv_entry (av.map (cv X)) (by rw [szL_eq]; exact hlen), arL_in av 0⟩
  rw [hcor.1.1]
  omega
section R5
variable {X : EX} {y : MD} {d mc ms : Nat} {Q : Option VV → HP → Prop} {cells slots pc pc' : Nat} {ls : ZL} {st : List VV} {h : HP}
theorem e_nret {x : Int32} {ty : FieldType} (hd : At y.2.1 pc .ireturn 1 pc') (hr : y.2.2.2 = some ty) (hn : narrow ty (.int x) = .int x) (hc : cells ≤ mc) (hs : slots ≤ ms) (hQ : Q (some (vI x)) h) : Ev X y d mc ms Q cells slots pc ls [vI x] h := by
  obtain ⟨hd, rfl⟩ := hd
  intro p e s m args below meth c H locs lsr C hC hS hl
  obtain ⟨hx, hb, hml, hret, hown, hts, hlk, hnm, hK, hP, hsz⟩ := C
  refine W.widen hc hs ?_
  exact W.zret (ty := ty) hx hb (hret.trans hr) hn (fun t ht hW => ⟨⟨some (vI x), h, rfl, hQ, cor_of hK hP hC hS ht hW⟩, hS.F ht⟩) hS.2.2 hd
theorem e_ireturn {x : Int32} (hd : At y.2.1 pc .ireturn 1 pc') (hr : y.2.2.2 = some .int) (hc : cells ≤ mc) (hs : slots ≤ ms) (hQ : Q (some (vI x)) h) : Ev X y d mc ms Q cells slots pc ls [vI x] h := e_nret hd hr rfl hc hs hQ
theorem e_zreturn {x : Int32} (hd : At y.2.1 pc .ireturn 1 pc') (hr : y.2.2.2 = some .boolean) (hx : x = 0 ∨ x = 1) (hc : cells ≤ mc) (hs : slots ≤ ms) (hQ : Q (some (vI x)) h) : Ev X y d mc ms Q cells slots pc ls [vI x] h := e_nret hd hr (by rcases hx with rfl | rfl <;> decide) hc hs hQ
theorem e_lreturn {x : Int64} (hd : At y.2.1 pc .lreturn 1 pc') (hr : y.2.2.2 = some .long) (hc : cells ≤ mc) (hs : slots ≤ ms) (hQ : Q (some (vL x)) h) : Ev X y d mc ms Q cells slots pc ls [vL x] h := by
  obtain ⟨hd, rfl⟩ := hd
  intro p e s m args below meth c H locs lsr C hC hS hl
  obtain ⟨hx, hb, hml, hret, hown, hts, hlk, hnm, hK, hP, hsz⟩ := C
  refine W.widen hc hs ?_
  exact W.lret hx hb (hret.trans hr) (fun t ht hW => ⟨⟨some (vL x), h, rfl, hQ, cor_of hK hP hC hS ht hW⟩, hS.F ht⟩) hS.2.2 hd
theorem e_areturn {r : Option Nat} {C0 : String} (hd : At y.2.1 pc .areturn 1 pc') (hr : y.2.2.2 = some (.object C0)) (hc : cells ≤ mc) (hs : slots ≤ ms) (hQ : Q (some (vR r)) h) : Ev X y d mc ms Q cells slots pc ls [vR r] h := by
  obtain ⟨hd, rfl⟩ := hd
  intro p e s m args below meth c H locs lsr C hC hS hl
  obtain ⟨hx, hb, hml, hret, hown, hts, hlk, hnm, hK, hP, hsz⟩ := C
  refine W.widen hc hs ?_
  refine W.aret (v := cv X (vR r)) hx hb (hret.trans hr) (Or.inl ⟨_, rfl⟩) ?_ (fun t ht hW => ⟨⟨some (vR r), h, rfl, hQ, cor_of hK hP hC hS ht hW⟩, hS.F ht⟩) hS.2.2 hd
  cases r with
  | none => exact Or.inl rfl
  | some a => exact Or.inr ⟨_, rfl⟩
theorem e_return (hd : At y.2.1 pc .return_ 1 pc') (hr : y.2.2.2 = none) (hc : cells ≤ mc) (hs : slots ≤ ms) (hQ : Q none h) : Ev X y d mc ms Q cells slots pc ls [] h := by
  obtain ⟨hd, rfl⟩ := hd
  intro p e s m args below meth c H locs lsr C hC hS hl
  obtain ⟨hx, hb, hml, hret, hown, hts, hlk, hnm, hK, hP, hsz⟩ := C
  refine W.widen hc hs ?_
  exact W.vret hx hb (hret.trans hr) (fun t ht hW => ⟨⟨none, h, rfl, hQ, cor_of hK hP hC hS ht hW⟩, hS.F ht⟩) hS.2.2 hd
theorem e_widen {k n : Nat} (h1 : cells ≤ k) (h2 : slots ≤ n) (kk : Ev X y d mc ms Q k n pc ls st h) : Ev X y d mc ms Q cells slots pc ls st h := by
  intro p e s m args below meth c H locs lsr C hC hS hl
  exact W.widen h1 h2 (kk p e s m args below meth c H locs lsr C hC hS hl)
end R5
/-- an object or array of kind t of ours -/
def Is (h : HP) (a t : Nat) : Prop := 32 ≤ a ∧ a < hZ h ∧ hT h a = t
theorem ent_obj {X : EX} {h : HP} {a ci : Nat} (hc : ci < 10) (h1 : hT h a = ci + 1) : ent X h a = .inr (ci, (List.range (nF ci)).map (fun i => if isR ci i then va_rf ((hR h a i).map (ad X)) else .int (hI h a i))) := by
  unfold ent
  rw [h1, if_pos (by omega)]
  rfl
theorem ent_int {X : EX} {h : HP} {a t : Nat} (ht : t = 11 ∨ t = 12 ∨ t = 13 ∨ t = 15) (h1 : hT h a = t) : ent X h a = .inl (xA X t, hN h a, .inl (hI h a)) := by
  unfold ent
  rw [h1, if_neg (by omega), if_neg (by omega), if_pos (by omega)]
theorem ent_long {X : EX} {h : HP} {a : Nat} (h1 : hT h a = 14) : ent X h a = .inl (xA X 14, hN h a, .inr (.inl (hL h a))) := by
  unfold ent
  rw [h1, if_neg (by omega), if_pos rfl]
theorem ent_ref {X : EX} {h : HP} {a t : Nat} (ht : 16 ≤ t) (h1 : hT h a = t) : ent X h a = .inl (xA X t, hN h a, .inr (.inr (.inr (.inr (fun i => (hR h a i).map (ad X)))))) := by
  unfold ent
  rw [h1, if_neg (by omega), if_neg (by omega), if_neg (by omega)]
/-- a class of the table -/
def Cl (ci : Nat) (C : String) : Prop := ci < 10 ∧ ∃ r, vwCl[ci]? = some r ∧ r.1 = C
/-- links of calls, and what the tables say of the callee -/
def MdOk (y : MD) : Prop := cw y ∈ TT ∧ (y.1.cls ≠ "java/lang/invoke/MethodHandle" ∧ y.1.cls ≠ "java/lang/invoke/VarHandle") ∧ .initialized y.1.cls ∈ TT
def npar (y : MD) (n : Nat) : Prop := (parseMethodDescriptor y.1.desc).map (fun d => d.parameters.length) = some n
def CalV (own : String) (ix ci : Nat) (y : MD) (n : Nat) : Prop := MdOk y ∧ npar y n ∧ Cl ci y.1.cls ∧ .methodLink own ix y.1 ∈ TT ∧ .instanceMethod y.1 ∈ TT ∧ .selects y.1.cls y.1 y.1 ∈ TT
def CalS (own : String) (ix : Nat) (y : MD) (n : Nat) : Prop := MdOk y ∧ npar y n ∧ .methodLink own ix y.1 ∈ TT ∧ .static y.1 ∈ TT
def CalSN (own : String) (ix : Nat) (y : MD) (n : Nat) : Prop := MdOk y ∧ npar y n ∧ .methodLinkNest own ix y.1 RX8 ∈ nestW ∧ .static y.1 ∈ TT
def CalI (own : String) (ix : Nat) (y : MD) (n : Nat) : Prop := MdOk y ∧ npar y n ∧ y.2.2.2 = none ∧ y.1.name = "<init>" ∧ .methodLink own ix y.1 ∈ TT ∧ .instanceMethod y.1 ∈ TT
def CalIN (own : String) (ix : Nat) (y : MD) (n : Nat) : Prop := MdOk y ∧ npar y n ∧ y.2.2.2 = none ∧ y.1.name = "<init>" ∧ .methodLinkNest own ix y.1 RX8 ∈ nestW ∧ .instanceMethod y.1 ∈ TT
theorem goodM {y : MD} (h : MdOk y) : ∀ w ∈ wsM y, w ∈ TT := fun w hw => by
  rcases List.mem_cons.mp hw with rfl | hw
  · exact h.1
  · exact hw
/-- categories of the stack below a call -/
def catL (st : List VV) : Nat := (st.map (fun v => if is2 (some v) then 2 else 1)).sum
theorem catL_eq {X : EX} (st : List VV) : ((st.map (cv X)).map fun v => v.category).sum = catL st := by
  unfold catL
  rw [List.map_map]
  congr 1
  apply List.map_congr_left
  intro v _
  exact cv_cat
section R6
variable {p : Program} {l : Launch} {e : Env} {R : Room} {s : State} {m : MethodId} {args : Array Value} {below : List Frame} {meth : Method} {c : Code} {H : Heap} {locs : List Loc} {cells slots : Nat} {Qs : State → Prop}
theorem ev_call {X : EX} {Q' : Option VV → HP → Prop} {pc : Nat} {lsr : Array Slot} {st0 rest : List Value} {mc ms : Nat} {a : Array Value} (hr : va_Run p l e R s m args below meth c H locs cells slots mc ms (F0 m pc lsr st0) rest (Qm X Q' a) (AA X)) (hS : va_S (AA X) s.heap H locs)
    (kk : ∀ (v : Option VV) (h' : HP) (H1 : Heap) (locs1 : List Loc), Q' v h' → CorH X h' H1 → va_S (AA X) s.heap H1 locs1 → W p l e R s m args below meth c H1 locs1 (cells + mc) (slots + ms) Qs (F0 m (pc + 3) lsr ((v.map (cv X)).toList ++ rest))) : W p l e R s m args below meth c H locs cells slots Qs (F0 m pc lsr st0) := by
  intro T hT X0
  obtain ⟨v, st₀, t, T', L, h0, X', hL, e1, e2, ⟨⟨v', h', hv, hq, hc⟩, hz, hk⟩, st⟩ := hr T hT X0
  cases hv
  rw [h0] at hz hk
  obtain ⟨t2, a1, b1⟩ := kk v' h' T'.heap (locs ++ L) hq (by rw [e1]; exact hc.1)
    ⟨Nat.le_trans hS.1 (by rw [e1]; exact hz), fun q h1 h2 => by rw [e1, hk q (Nat.lt_of_lt_of_le h1 hS.1) h2]; exact hS.2.1 q h1 h2, fun q hq => by
      rcases List.mem_append.mp hq with h | h
      · exact hS.2.2 q h
      · exact hL q h⟩ T' rfl X'
  exact ⟨t2, st t2 a1, b1⟩
end R6
section R7
variable {X : EX} {y : MD} {d mc ms : Nat} {Q : Option VV → HP → Prop} {cells slots pc pc' : Nat} {ls : ZL} {st rest : List VV} {h : HP} {y' : MD} {d' mc' ms' n ix ci : Nat} {as : List VV} {Q' : Option VV → HP → Prop}
theorem rest_cons {X : EX} (v : Option VV) (rest : List VV) : (v.map (cv X)).toList ++ rest.map (cv X) = (v.toList ++ rest).map (cv X) := by
  cases v <;> rfl
theorem cor_call {X : EX} {h : HP} {s : State} {H : Heap} {locs : List Loc} (hK : Kn X s) (hP : Pre X s s.heap) (hC : CorH X h H) (hS : va_S (AA X) s.heap H locs) (As : List Value) : PreS s H (va_Pc As (fun U => Cor X h U)) As :=
  ⟨blind As, fun U hU hW => ⟨rfl, cor_of hK hP hC hS hU hW⟩⟩
theorem room_ok {y' : MD} (hml : y'.2.2.1 ≤ 12) (hdd : d' + 1 ≤ d) : (rmd d' mc' ms').frames + 1 ≤ (rmd d mc ms).frames ∧ 8 + (y'.2.2.1 + 11) + (rmd d' mc' ms').locals ≤ (rmd d mc ms).locals := by
  refine ⟨hdd, ?_⟩
  show 8 + (y'.2.2.1 + 11) + 40 * d' ≤ 40 * d
  omega
theorem e_invv {a : Nat} (hd : At y.2.1 pc (.invokevirtual ix) 3 pc') (cal : CalV y.1.cls ix ci y' n) (hc : Ct X y' d' mc' ms' (vR (some a) :: as) h Q') (hst : st = as.reverse ++ vR (some a) :: rest) (hn : as.length = n) (hT : Is h a (ci + 1)) (hml : y'.2.2.1 ≤ 12) (hdd : d' + 1 ≤ d) (hcc : cells + mc' ≤ mc) (hss : slots + ms' ≤ ms) (hcat : catL rest ≤ 8)
    (k : ∀ v h', Q' v h' → Ev X y d mc ms Q (cells + mc') (slots + ms') pc' ls (v.toList ++ rest) h') : Ev X y d mc ms Q cells slots pc ls st h := by
  obtain ⟨hd, rfl⟩ := hd
  intro p e s m args below meth c H locs lsr C hC hS hl
  obtain ⟨lv, hv, -⟩ := id hl
  obtain ⟨hx, hb, hmx, hret, hown, hts, hlk, hnm, hK, hP, hsz⟩ := id C
  obtain ⟨hok, hnp, ⟨hci, r, hr, hrc⟩, w1, w2, w3⟩ := cal
  have he := wl_get (X := X) hT.1 hT.2.1
  rw [ent_obj hci hT.2.2] at he
  have hgood : GoodIn TT (wsV y.1.cls ix y'.1.cls y'.1 (wsM y')) := tt_goodIn (fun w hw => by
    rcases List.mem_append.mp hw with hw | hw
    · simp only [List.mem_cons, List.not_mem_nil, or_false] at hw
      rcases hw with rfl | rfl | rfl | rfl
      · exact w1
      · exact w2
      · exact w3
      · exact hok.2.2
    · exact goodM hok w hw)
  have hrv := va_recv hK.1 hC.2.2 hr he
  rw [hrc] at hrv
  have hpr : PreV s H y'.1.cls (ad X a) (va_Pc ((vR (some a) :: as).map (cv X)) (fun U => Cor X h U)) (as.map (cv X)) := ⟨blind _, hrv, fun U hU hW => ⟨rfl, cor_of hK hP hC hS hU hW⟩⟩
  have hstk : st.map (cv X) = (as.map (cv X)).reverse ++ .ref (ad X a) :: rest.map (cv X) := by
    rw [hst, List.map_append, List.map_reverse]
    rfl
  have run := va_runV (l := xl X) (e := e) (R := rmd d mc ms) (below := below) (meth := meth) (locs := locs) (cells := cells) (slots := slots) (rest := rest.map (cv X)) (g := F0 m pc lsr (st.map (cv X))) ⟨hx, hb, hmx, hown, hts⟩ hc
    (cwV n hts hgood rfl rfl rfl ⟨rfl, hok.2.1.1, hok.2.1.2, hnp⟩ (room_ok hml hdd)) hpr rfl (by rw [List.length_map]; exact hn) hv.1 hstk (lv_room (by rw [catL_eq]; exact hcat)) (by rw [hb] at *; exact hd) ⟨hcc, hss⟩
  refine ev_call run hS (fun v h' H1 locs1 q hC' hS' => ?_)
  rw [rest_cons]
  exact k v h' q p e s m args below meth c H1 locs1 lsr C hC' hS' hl
theorem e_invs (hd : At y.2.1 pc (.invokestatic ix) 3 pc') (cal : CalS y.1.cls ix y' n) (hc : Ct X y' d' mc' ms' as h Q') (hst : st = as.reverse ++ rest) (hn : as.length = n) (hml : y'.2.2.1 ≤ 12) (hdd : d' + 1 ≤ d) (hcc : cells + mc' ≤ mc) (hss : slots + ms' ≤ ms) (hcat : catL rest ≤ 8)
    (k : ∀ v h', Q' v h' → Ev X y d mc ms Q (cells + mc') (slots + ms') pc' ls (v.toList ++ rest) h') : Ev X y d mc ms Q cells slots pc ls st h := by
  obtain ⟨hd, rfl⟩ := hd
  intro p e s m args below meth c H locs lsr C hC hS hl
  obtain ⟨lv, hv, -⟩ := id hl
  obtain ⟨hx, hb, hmx, hret, hown, hts, hlk, hnm, hK, hP, hsz⟩ := id C
  obtain ⟨hok, hnp, w1, w2⟩ := cal
  have hgood : GoodIn TT (va_wsS y.1.cls ix y'.1 (wsM y')) := tt_goodIn (fun w hw => by
    rcases List.mem_append.mp hw with hw | hw
    · simp only [List.mem_cons, List.not_mem_nil, or_false] at hw
      rcases hw with rfl | rfl | rfl
      · exact w1
      · exact w2
      · exact hok.2.2
    · exact goodM hok w hw)
  have hstk : st.map (cv X) = (as.map (cv X)).reverse ++ rest.map (cv X) := by
    rw [hst, List.map_append, List.map_reverse]
  have run := va_runS (l := xl X) (e := e) (R := rmd d mc ms) (below := below) (meth := meth) (locs := locs) (cells := cells) (slots := slots) (rest := rest.map (cv X)) (g := F0 m pc lsr (st.map (cv X))) ⟨hx, hb, hmx, hown, hts⟩ hc
    (va_cwS n hts hgood rfl rfl rfl ⟨hok.2.1.1, hok.2.1.2, hnp⟩ (room_ok hml hdd)) (cor_call hK hP hC hS _) rfl (by rw [List.length_map]; exact hn) hv.1 hstk (lv_room (by rw [catL_eq]; exact hcat)) hd ⟨hcc, hss⟩
  refine ev_call run hS (fun v h' H1 locs1 q hC' hS' => ?_)
  rw [rest_cons]
  exact k v h' q p e s m args below meth c H1 locs1 lsr C hC' hS' hl
theorem e_invsN (hd : At y.2.1 pc (.invokestatic ix) 3 pc') (cal : CalSN y.1.cls ix y' n) (hc : Ct X y' d' mc' ms' as h Q') (hst : st = as.reverse ++ rest) (hn : as.length = n) (hml : y'.2.2.1 ≤ 12) (hdd : d' + 1 ≤ d) (hcc : cells + mc' ≤ mc) (hss : slots + ms' ≤ ms) (hcat : catL rest ≤ 8)
    (k : ∀ v h', Q' v h' → Ev X y d mc ms Q (cells + mc') (slots + ms') pc' ls (v.toList ++ rest) h') : Ev X y d mc ms Q cells slots pc ls st h := by
  obtain ⟨hd, rfl⟩ := hd
  intro p e s m args below meth c H locs lsr C hC hS hl
  obtain ⟨lv, hv, -⟩ := id hl
  obtain ⟨hx, hb, hmx, hret, hown, hts, hlk, hnm, hK, hP, hsz⟩ := id C
  obtain ⟨hok, hnp, w1, w2⟩ := cal
  have hstk : st.map (cv X) = (as.map (cv X)).reverse ++ rest.map (cv X) := by
    rw [hst, List.map_append, List.map_reverse]
  have run := va_runSN (l := xl X) (e := e) (R := rmd d mc ms) (below := below) (meth := meth) (locs := locs) (cells := cells) (slots := slots) (rest := rest.map (cv X)) (g := F0 m pc lsr (st.map (cv X))) ⟨hx, hb, hmx, hown, hts⟩ hc
    ⟨va_cnB (y := y'.1) n hts (tt_goodIn (goodM hok)) rfl rfl rfl (hK.2.1 _ w1) (hts _ hok.2.2) ⟨hok.2.1.1, hok.2.1.2, hnp⟩ (room_ok hml hdd), hts _ w2, trivial⟩ (cor_call hK hP hC hS _) rfl (by rw [List.length_map]; exact hn) hv.1 hstk (lv_room (by rw [catL_eq]; exact hcat)) hd ⟨hcc, hss⟩
  refine ev_call run hS (fun v h' H1 locs1 q hC' hS' => ?_)
  rw [rest_cons]
  exact k v h' q p e s m args below meth c H1 locs1 lsr C hC' hS' hl
theorem e_invi {a : Nat} (hd : At y.2.1 pc (.invokespecial ix) 3 pc') (cal : CalI y.1.cls ix y' n) (hc : Ct X y' d' mc' ms' (vR (some a) :: as) h Q') (hst : st = as.reverse ++ vR (some a) :: rest) (hn : as.length = n) (hml : y'.2.2.1 ≤ 12) (hdd : d' + 1 ≤ d) (hcc : cells + mc' ≤ mc) (hss : slots + ms' ≤ ms) (hcat : catL rest ≤ 8)
    (k : ∀ v h', Q' v h' → Ev X y d mc ms Q (cells + mc') (slots + ms') pc' ls (v.toList ++ rest) h') : Ev X y d mc ms Q cells slots pc ls st h := by
  obtain ⟨hd, rfl⟩ := hd
  intro p e s m args below meth c H locs lsr C hC hS hl
  obtain ⟨lv, hv, -⟩ := id hl
  obtain ⟨hx, hb, hmx, hret, hown, hts, hlk, hnm, hK, hP, hsz⟩ := id C
  obtain ⟨hok, hnp, hrn, hy1, w1, w2⟩ := cal
  have hstk : st.map (cv X) = (as.map (cv X)).reverse ++ .ref (ad X a) :: rest.map (cv X) := by
    rw [hst, List.map_append, List.map_reverse]
    rfl
  have hcw : wsM y' = Cond.code y'.1 y'.2.1 y'.2.2.1 none :: TT := by unfold wsM cw; rw [hrn]
  have run := va_runI (l := xl X) (e := e) (R := rmd d mc ms) (below := below) (meth := meth) (locs := locs) (cells := cells) (slots := slots) (b := ad X a) (As := as.map (cv X)) (rest := rest.map (cv X)) (g := F0 m pc lsr (st.map (cv X))) ⟨hx, hb, hmx, hown, hts⟩ hc
    (cwI n hts (tt_goodIn (goodM hok)) hcw rfl rfl (hts _ hok.2.2) (hts _ w1) (hts _ w2) hy1 ⟨hok.2.1.1, hok.2.1.2, hnp⟩ (room_ok hml hdd)) (cor_call hK hP hC hS _) rfl (by rw [List.length_map]; exact hn) hv.1 hstk (lv_room (by rw [catL_eq]; exact hcat)) hd ⟨hcc, hss⟩
  refine ev_call run hS (fun v h' H1 locs1 q hC' hS' => ?_)
  rw [rest_cons]
  exact k v h' q p e s m args below meth c H1 locs1 lsr C hC' hS' hl
theorem e_inviN {a : Nat} (hd : At y.2.1 pc (.invokespecial ix) 3 pc') (cal : CalIN y.1.cls ix y' n) (hc : Ct X y' d' mc' ms' (vR (some a) :: as) h Q') (hst : st = as.reverse ++ vR (some a) :: rest) (hn : as.length = n) (hml : y'.2.2.1 ≤ 12) (hdd : d' + 1 ≤ d) (hcc : cells + mc' ≤ mc) (hss : slots + ms' ≤ ms) (hcat : catL rest ≤ 8)
    (k : ∀ v h', Q' v h' → Ev X y d mc ms Q (cells + mc') (slots + ms') pc' ls (v.toList ++ rest) h') : Ev X y d mc ms Q cells slots pc ls st h := by
  obtain ⟨hd, rfl⟩ := hd
  intro p e s m args below meth c H locs lsr C hC hS hl
  obtain ⟨lv, hv, -⟩ := id hl
  obtain ⟨hx, hb, hmx, hret, hown, hts, hlk, hnm, hK, hP, hsz⟩ := id C
  obtain ⟨hok, hnp, hrn, hy1, w1, w2⟩ := cal
  have hstk : st.map (cv X) = (as.map (cv X)).reverse ++ .ref (ad X a) :: rest.map (cv X) := by
    rw [hst, List.map_append, List.map_reverse]
    rfl
  have hcw : wsM y' = Cond.code y'.1 y'.2.1 y'.2.2.1 none :: TT := by unfold wsM cw; rw [hrn]
  have run := va_runIN (l := xl X) (e := e) (R := rmd d mc ms) (below := below) (meth := meth) (locs := locs) (cells := cells) (slots := slots) (b := ad X a) (As := as.map (cv X)) (rest := rest.map (cv X)) (g := F0 m pc lsr (st.map (cv X))) ⟨hx, hb, hmx, hown, hts⟩ hc
    ⟨va_cnB (y := y'.1) n hts (tt_goodIn (goodM hok)) hcw rfl rfl (hK.2.1 _ w1) (hts _ hok.2.2) ⟨hok.2.1.1, hok.2.1.2, hnp⟩ (room_ok hml hdd), hy1, hts _ w2⟩ (cor_call hK hP hC hS _) rfl (by rw [List.length_map]; exact hn) hv.1 hstk (lv_room (by rw [catL_eq]; exact hcat)) hd ⟨hcc, hss⟩
  refine ev_call run hS (fun v h' H1 locs1 q hC' hS' => ?_)
  rw [rest_cons]
  exact k v h' q p e s m args below meth c H1 locs1 lsr C hC' hS' hl
/-- invokespecial java/lang/Object.<init> -/
theorem e_objInit {a : Nat} (hd : At y.2.1 pc (.invokespecial ix) 3 pc') (w1 : .methodLink y.1.cls ix Lib.objectInit ∈ TT) (w2 : .instanceMethod Lib.objectInit ∈ TT) (w3 : .code Lib.objectInit ⟨#[0xb1]⟩ 1 none ∈ TT) (hdd : 1 ≤ d) (hcat : catL st ≤ 8)
    (k : Ev X y d mc ms Q cells slots pc' ls st h) : Ev X y d mc ms Q cells slots pc ls (vR (some a) :: st) h := by
  obtain ⟨hd, rfl⟩ := hd
  intro p e s m args below meth c H locs lsr C hC hS hl
  obtain ⟨lv, hv, -⟩ := id hl
  obtain ⟨hx, hb, hmx, hret, hown, hts, hlk, hnm, hK, hP, hsz⟩ := id C
  refine W.objInit hx hb hown (hts _ w1) (hts _ w2) (hts _ w3) rfl (by rw [hmx]; exact hv.1) rfl hd hdd ?_ (k p e s m args below meth c H locs lsr C hC hS hl)
  rw [catL_eq]
  show 2 * 0 + catL st + 12 ≤ 40 * d
  omega
end R7
end
section
/-! RULES over the heap: fields, arrays, new cells (written by wip/whole/gen6.py) -/
theorem uw_0 : u_ws RX0 TX0 6 = ([118, 120, 122, 124, 126, 128] : List Nat).filterMap (fun i => lw_tbl[i]?) := by decide +kernel
theorem uv_0 : ∀ w ∈ u_ws RX0 TX0 6, w ∈ TT := by
  intro w hw
  have hg : (u_ws RX0 TX0 6).all goodWord = true := by decide +kernel
  have h1 := List.all_eq_true.mp hg w hw
  rw [uw_0] at hw
  obtain ⟨j, -, hj⟩ := List.mem_filterMap.mp hw
  exact tt_of j hj h1
theorem uw_1 : u_ws RX1 TX1 7 = ([331, 333, 335, 337, 339, 341, 343] : List Nat).filterMap (fun i => lw_tbl[i]?) := by decide +kernel
theorem uv_1 : ∀ w ∈ u_ws RX1 TX1 7, w ∈ TT := by
  intro w hw
  have hg : (u_ws RX1 TX1 7).all goodWord = true := by decide +kernel
  have h1 := List.all_eq_true.mp hg w hw
  rw [uw_1] at hw
  obtain ⟨j, -, hj⟩ := List.mem_filterMap.mp hw
  exact tt_of j hj h1
theorem uw_2 : u_ws RX2 TX2 1 = ([140] : List Nat).filterMap (fun i => lw_tbl[i]?) := by decide +kernel
theorem uv_2 : ∀ w ∈ u_ws RX2 TX2 1, w ∈ TT := by
  intro w hw
  have hg : (u_ws RX2 TX2 1).all goodWord = true := by decide +kernel
  have h1 := List.all_eq_true.mp hg w hw
  rw [uw_2] at hw
  obtain ⟨j, -, hj⟩ := List.mem_filterMap.mp hw
  exact tt_of j hj h1
theorem uw_3 : u_ws RX3 TX3 4 = ([188, 190, 192, 194] : List Nat).filterMap (fun i => lw_tbl[i]?) := by decide +kernel
theorem uv_3 : ∀ w ∈ u_ws RX3 TX3 4, w ∈ TT := by
  intro w hw
  have hg : (u_ws RX3 TX3 4).all goodWord = true := by decide +kernel
  have h1 := List.all_eq_true.mp hg w hw
  rw [uw_3] at hw
  obtain ⟨j, -, hj⟩ := List.mem_filterMap.mp hw
  exact tt_of j hj h1
theorem uw_4 : u_ws RX4 TX4 4 = ([722, 724, 726, 728] : List Nat).filterMap (fun i => lw_tbl[i]?) := by decide +kernel
theorem uv_4 : ∀ w ∈ u_ws RX4 TX4 4, w ∈ TT := by
  intro w hw
  have hg : (u_ws RX4 TX4 4).all goodWord = true := by decide +kernel
  have h1 := List.all_eq_true.mp hg w hw
  rw [uw_4] at hw
  obtain ⟨j, -, hj⟩ := List.mem_filterMap.mp hw
  exact tt_of j hj h1
theorem uw_5 : u_ws RX5 TX5 3 = ([211, 213, 215] : List Nat).filterMap (fun i => lw_tbl[i]?) := by decide +kernel
theorem uv_5 : ∀ w ∈ u_ws RX5 TX5 3, w ∈ TT := by
  intro w hw
  have hg : (u_ws RX5 TX5 3).all goodWord = true := by decide +kernel
  have h1 := List.all_eq_true.mp hg w hw
  rw [uw_5] at hw
  obtain ⟨j, -, hj⟩ := List.mem_filterMap.mp hw
  exact tt_of j hj h1
theorem uw_6 : u_ws RX6 TX6 1 = ([179] : List Nat).filterMap (fun i => lw_tbl[i]?) := by decide +kernel
theorem uv_6 : ∀ w ∈ u_ws RX6 TX6 1, w ∈ TT := by
  intro w hw
  have hg : (u_ws RX6 TX6 1).all goodWord = true := by decide +kernel
  have h1 := List.all_eq_true.mp hg w hw
  rw [uw_6] at hw
  obtain ⟨j, -, hj⟩ := List.mem_filterMap.mp hw
  exact tt_of j hj h1
theorem uw_7 : u_ws RX7 TX7 4 = ([160, 162, 164, 166] : List Nat).filterMap (fun i => lw_tbl[i]?) := by decide +kernel
theorem uv_7 : ∀ w ∈ u_ws RX7 TX7 4, w ∈ TT := by
  intro w hw
  have hg : (u_ws RX7 TX7 4).all goodWord = true := by decide +kernel
  have h1 := List.all_eq_true.mp hg w hw
  rw [uw_7] at hw
  obtain ⟨j, -, hj⟩ := List.mem_filterMap.mp hw
  exact tt_of j hj h1
theorem uw_8 : u_ws RX8 TX8 9 = ([232, 234, 236, 238, 240, 242, 244, 246, 248] : List Nat).filterMap (fun i => lw_tbl[i]?) := by decide +kernel
theorem uv_8 : ∀ w ∈ u_ws RX8 TX8 9, w ∈ TT := by
  intro w hw
  have hg : (u_ws RX8 TX8 9).all goodWord = true := by decide +kernel
  have h1 := List.all_eq_true.mp hg w hw
  rw [uw_8] at hw
  obtain ⟨j, -, hj⟩ := List.mem_filterMap.mp hw
  exact tt_of j hj h1
theorem uw_9 : u_ws RX9 TX9 39 = ([883, 885, 887, 889, 891, 893, 895, 897, 899, 901, 903, 905, 907, 909, 911, 913, 915, 917, 919, 921, 923, 925, 927, 929, 931, 933, 935, 937, 939, 941, 943, 945, 947, 949, 951, 953, 955, 957, 959] : List Nat).filterMap (fun i => lw_tbl[i]?) := by decide +kernel
theorem uv_9 : ∀ w ∈ u_ws RX9 TX9 39, w ∈ TT := by
  intro w hw
  have hg : (u_ws RX9 TX9 39).all goodWord = true := by decide +kernel
  have h1 := List.all_eq_true.mp hg w hw
  rw [uw_9] at hw
  obtain ⟨j, -, hj⟩ := List.mem_filterMap.mp hw
  exact tt_of j hj h1
theorem cl_ok : ∀ (ci : Nat) (r : vw_C), vwCl[ci]? = some r → (∀ w ∈ u_ws r.1 r.2.1 r.2.2, w ∈ TT) ∧ (∀ k, k < r.2.2 → parseFieldDescriptor (r.2.1 k).2.2.1 = some (tyF ci k)) ∧ (∀ a, a < r.2.2 → ∀ b, b < r.2.2 → a ≠ b → (r.2.1 a).2.1 ≠ (r.2.1 b).2.1) ∧ r.2.2 = nF ci ∧ ci < 10 := by
  intro ci r h
  match ci, h with
  | 0, h => cases h; exact ⟨uv_0, tyX0_ok, nmX0, rfl, by decide⟩
  | 1, h => cases h; exact ⟨uv_1, tyX1_ok, nmX1, rfl, by decide⟩
  | 2, h => cases h; exact ⟨uv_2, tyX2_ok, nmX2, rfl, by decide⟩
  | 3, h => cases h; exact ⟨uv_3, tyX3_ok, nmX3, rfl, by decide⟩
  | 4, h => cases h; exact ⟨uv_4, tyX4_ok, nmX4, rfl, by decide⟩
  | 5, h => cases h; exact ⟨uv_5, tyX5_ok, nmX5, rfl, by decide⟩
  | 6, h => cases h; exact ⟨uv_6, tyX6_ok, nmX6, rfl, by decide⟩
  | 7, h => cases h; exact ⟨uv_7, tyX7_ok, nmX7, rfl, by decide⟩
  | 8, h => cases h; exact ⟨uv_8, tyX8_ok, nmX8, rfl, by decide⟩
  | 9, h => cases h; exact ⟨uv_9, tyX9_ok, nmX9, rfl, by decide⟩
  | n + 10, h => simp [vwCl] at h
/-- a field: through the constant ix of own's pool, field k of the class ci -/
def Fld (own : String) (ix ci k : Nat) (ty : FieldType) (fin : Bool) : Prop := ∃ r, vwCl[ci]? = some r ∧ k < r.2.2 ∧ .fieldLink own ix (r.2.1 k).1 (r.2.1 k).2.1 (r.2.1 k).2.2.1 ∈ TT ∧ tyF ci k = ty ∧ (r.2.1 k).2.2.2 = fin ∧ (r.2.1 k).1 = r.1
theorem fs_at {X : EX} {h : HP} {a ci k : Nat} (hk : k < nF ci) : ((List.range (nF ci)).map (fun i => if isR ci i then va_rf ((hR h a i).map (ad X)) else .int (hI h a i)))[k]? = some (if isR ci k then va_rf ((hR h a k).map (ad X)) else .int (hI h a k)) := by
  rw [List.getElem?_map, List.getElem?_range hk]; rfl
theorem fs_set {X : EX} {h h' : HP} {a ci k : Nat} {v : Value} (hk : k < nF ci) (hv : (if isR ci k then va_rf ((hR h' a k).map (ad X)) else .int (hI h' a k)) = v) (ho : ∀ j, j ≠ k → hI h' a j = hI h a j ∧ hR h' a j = hR h a j) :
    ((List.range (nF ci)).map (fun i => if isR ci i then va_rf ((hR h a i).map (ad X)) else .int (hI h a i))).set k v = (List.range (nF ci)).map (fun i => if isR ci i then va_rf ((hR h' a i).map (ad X)) else .int (hI h' a i)) := by
  apply List.ext_getElem?
  intro j
  rw [List.getElem?_set]
  by_cases hj : j < nF ci
  · rw [fs_at hj, fs_at hj, List.length_map, List.length_range]
    by_cases hjk : k = j
    · subst hjk
      rw [if_pos rfl, if_pos hk, hv]
    · rw [if_neg hjk, (ho j (fun q => hjk q.symm)).1, (ho j (fun q => hjk q.symm)).2]
  · rw [if_neg (by omega), List.getElem?_eq_none (by simp; omega), List.getElem?_eq_none (by simp; omega)]
theorem corH_set {X : EX} {h h' : HP} {H H1 : Heap} {a : Nat} (hC : CorH X h H) (h1 : 32 ≤ a) (h2 : a < hZ h) (hz : hZ h' = hZ h) (he : va_at (xD X) vwCl (ad X a, ent X h' a) H1) (ho : ∀ k, k ≠ a → ent X h' k = ent X h k) (z : H1.size = H.size) (oq : ∀ q : Nat, q ≠ ad X a → H1[q]? = H[q]?) : CorH X h' H1 := by
  obtain ⟨q1, q2, q3⟩ := hC
  refine ⟨by rw [z, q1, hz], by rw [hz]; exact q2, ?_⟩
  rw [← wl_set h1 h2 hz rfl ho]
  exact q3.set (wl_D X h) (wl_get h1 h2) he oq
theorem corH_push {X : EX} {h h' : HP} {H H1 : Heap} (hC : CorH X h H) (hz : hZ h' = hZ h + 1) (he : va_at (xD X) vwCl (ad X (hZ h), ent X h' (hZ h)) H1) (ho : ∀ k, k < hZ h → ent X h' k = ent X h k) (z : H1.size = H.size + 1) (oq : ∀ q : Nat, q < H.size → H1[q]? = H[q]?) : CorH X h' H1 := by
  obtain ⟨q1, q2, q3⟩ := hC
  refine ⟨by rw [z, q1, hz]; omega, by omega, ?_⟩
  rw [← wl_push q2 hz rfl ho]
  refine (q3.kept (fun k q hq => oq _ ((q3 k q hq).lt))).app (fun k q hq => ?_)
  have hk : k = 0 := by
    have := (List.getElem?_eq_some_iff.mp hq).1
    simpa using this
  subst hk
  cases hq
  exact he
theorem ent_wI {X : EX} {h : HP} {a i k : Nat} {v : Int32} (hk : k ≠ a) : ent X (wI h a i v) k = ent X h k := by
  have e : hI (wI h a i v) k = hI h k := funext fun j => up2_a hk
  unfold ent
  rw [e]
  rfl
theorem ent_wL {X : EX} {h : HP} {a i k : Nat} {v : Int64} (hk : k ≠ a) : ent X (wL h a i v) k = ent X h k := by
  have e : hL (wL h a i v) k = hL h k := funext fun j => up2_a hk
  unfold ent
  rw [e]
  rfl
theorem ent_wR {X : EX} {h : HP} {a i k : Nat} {v : Option Nat} (hk : k ≠ a) : ent X (wR h a i v) k = ent X h k := by
  have e : hR (wR h a i v) k = hR h k := funext fun j => up2_a hk
  unfold ent
  rw [e]
  rfl
theorem ad_A {X : EX} {a : Nat} (h : 32 ≤ a) : AA X (ad X a) := by
  unfold ad AA
  rw [if_neg (by omega)]
  omega
theorem ad_sz {X : EX} {h : HP} {H : Heap} (hC : CorH X h H) : ad X (hZ h) = H.size := by
  unfold ad
  have := hC.2.1
  rw [if_neg (by omega), hC.1]
section R8
variable {X : EX} {y : MD} {d mc ms : Nat} {Q : Option VV → HP → Prop} {cells slots pc pc' : Nat} {ls : ZL} {st : List VV} {h : HP} {ix ci kf a : Nat}
theorem e_getI {ty : FieldType} {fin : Bool} (hd : At y.2.1 pc (.getfield ix) 3 pc') (F : Fld y.1.cls ix ci kf ty fin) (hr : isR ci kf = false) (ok : Is h a (ci + 1)) (k : Ev X y d mc ms Q cells slots pc' ls (vI (hI h a kf) :: st) h) : Ev X y d mc ms Q cells slots pc ls (vR (some a) :: st) h := by
  obtain ⟨hd, rfl⟩ := hd
  intro p e s m args below meth c H locs lsr C hC hS hl
  have kk := k p e s m args below meth c H locs lsr C hC hS hl
  obtain ⟨hx, hb, hmx, hret, hown, hts, hlk, hnm, hK, hP, hsz⟩ := C
  obtain ⟨r, q1, q2, q3, q4, q5, q6⟩ := F
  obtain ⟨c1, c2, c3, c4, c5⟩ := cl_ok ci r q1
  have he := wl_get (X := X) ok.1 ok.2.1
  rw [ent_obj c5 ok.2.2] at he
  refine va_get (C := r.1) (T := r.2.1) (N := r.2.2) hx hb hts c1 hown hK.1 hC.2.2 _ he q1 kf q2 (hts _ q3) (fun _ z => z) (v := .int (hI h a kf)) ?_ hd kk
  rw [fs_at (by rw [← c4]; exact q2), hr]
  rfl
theorem e_getR {ty : FieldType} {fin : Bool} (hd : At y.2.1 pc (.getfield ix) 3 pc') (F : Fld y.1.cls ix ci kf ty fin) (hr : isR ci kf = true) (ok : Is h a (ci + 1)) (k : Ev X y d mc ms Q cells slots pc' ls (vR (hR h a kf) :: st) h) : Ev X y d mc ms Q cells slots pc ls (vR (some a) :: st) h := by
  obtain ⟨hd, rfl⟩ := hd
  intro p e s m args below meth c H locs lsr C hC hS hl
  have kk := k p e s m args below meth c H locs lsr C hC hS hl
  obtain ⟨hx, hb, hmx, hret, hown, hts, hlk, hnm, hK, hP, hsz⟩ := C
  obtain ⟨r, q1, q2, q3, q4, q5, q6⟩ := F
  obtain ⟨c1, c2, c3, c4, c5⟩ := cl_ok ci r q1
  have he := wl_get (X := X) ok.1 ok.2.1
  rw [ent_obj c5 ok.2.2] at he
  refine va_get (C := r.1) (T := r.2.1) (N := r.2.2) hx hb hts c1 hown hK.1 hC.2.2 _ he q1 kf q2 (hts _ q3) (fun _ z => z) (v := va_rf ((hR h a kf).map (ad X))) ?_ hd kk
  rw [fs_at (by rw [← c4]; exact q2), hr]
  rfl
/-- a field's store, of any kind -/
theorem put_core {v : VV} {h' : HP} {ty : FieldType} {fin : Bool} (hd : decode y.2.1 pc = .ok (.putfield ix, 3)) (F : Fld y.1.cls ix ci kf ty fin) (ok : Is h a (ci + 1)) (hfin : fin = false ∨ (y.1.name = "<init>" ∧ ∀ r, vwCl[ci]? = some r → r.1 = y.1.cls))
    (hn : narrow ty (cv X v) = cv X v) (hf : fits ty (cv X v) = true) (hz : hZ h' = hZ h) (hv : (if isR ci kf then va_rf ((hR h' a kf).map (ad X)) else .int (hI h' a kf)) = cv X v) (ho : ∀ j, j ≠ kf → hI h' a j = hI h a j ∧ hR h' a j = hR h a j) (ht : hT h' a = hT h a) (he' : ∀ q, q ≠ a → ent X h' q = ent X h q)
    (k : Ev X y d mc ms Q cells slots (pc + 3) ls st h') : Ev X y d mc ms Q cells slots pc ls (v :: vR (some a) :: st) h := by
  intro p e s m args below meth c H locs lsr C hC hS hl
  have kk := fun H1 locs1 hC1 hS1 => k p e s m args below meth c H1 locs1 lsr C hC1 hS1 hl
  obtain ⟨hx, hb, hmx, hret, hown, hts, hlk, hnm, hK, hP, hsz⟩ := C
  obtain ⟨r, q1, q2, q3, q4, q5, q6⟩ := F
  obtain ⟨c1, c2, c3, c4, c5⟩ := cl_ok ci r q1
  have he := wl_get (X := X) ok.1 ok.2.1
  rw [ent_obj c5 ok.2.2] at he
  have hap := va_apart (own := y.1.cls) hts c1 (tyF ci) c2 c3 hK.1 q1
  obtain ⟨r', h1, cell, g1, g2, g3, g4⟩ := hC.2.2 _ _ he
  have hrr : r' = r := Option.some.inj (h1.symm.trans q1)
  subst hrr
  obtain ⟨hSl, hfc, kC, hkC, hkind⟩ := hK.1.1 ci _ q1
  obtain ⟨cf, kf0, fi, f, hi, hsl⟩ := hSl kf q2
  have hlay := hts _ (c1 _ (u_in_lay q2))
  have hst := (u_facts hfc hkC (u_lays hts c1 q2) hi).1
  have hd0 : parseFieldDescriptor (r'.2.1 kf).2.2.1 = some ty := by rw [c2 kf q2, q4]
  have hlen : kf < ((List.range (nF ci)).map (fun i => if isR ci i then va_rf ((hR h a i).map (ad X)) else .int (hI h a i))).length := by
    rw [List.length_map, List.length_range, ← c4]; exact q2
  have fin2 : ∀ H1 : Heap, H1[ad X a]? = some (cell.setSlot f.slot (cv X v)) → H1.size = H.size → (∀ q, q ≠ ad X a → H1[q]? = H[q]?) →
      W p (xl X) e (rmd d mc ms) s m args below meth c H1 (locs ++ [⟨ad X a, f.slot⟩]) cells slots (MQ below (Qm X Q) args s mc ms (AA X)) (F0 m (pc + 3) lsr (st.map (cv X))) := by
    intro H1 e1 e2 e3
    rw [hsl] at e1
    refine kk H1 _ (corH_set hC ok.1 ok.2.1 hz ?_ he' e2 e3) (hS.put e2 e3 (ad_A ok.1))
    rw [ent_obj c5 (ht.trans ok.2.2)]
    refine ⟨r', q1, ?_⟩
    have hset := fs_set (X := X) (h := h) (h' := h') (a := a) (ci := ci) (k := kf) (v := cv X v) (by rw [← c4]; exact q2) hv ho
    show t_OB (ad X a) _ _ _ H1 (vp_V ((List.range (nF ci)).map _))
    rw [← hset]
    exact t_OB.to (V := updV (vp_V _) kf (cv X v)) ⟨_, e1, g2, g3, t_set g4 hap q2 (cv X v)⟩ (fun j _ => vp_updV_set hlen (cv X v) j)
  have hslot : f.slot < cell.slots.size := by rw [hsl]; exact k2_hasslot (g4 kf q2)
  unfold u_lay at hlay
  rcases hfin with hfin | ⟨hin, hown2⟩
  · rw [if_neg (by rw [q5, hfin]; decide)] at hlay
    exact W.putK hx hb (f := f) ⟨hown, hts _ q3, ⟨_, _, _, hi⟩, hst⟩ (by rw [g2]; exact u_store hfc hkC hkind hlay hi hd0 hn hf) g1 g3 hslot rfl rfl hd fin2
  · cases hfb : fin with
    | false =>
      rw [if_neg (by rw [q5, hfb]; decide)] at hlay
      exact W.putK hx hb (f := f) ⟨hown, hts _ q3, ⟨_, _, _, hi⟩, hst⟩ (by rw [g2]; exact u_store hfc hkC hkind hlay hi hd0 hn hf) g1 g3 hslot rfl rfl hd fin2
    | true =>
      rw [if_pos (by rw [q5, hfb])] at hlay
      have hcf : m.cls = cf := by
        obtain ⟨_, _, c', _, _, _, -, -, hf', -, -, -, hown3, -⟩ := Cond.laysFinal_spec hlay
        have e1 : c' = cf := by have := hi.symm.trans hf'; simp at this; exact this.1.symm
        rw [q6, hown2 _ q1] at hown3
        rw [← e1]; exact Option.some.inj (hown.symm.trans hown3)
      exact W.putFinK hx hb hown (hts _ q3) hi hst hcf (hnm.trans hin) (by rw [g2]; exact u_fits hfc hkC hkind (Or.inr hlay) hi hd0 hn hf) g1 g3 hslot rfl rfl hd fin2
theorem e_putI {x : Int32} {fin : Bool} (hd : At y.2.1 pc (.putfield ix) 3 pc') (F : Fld y.1.cls ix ci kf .int fin) (hr : isR ci kf = false) (ok : Is h a (ci + 1)) (hfin : fin = false ∨ (y.1.name = "<init>" ∧ ∀ r, vwCl[ci]? = some r → r.1 = y.1.cls)) (k : Ev X y d mc ms Q cells slots pc' ls st (wI h a kf x)) : Ev X y d mc ms Q cells slots pc ls (vI x :: vR (some a) :: st) h := by
  obtain ⟨hd, rfl⟩ := hd
  refine put_core (v := vI x) (h' := wI h a kf x) hd F ok hfin rfl rfl rfl ?_ (fun j hj => ⟨up2_i hj, rfl⟩) rfl (fun q hq => ent_wI hq) k
  rw [hr]
  show Value.int (up2 _ _ _ _ _ _) = _
  rw [up2_s]
  rfl
theorem e_putZ {x : Int32} {fin : Bool} (hd : At y.2.1 pc (.putfield ix) 3 pc') (F : Fld y.1.cls ix ci kf .boolean fin) (hr : isR ci kf = false) (ok : Is h a (ci + 1)) (hfin : fin = false ∨ (y.1.name = "<init>" ∧ ∀ r, vwCl[ci]? = some r → r.1 = y.1.cls)) (hx : x = 0 ∨ x = 1) (k : Ev X y d mc ms Q cells slots pc' ls st (wI h a kf x)) : Ev X y d mc ms Q cells slots pc ls (vI x :: vR (some a) :: st) h := by
  obtain ⟨hd, rfl⟩ := hd
  refine put_core (v := vI x) (h' := wI h a kf x) hd F ok hfin (by rcases hx with rfl | rfl <;> rfl) (by rcases hx with rfl | rfl <;> rfl) rfl ?_ (fun j hj => ⟨up2_i hj, rfl⟩) rfl (fun q hq => ent_wI hq) k
  rw [hr]
  show Value.int (up2 _ _ _ _ _ _) = _
  rw [up2_s]
  rfl
theorem e_putR {r0 : Option Nat} {ty : FieldType} {fin : Bool} (hd : At y.2.1 pc (.putfield ix) 3 pc') (F : Fld y.1.cls ix ci kf ty fin) (hr : isR ci kf = true) (ok : Is h a (ci + 1)) (hfin : fin = false ∨ (y.1.name = "<init>" ∧ ∀ r, vwCl[ci]? = some r → r.1 = y.1.cls)) (k : Ev X y d mc ms Q cells slots pc' ls st (wR h a kf r0)) : Ev X y d mc ms Q cells slots pc ls (vR r0 :: vR (some a) :: st) h := by
  obtain ⟨hd, rfl⟩ := hd
  have hty : (∃ n, ty = .object n) ∨ ∃ t, ty = .array t := by
    obtain ⟨r, q1, q2, q3, q4, q5, q6⟩ := F
    unfold isR at hr
    rw [q4] at hr
    cases ty <;> first | exact Or.inl ⟨_, rfl⟩ | exact Or.inr ⟨_, rfl⟩ | cases hr
  refine put_core (v := vR r0) (h' := wR h a kf r0) hd F ok hfin ?_ ?_ rfl ?_ (fun j hj => ⟨rfl, up2_i hj⟩) rfl (fun q hq => ent_wR hq) k
  · cases r0 <;> rcases hty with ⟨n, rfl⟩ | ⟨t, rfl⟩ <;> rfl
  · cases r0 <;> rcases hty with ⟨n, rfl⟩ | ⟨t, rfl⟩ <;> rfl
  · rw [hr]
    show va_rf (Option.map _ (up2 _ _ _ _ _ _)) = _
    rw [up2_s]
    rfl
end R8
end
section
/-! RULES: arrays, new cells, statics, the pool's constants, JDK members (written by wip/whole/gen7.py) -/
section R9
variable {X : EX} {y : MD} {d mc ms : Nat} {Q : Option VV → HP → Prop} {cells slots pc pc' : Nat} {ls : ZL} {st : List VV} {h : HP} {ix a : Nat}
theorem e_iaload {i : Int32} (hd : At y.2.1 pc (.iaload) 1 pc') (ok : Is h a 13) (hin : vp_in i (hN h a)) (k : Ev X y d mc ms Q cells slots pc' ls (vI (hI h a i.toNatClampNeg) :: st) h) : Ev X y d mc ms Q cells slots pc ls (vI i :: vR (some a) :: st) h := by
  obtain ⟨hd, rfl⟩ := hd
  intro p e s m args below meth c H locs lsr C hC hS hl
  have kk := k p e s m args below meth c H locs lsr C hC hS hl
  obtain ⟨hx, hb, hmx, hret, hown, hts, hlk, hnm, hK, hP, hsz⟩ := C
  have he := wl_get (X := X) ok.1 ok.2.1
  rw [ent_int (by decide) ok.2.2] at he
  exact va_iald hx hb hK.1 hC.2.2 _ 2 he rfl hin hd kk
theorem e_caload {i : Int32} (hd : At y.2.1 pc (.caload) 1 pc') (ok : Is h a 12) (hin : vp_in i (hN h a)) (k : Ev X y d mc ms Q cells slots pc' ls (vI (hI h a i.toNatClampNeg) :: st) h) : Ev X y d mc ms Q cells slots pc ls (vI i :: vR (some a) :: st) h := by
  obtain ⟨hd, rfl⟩ := hd
  intro p e s m args below meth c H locs lsr C hC hS hl
  have kk := k p e s m args below meth c H locs lsr C hC hS hl
  obtain ⟨hx, hb, hmx, hret, hown, hts, hlk, hnm, hK, hP, hsz⟩ := C
  have he := wl_get (X := X) ok.1 ok.2.1
  rw [ent_int (by decide) ok.2.2] at he
  exact va_cald hx hb hK.1 hC.2.2 _ 1 he rfl hin hd kk
theorem e_baload {i : Int32} (hd : At y.2.1 pc (.baload) 1 pc') (ok : Is h a 11) (hin : vp_in i (hN h a)) (k : Ev X y d mc ms Q cells slots pc' ls (vI (hI h a i.toNatClampNeg) :: st) h) : Ev X y d mc ms Q cells slots pc ls (vI i :: vR (some a) :: st) h := by
  obtain ⟨hd, rfl⟩ := hd
  intro p e s m args below meth c H locs lsr C hC hS hl
  have kk := k p e s m args below meth c H locs lsr C hC hS hl
  obtain ⟨hx, hb, hmx, hret, hown, hts, hlk, hnm, hK, hP, hsz⟩ := C
  have he := wl_get (X := X) ok.1 ok.2.1
  rw [ent_int (by decide) ok.2.2] at he
  exact va_bald hx hb hK.1 hC.2.2 _ 0 he rfl hin hd kk
theorem e_zaload {i : Int32} (hd : At y.2.1 pc (.baload) 1 pc') (ok : Is h a 15) (hin : vp_in i (hN h a)) (k : Ev X y d mc ms Q cells slots pc' ls (vI (hI h a i.toNatClampNeg) :: st) h) : Ev X y d mc ms Q cells slots pc ls (vI i :: vR (some a) :: st) h := by
  obtain ⟨hd, rfl⟩ := hd
  intro p e s m args below meth c H locs lsr C hC hS hl
  have kk := k p e s m args below meth c H locs lsr C hC hS hl
  obtain ⟨hx, hb, hmx, hret, hown, hts, hlk, hnm, hK, hP, hsz⟩ := C
  have he := wl_get (X := X) ok.1 ok.2.1
  rw [ent_int (by decide) ok.2.2] at he
  exact va_zald hx hb hK.1 hC.2.2 _ 4 he rfl hin hd kk
theorem e_laload {i : Int32} (hd : At y.2.1 pc (.laload) 1 pc') (ok : Is h a 14) (hin : vp_in i (hN h a)) (k : Ev X y d mc ms Q cells slots pc' ls (vL (hL h a i.toNatClampNeg) :: st) h) : Ev X y d mc ms Q cells slots pc ls (vI i :: vR (some a) :: st) h := by
  obtain ⟨hd, rfl⟩ := hd
  intro p e s m args below meth c H locs lsr C hC hS hl
  have kk := k p e s m args below meth c H locs lsr C hC hS hl
  obtain ⟨hx, hb, hmx, hret, hown, hts, hlk, hnm, hK, hP, hsz⟩ := C
  have he := wl_get (X := X) ok.1 ok.2.1
  rw [ent_long ok.2.2] at he
  exact va_lald hx hb hK.1 hC.2.2 _ 3 he rfl hin hd kk
/-- the kinds of arrays of references: their class -/
def rfC : Nat → Nat × String
  | 16 => (0, RX0) | 17 => (1, RX1) | 18 => (5, RX5) | _ => (6, RX6)
theorem rf_ty {X : EX} {t : Nat} (h1 : 16 ≤ t) (h2 : t ≤ 19) : (tys X)[t - 11]? = some (xA X t, .object (rfC t).2) := by
  have : t = 16 ∨ t = 17 ∨ t = 18 ∨ t = 19 := by omega
  rcases this with rfl | rfl | rfl | rfl <;> rfl
theorem rf_cl {t : Nat} (h1 : 16 ≤ t) (h2 : t ≤ 19) : ∃ r, vwCl[(rfC t).1]? = some r ∧ r.1 = (rfC t).2 ∧ (rfC t).1 < 10 := by
  have : t = 16 ∨ t = 17 ∨ t = 18 ∨ t = 19 := by omega
  rcases this with rfl | rfl | rfl | rfl <;> exact ⟨_, rfl, rfl, by decide⟩
theorem e_aaload {i : Int32} {t : Nat} (hd : At y.2.1 pc (.aaload) 1 pc') (ok : Is h a t) (h1 : 16 ≤ t) (h2 : t ≤ 19) (hin : vp_in i (hN h a)) (k : Ev X y d mc ms Q cells slots pc' ls (vR (hR h a i.toNatClampNeg) :: st) h) : Ev X y d mc ms Q cells slots pc ls (vI i :: vR (some a) :: st) h := by
  obtain ⟨hd, rfl⟩ := hd
  intro p e s m args below meth c H locs lsr C hC hS hl
  have kk := k p e s m args below meth c H locs lsr C hC hS hl
  obtain ⟨hx, hb, hmx, hret, hown, hts, hlk, hnm, hK, hP, hsz⟩ := C
  have he := wl_get (X := X) ok.1 ok.2.1
  rw [ent_ref h1 ok.2.2] at he
  exact va_aldq hx hb hK.1 hC.2.2 _ (t - 11) he (rf_ty h1 h2) hin hd kk
theorem cell_size {cA : ClassId} {i : Int32} {n : Nat} {f : Nat → Value} (hin : vp_in i n) : ¬ (i < 0 ∨ (arrV cA n f).slots.size ≤ i.toNatClampNeg) := by
  rw [arrV_size]; exact hin
theorem e_iastore {i x : Int32} (hd : At y.2.1 pc (.iastore) 1 pc') (ok : Is h a 13) (hin : vp_in i (hN h a)) (k : Ev X y d mc ms Q cells slots pc' ls st (wI h a i.toNatClampNeg x)) : Ev X y d mc ms Q cells slots pc ls (vI x :: vI i :: vR (some a) :: st) h := by
  obtain ⟨hd, rfl⟩ := hd
  intro p e s m args below meth c H locs lsr C hC hS hl
  have kk := fun H1 locs1 hC1 hS1 => k p e s m args below meth c H1 locs1 lsr C hC1 hS1 hl
  obtain ⟨hx, hb, hmx, hret, hown, hts, hlk, hnm, hK, hP, hsz⟩ := C
  have he := wl_get (X := X) ok.1 ok.2.1
  rw [ent_int (by decide) ok.2.2] at he
  refine W.iast hx hb (hC.2.2 _ _ he) ((hK.1.2 2 _ rfl).1 (hN h a) (fun j => .int (hI h a j))) (fun q => by cases q) (cell_size hin) rfl rfl hd fun H1 e1 z oq => ?_
  refine kk H1 _ (corH_set hC ok.1 ok.2.1 rfl ?_ (fun q hq => ent_wI hq) z oq) (hS.put z oq (ad_A ok.1))
  have ok' : hT (wI h a i.toNatClampNeg x) a = 13 := ok.2.2
  rw [ent_int (by decide) ok']
  show H1[ad X a]? = some (vp_cell _ _)
  rw [e1, vp_cell_i, vp_cell_i, arrV_store]
  congr 2
  funext q
  by_cases hq : q = i.toNatClampNeg
  · subst hq
    simp [updV, up2, hI, wI]
    try rfl
  · simp [updV, hI, wI, up2, hq]
theorem e_castore {i x : Int32} (hd : At y.2.1 pc (.castore) 1 pc') (ok : Is h a 12) (hin : vp_in i (hN h a)) (k : Ev X y d mc ms Q cells slots pc' ls st (wI h a i.toNatClampNeg (vp_nar .char x))) : Ev X y d mc ms Q cells slots pc ls (vI x :: vI i :: vR (some a) :: st) h := by
  obtain ⟨hd, rfl⟩ := hd
  intro p e s m args below meth c H locs lsr C hC hS hl
  have kk := fun H1 locs1 hC1 hS1 => k p e s m args below meth c H1 locs1 lsr C hC1 hS1 hl
  obtain ⟨hx, hb, hmx, hret, hown, hts, hlk, hnm, hK, hP, hsz⟩ := C
  have he := wl_get (X := X) ok.1 ok.2.1
  rw [ent_int (by decide) ok.2.2] at he
  refine W.cast hx hb (hC.2.2 _ _ he) ((hK.1.2 1 _ rfl).1 (hN h a) (fun j => .int (hI h a j))) (fun q => by cases q) (cell_size hin) rfl rfl hd fun H1 e1 z oq => ?_
  refine kk H1 _ (corH_set hC ok.1 ok.2.1 rfl ?_ (fun q hq => ent_wI hq) z oq) (hS.put z oq (ad_A ok.1))
  have ok' : hT (wI h a i.toNatClampNeg (vp_nar .char x)) a = 12 := ok.2.2
  rw [ent_int (by decide) ok']
  show H1[ad X a]? = some (vp_cell _ _)
  rw [e1, vp_cell_i, vp_cell_i, arrV_store]
  congr 2
  funext q
  by_cases hq : q = i.toNatClampNeg
  · subst hq
    simp [updV, up2, hI, wI, vp_nar, narrow]
    try rfl
  · simp [updV, hI, wI, up2, hq]
theorem e_bastore {i x : Int32} (hd : At y.2.1 pc (.bastore) 1 pc') (ok : Is h a 11) (hin : vp_in i (hN h a)) (k : Ev X y d mc ms Q cells slots pc' ls st (wI h a i.toNatClampNeg (vp_nar .byte x))) : Ev X y d mc ms Q cells slots pc ls (vI x :: vI i :: vR (some a) :: st) h := by
  obtain ⟨hd, rfl⟩ := hd
  intro p e s m args below meth c H locs lsr C hC hS hl
  have kk := fun H1 locs1 hC1 hS1 => k p e s m args below meth c H1 locs1 lsr C hC1 hS1 hl
  obtain ⟨hx, hb, hmx, hret, hown, hts, hlk, hnm, hK, hP, hsz⟩ := C
  have he := wl_get (X := X) ok.1 ok.2.1
  rw [ent_int (by decide) ok.2.2] at he
  refine W.bast hx hb (hC.2.2 _ _ he) ((hK.1.2 0 _ rfl).1 (hN h a) (fun j => .int (hI h a j))) (fun q => by cases q) (cell_size hin) rfl rfl hd fun H1 e1 z oq => ?_
  refine kk H1 _ (corH_set hC ok.1 ok.2.1 rfl ?_ (fun q hq => ent_wI hq) z oq) (hS.put z oq (ad_A ok.1))
  have ok' : hT (wI h a i.toNatClampNeg (vp_nar .byte x)) a = 11 := ok.2.2
  rw [ent_int (by decide) ok']
  show H1[ad X a]? = some (vp_cell _ _)
  rw [e1, vp_cell_i, vp_cell_i, arrV_store]
  congr 2
  funext q
  by_cases hq : q = i.toNatClampNeg
  · subst hq
    simp [updV, up2, hI, wI, vp_nar, narrow]
    try rfl
  · simp [updV, hI, wI, up2, hq]
theorem e_zastore {i x : Int32} (hd : At y.2.1 pc (.bastore) 1 pc') (ok : Is h a 15) (hin : vp_in i (hN h a)) (k : Ev X y d mc ms Q cells slots pc' ls st (wI h a i.toNatClampNeg (vp_nar .boolean x))) : Ev X y d mc ms Q cells slots pc ls (vI x :: vI i :: vR (some a) :: st) h := by
  obtain ⟨hd, rfl⟩ := hd
  intro p e s m args below meth c H locs lsr C hC hS hl
  have kk := fun H1 locs1 hC1 hS1 => k p e s m args below meth c H1 locs1 lsr C hC1 hS1 hl
  obtain ⟨hx, hb, hmx, hret, hown, hts, hlk, hnm, hK, hP, hsz⟩ := C
  have he := wl_get (X := X) ok.1 ok.2.1
  rw [ent_int (by decide) ok.2.2] at he
  refine W.zast hx hb (hC.2.2 _ _ he) ((hK.1.2 4 _ rfl).1 (hN h a) (fun j => .int (hI h a j))) (fun q => by cases q) (cell_size hin) rfl rfl hd fun H1 e1 z oq => ?_
  refine kk H1 _ (corH_set hC ok.1 ok.2.1 rfl ?_ (fun q hq => ent_wI hq) z oq) (hS.put z oq (ad_A ok.1))
  have ok' : hT (wI h a i.toNatClampNeg (vp_nar .boolean x)) a = 15 := ok.2.2
  rw [ent_int (by decide) ok']
  show H1[ad X a]? = some (vp_cell _ _)
  rw [e1, vp_cell_i, vp_cell_i, arrV_store]
  congr 2
  funext q
  by_cases hq : q = i.toNatClampNeg
  · subst hq
    simp [updV, up2, hI, wI, vp_nar, narrow]
    try rfl
  · simp [updV, hI, wI, up2, hq]
theorem e_lastore {i : Int32} {x : Int64} (hd : At y.2.1 pc (.lastore) 1 pc') (ok : Is h a 14) (hin : vp_in i (hN h a)) (k : Ev X y d mc ms Q cells slots pc' ls st (wL h a i.toNatClampNeg x)) : Ev X y d mc ms Q cells slots pc ls (vL x :: vI i :: vR (some a) :: st) h := by
  obtain ⟨hd, rfl⟩ := hd
  intro p e s m args below meth c H locs lsr C hC hS hl
  have kk := fun H1 locs1 hC1 hS1 => k p e s m args below meth c H1 locs1 lsr C hC1 hS1 hl
  obtain ⟨hx, hb, hmx, hret, hown, hts, hlk, hnm, hK, hP, hsz⟩ := C
  have he := wl_get (X := X) ok.1 ok.2.1
  rw [ent_long ok.2.2] at he
  refine W.last hx hb (hC.2.2 _ _ he) ((hK.1.2 3 _ rfl).1 (hN h a) (fun j => .long (hL h a j))) (fun q => by cases q) (cell_size hin) rfl rfl hd fun H1 e1 z oq => ?_
  refine kk H1 _ (corH_set hC ok.1 ok.2.1 rfl ?_ (fun q hq => ent_wL hq) z oq) (hS.put z oq (ad_A ok.1))
  have ok' : hT (wL h a i.toNatClampNeg x) a = 14 := ok.2.2
  rw [ent_long ok']
  show H1[ad X a]? = some (vp_cell _ _)
  rw [e1, vp_cell_l, vp_cell_l, arrV_store]
  congr 2
  funext q
  by_cases hq : q = i.toNatClampNeg
  · subst hq
    simp [updV, up2, hL, wL]
    try rfl
  · simp [updV, hL, wL, up2, hq]
theorem e_aastoreN {i : Int32} {t : Nat} (hd : At y.2.1 pc (.aastore) 1 pc') (ok : Is h a t) (h1 : 16 ≤ t) (h2 : t ≤ 19) (hin : vp_in i (hN h a)) (k : Ev X y d mc ms Q cells slots pc' ls st (wR h a i.toNatClampNeg none)) : Ev X y d mc ms Q cells slots pc ls (vR none :: vI i :: vR (some a) :: st) h := by
  obtain ⟨hd, rfl⟩ := hd
  intro p e s m args below meth c H locs lsr C hC hS hl
  have kk := fun H1 locs1 hC1 hS1 => k p e s m args below meth c H1 locs1 lsr C hC1 hS1 hl
  obtain ⟨hx, hb, hmx, hret, hown, hts, hlk, hnm, hK, hP, hsz⟩ := C
  have he := wl_get (X := X) ok.1 ok.2.1
  rw [ent_ref h1 ok.2.2] at he
  refine va_WaastN (C := (rfC t).2) hx hb (hC.2.2 _ _ he) ((hK.1.2 (t - 11) _ (rf_ty h1 h2)).1 (hN h a) (fun j => va_rf ((hR h a j).map (ad X)))) (fun h => by cases h) (cell_size hin) rfl rfl hd fun H1 e1 z oq => ?_
  refine kk H1 _ (corH_set hC ok.1 ok.2.1 rfl ?_ (fun q hq => ent_wR hq) z oq) (hS.put z oq (ad_A ok.1))
  have ok' : hT (wR h a i.toNatClampNeg none) a = t := ok.2.2
  rw [ent_ref h1 ok']
  show H1[ad X a]? = some (vp_cell _ _)
  rw [e1, vp_cell_q, vp_cell_q, arrV_store]
  congr 2
  funext q
  by_cases hq : q = i.toNatClampNeg
  · subst hq
    simp [updV, up2, hR, wR, va_rf]
  · simp [updV, hR, wR, up2, hq]
theorem e_aastore {i : Int32} {t b : Nat} (hd : At y.2.1 pc (.aastore) 1 pc') (ok : Is h a t) (h1 : 16 ≤ t) (h2 : t ≤ 19) (ok2 : Is h b ((rfC t).1 + 1)) (hin : vp_in i (hN h a)) (k : Ev X y d mc ms Q cells slots pc' ls st (wR h a i.toNatClampNeg (some b))) : Ev X y d mc ms Q cells slots pc ls (vR (some b) :: vI i :: vR (some a) :: st) h := by
  obtain ⟨hd, rfl⟩ := hd
  intro p e s m args below meth c H locs lsr C hC hS hl
  have kk := fun H1 locs1 hC1 hS1 => k p e s m args below meth c H1 locs1 lsr C hC1 hS1 hl
  obtain ⟨hx, hb, hmx, hret, hown, hts, hlk, hnm, hK, hP, hsz⟩ := C
  have he := wl_get (X := X) ok.1 ok.2.1
  rw [ent_ref h1 ok.2.2] at he
  obtain ⟨r, hr, hr2, hr3⟩ := rf_cl h1 h2
  have hv := wl_get (X := X) ok2.1 ok2.2.1
  rw [ent_obj hr3 ok2.2.2] at hv
  obtain ⟨r', hr', cellV, g1, g2, g3, -⟩ := hC.2.2 _ _ hv
  have hcls := (hK.1.1 _ r hr).2
  rw [hr2] at hcls
  obtain ⟨kA, comp, k1, k2, k3, -⟩ := (hK.1.2 (t - 11) _ (rf_ty h1 h2)).2
  have hcomp : comp = (xD X).1 (rfC t).1 := Option.some.inj (k3.symm.trans hcls.1)
  subst hcomp
  obtain ⟨kC, hkC, -⟩ := hcls.2
  have hlt : i.toNatClampNeg < hN h a := Nat.not_le.mp fun q => hin (Or.inr q)
  have h0 : ¬ i < 0 := fun q => hin (Or.inl q)
  refine W.aast hx hb (hC.2.2 _ _ he) (fun q h => by cases h) (fun h => by cases h) k1 k2 rfl hkC ⟨h0, by show _ < (arrV _ _ _).slots.size; rw [arrV_size]; exact hlt⟩ g1 (fun q h => by rw [g3] at h; cases h) (by rw [g2]; exact hkC) (by rw [g2]; exact va_assign hcls) rfl rfl hd fun H1 e1 z oq => ?_
  refine kk H1 _ (corH_set hC ok.1 ok.2.1 rfl ?_ (fun q hq => ent_wR hq) z oq) (hS.put z oq (ad_A ok.1))
  have ok' : hT (wR h a i.toNatClampNeg (some b)) a = t := ok.2.2
  rw [ent_ref h1 ok']
  show H1[ad X a]? = some (vp_cell _ _)
  rw [e1, vp_cell_q, vp_cell_q, arrV_store]
  congr 2
  funext q
  by_cases hq : q = i.toNatClampNeg
  · subst hq
    simp [updV, up2, hR, wR, va_rf]
  · simp [updV, hR, wR, up2, hq]
theorem e_alen {t : Nat} (hd : At y.2.1 pc (.arraylength) 1 pc') (ok : Is h a t) (h1 : 11 ≤ t) (h2 : t ≤ 19) (k : Ev X y d mc ms Q cells slots pc' ls (vI (Int32.ofNat (hN h a)) :: st) h) : Ev X y d mc ms Q cells slots pc ls (vR (some a) :: st) h := by
  obtain ⟨hd, rfl⟩ := hd
  intro p e s m args below meth c H locs lsr C hC hS hl
  have kk := k p e s m args below meth c H locs lsr C hC hS hl
  obtain ⟨hx, hb, hmx, hret, hown, hts, hlk, hnm, hK, hP, hsz⟩ := C
  have he := wl_get (X := X) ok.1 ok.2.1
  by_cases h14 : t = 14
  · subst h14
    rw [ent_long ok.2.2] at he
    exact va_alen hx hb hK.1 hC.2.2 _ 3 he rfl rfl hd kk
  · by_cases h16 : 16 ≤ t
    · rw [ent_ref h16 ok.2.2] at he
      exact va_alen hx hb hK.1 hC.2.2 _ (t - 11) he (rf_ty h16 h2) rfl hd kk
    · have : t = 11 ∨ t = 12 ∨ t = 13 ∨ t = 15 := by omega
      rw [ent_int this ok.2.2] at he
      rcases this with rfl | rfl | rfl | rfl
      · exact va_alen hx hb hK.1 hC.2.2 _ 0 he rfl rfl hd kk
      · exact va_alen hx hb hK.1 hC.2.2 _ 1 he rfl rfl hd kk
      · exact va_alen hx hb hK.1 hC.2.2 _ 2 he rfl rfl hd kk
      · exact va_alen hx hb hK.1 hC.2.2 _ 4 he rfl rfl hd kk
/-! new cells -/
theorem ent_nw {X : EX} {h : HP} {t n k : Nat} (hk : k < hZ h) : ent X (nw h t n) k = ent X h k := by
  have hne : k ≠ hZ h := Nat.ne_of_lt hk
  have e1 : hI (nw h t n) k = hI h k := by funext j; simp [nw, hI, hne]
  have e2 : hL (nw h t n) k = hL h k := by funext j; simp [nw, hL, hne]
  have e3 : hR (nw h t n) k = hR h k := by funext j; simp [nw, hR, hne]
  have e4 : hT (nw h t n) k = hT h k := by simp [nw, hT, hne]
  have e5 : hN (nw h t n) k = hN h k := by simp [nw, hN, hne]
  unfold ent
  rw [e1, e2, e3, e4, e5]
def NewOk (own : String) (ix ci : Nat) : Prop := ∃ r, vwCl[ci]? = some r ∧ .classLink own ix r.1 ∈ TT ∧ .instantiable r.1 r.2.2 ∈ TT ∧ .initialized r.1 ∈ TT
theorem dflt_ok : ∀ (ci : Nat) (r : vw_C), vwCl[ci]? = some r → ∀ k, k < r.2.2 → defaultValue (tyF ci k) = (if isR ci k then va_rf none else .int 0) := by
  intro ci r h
  match ci, h with
  | 0, h => cases h; decide +kernel
  | 1, h => cases h; decide +kernel
  | 2, h => cases h; decide +kernel
  | 3, h => cases h; decide +kernel
  | 4, h => cases h; decide +kernel
  | 5, h => cases h; decide +kernel
  | 6, h => cases h; decide +kernel
  | 7, h => cases h; decide +kernel
  | 8, h => cases h; decide +kernel
  | 9, h => cases h; decide +kernel
  | n + 10, h => simp [vwCl] at h
theorem e_new {ci : Nat} (hd : At y.2.1 pc (.new ix) 3 pc') (N : NewOk y.1.cls ix ci) (hcc : cells + 1 ≤ mc) (hss : slots + nF ci ≤ ms) (k : Ev X y d mc ms Q (cells + 1) (slots + nF ci) pc' ls (vR (some (hZ h)) :: st) (nw h (ci + 1) 0)) : Ev X y d mc ms Q cells slots pc ls st h := by
  obtain ⟨hd, rfl⟩ := hd
  intro p e s m args below meth c H locs lsr C hC hS hl
  have kk := fun H1 hC1 hS1 => k p e s m args below meth c H1 locs lsr C hC1 hS1 hl
  obtain ⟨hx, hb, hmx, hret, hown, hts, hlk, hnm, hK, hP, hsz⟩ := C
  obtain ⟨r, hr, w1, w2, w3⟩ := N
  obtain ⟨c1, c2, c3, c4, c5⟩ := cl_ok ci r hr
  have hKn := hK.1.1 ci _ hr
  refine W.newcK (n := nF ci) hx hb hown (hts _ w1) (by rw [← c4]; exact hts _ w2) (hts _ w3) rfl hd hcc hss hKn.2.1 rfl fun H1 kC hkC e1 z1 o1 => ?_
  have hH : (F0 m (pc + 3) lsr (.ref H.size :: st.map (cv X))) = F0 m (pc + 3) lsr ((vR (some (hZ h)) :: st).map (cv X)) := by
    show _ = F0 m (pc + 3) lsr (.ref (ad X (hZ h)) :: st.map (cv X))
    rw [ad_sz hC]
  refine W.eq hH (kk H1 (corH_push hC rfl ?_ (fun q hq => ent_nw hq) z1 o1) ⟨Nat.le_trans hS.1 (by omega), fun x h1 h2 => (o1 x (Nat.lt_of_lt_of_le h1 hS.1)).trans (hS.2.1 x h1 h2), hS.2.2⟩)
  rw [ent_obj (ci := ci) c5 (by simp [nw, hT])]
  refine ⟨r, hr, ?_⟩
  rw [ad_sz hC]
  refine (u_born (tyF ci) hts c1 hKn hkC e1 c2).to (fun j hj => ?_)
  dsimp only
  rw [dflt_ok ci r hr j hj]
  have hv : ((List.range (nF ci)).map (fun i => if isR ci i then va_rf ((hR (nw h (ci + 1) 0) (hZ h) i).map (ad X)) else .int (hI (nw h (ci + 1) 0) (hZ h) i)))[j]? = some (if isR ci j then va_rf none else .int 0) := by
    rw [fs_at (by rw [← c4]; exact hj)]
    simp [nw, hI, hR]
  show _ = List.getD _ j Value.null
  rw [List.getD_eq_getElem?_getD, hv]
  rfl
theorem e_newI {n : Int32} {N' : Nat} (hd : At y.2.1 pc (.newarray .int) 2 pc') (w : .arrayClass .int ∈ TT) (hn : ¬ n < 0) (hN' : n.toNatClampNeg = N') (hbig : N' ≤ 60000000) (hcc : cells + 1 ≤ mc) (hss : slots + N' ≤ ms) (k : Ev X y d mc ms Q (cells + 1) (slots + N') pc' ls (vR (some (hZ h)) :: st) (nw h 13 N')) : Ev X y d mc ms Q cells slots pc ls (vI n :: st) h := by
  obtain ⟨hd, rfl⟩ := hd
  intro p e s m args below meth c H locs lsr C hC hS hl
  have kk := fun H1 hC1 hS1 => k p e s m args below meth c H1 locs lsr C hC1 hS1 hl
  obtain ⟨hx, hb, hmx, hret, hown, hts, hlk, hnm, hK, hP, hsz⟩ := C
  refine va_newaK (atype := .int) hx hb (hts _ w) rfl hd rfl hn hN' (by show N' * _ ≤ _; simp only [newarray.typeOf, componentBytes]; omega) hcc hss rfl fun H1 cA e1 z1 o1 hAr hNm => ?_
  have hcA : cA = xA X 13 := Option.some.inj (hNm.symm.trans (hK.1.2 2 _ rfl).2)
  have hH : (F0 m (pc + 2) lsr (.ref H.size :: st.map (cv X))) = F0 m (pc + 2) lsr ((vR (some (hZ h)) :: st).map (cv X)) := by
    show _ = F0 m (pc + 2) lsr (.ref (ad X (hZ h)) :: st.map (cv X))
    rw [ad_sz hC]
  refine W.eq hH (kk H1 (corH_push hC rfl ?_ (fun q hq => ent_nw hq) z1 o1) ⟨Nat.le_trans hS.1 (by omega), fun x h1 h2 => (o1 x (Nat.lt_of_lt_of_le h1 hS.1)).trans (hS.2.1 x h1 h2), hS.2.2⟩)
  rw [ent_int (t := 13) (by decide) (by simp [nw, hT])]
  show H1[ad X (hZ h)]? = some (vp_cell _ _)
  rw [ad_sz hC, e1, vp_cell_i, hcA]
  have e5 : hN (nw h 13 N') (hZ h) = N' := by simp [nw, hN]
  rw [e5]
  congr 2
  funext q
  simp [hI, nw, newarray.typeOf, defaultValue]
theorem e_newC {n : Int32} {N' : Nat} (hd : At y.2.1 pc (.newarray .char) 2 pc') (w : .arrayClass .char ∈ TT) (hn : ¬ n < 0) (hN' : n.toNatClampNeg = N') (hbig : N' ≤ 60000000) (hcc : cells + 1 ≤ mc) (hss : slots + N' ≤ ms) (k : Ev X y d mc ms Q (cells + 1) (slots + N') pc' ls (vR (some (hZ h)) :: st) (nw h 12 N')) : Ev X y d mc ms Q cells slots pc ls (vI n :: st) h := by
  obtain ⟨hd, rfl⟩ := hd
  intro p e s m args below meth c H locs lsr C hC hS hl
  have kk := fun H1 hC1 hS1 => k p e s m args below meth c H1 locs lsr C hC1 hS1 hl
  obtain ⟨hx, hb, hmx, hret, hown, hts, hlk, hnm, hK, hP, hsz⟩ := C
  refine va_newaK (atype := .char) hx hb (hts _ w) rfl hd rfl hn hN' (by show N' * _ ≤ _; simp only [newarray.typeOf, componentBytes]; omega) hcc hss rfl fun H1 cA e1 z1 o1 hAr hNm => ?_
  have hcA : cA = xA X 12 := Option.some.inj (hNm.symm.trans (hK.1.2 1 _ rfl).2)
  have hH : (F0 m (pc + 2) lsr (.ref H.size :: st.map (cv X))) = F0 m (pc + 2) lsr ((vR (some (hZ h)) :: st).map (cv X)) := by
    show _ = F0 m (pc + 2) lsr (.ref (ad X (hZ h)) :: st.map (cv X))
    rw [ad_sz hC]
  refine W.eq hH (kk H1 (corH_push hC rfl ?_ (fun q hq => ent_nw hq) z1 o1) ⟨Nat.le_trans hS.1 (by omega), fun x h1 h2 => (o1 x (Nat.lt_of_lt_of_le h1 hS.1)).trans (hS.2.1 x h1 h2), hS.2.2⟩)
  rw [ent_int (t := 12) (by decide) (by simp [nw, hT])]
  show H1[ad X (hZ h)]? = some (vp_cell _ _)
  rw [ad_sz hC, e1, vp_cell_i, hcA]
  have e5 : hN (nw h 12 N') (hZ h) = N' := by simp [nw, hN]
  rw [e5]
  congr 2
  funext q
  simp [hI, nw, newarray.typeOf, defaultValue]
theorem e_newB {n : Int32} {N' : Nat} (hd : At y.2.1 pc (.newarray .byte) 2 pc') (w : .arrayClass .byte ∈ TT) (hn : ¬ n < 0) (hN' : n.toNatClampNeg = N') (hbig : N' ≤ 60000000) (hcc : cells + 1 ≤ mc) (hss : slots + N' ≤ ms) (k : Ev X y d mc ms Q (cells + 1) (slots + N') pc' ls (vR (some (hZ h)) :: st) (nw h 11 N')) : Ev X y d mc ms Q cells slots pc ls (vI n :: st) h := by
  obtain ⟨hd, rfl⟩ := hd
  intro p e s m args below meth c H locs lsr C hC hS hl
  have kk := fun H1 hC1 hS1 => k p e s m args below meth c H1 locs lsr C hC1 hS1 hl
  obtain ⟨hx, hb, hmx, hret, hown, hts, hlk, hnm, hK, hP, hsz⟩ := C
  refine va_newaK (atype := .byte) hx hb (hts _ w) rfl hd rfl hn hN' (by show N' * _ ≤ _; simp only [newarray.typeOf, componentBytes]; omega) hcc hss rfl fun H1 cA e1 z1 o1 hAr hNm => ?_
  have hcA : cA = xA X 11 := Option.some.inj (hNm.symm.trans (hK.1.2 0 _ rfl).2)
  have hH : (F0 m (pc + 2) lsr (.ref H.size :: st.map (cv X))) = F0 m (pc + 2) lsr ((vR (some (hZ h)) :: st).map (cv X)) := by
    show _ = F0 m (pc + 2) lsr (.ref (ad X (hZ h)) :: st.map (cv X))
    rw [ad_sz hC]
  refine W.eq hH (kk H1 (corH_push hC rfl ?_ (fun q hq => ent_nw hq) z1 o1) ⟨Nat.le_trans hS.1 (by omega), fun x h1 h2 => (o1 x (Nat.lt_of_lt_of_le h1 hS.1)).trans (hS.2.1 x h1 h2), hS.2.2⟩)
  rw [ent_int (t := 11) (by decide) (by simp [nw, hT])]
  show H1[ad X (hZ h)]? = some (vp_cell _ _)
  rw [ad_sz hC, e1, vp_cell_i, hcA]
  have e5 : hN (nw h 11 N') (hZ h) = N' := by simp [nw, hN]
  rw [e5]
  congr 2
  funext q
  simp [hI, nw, newarray.typeOf, defaultValue]
theorem e_newZ {n : Int32} {N' : Nat} (hd : At y.2.1 pc (.newarray .boolean) 2 pc') (w : .arrayClass .boolean ∈ TT) (hn : ¬ n < 0) (hN' : n.toNatClampNeg = N') (hbig : N' ≤ 60000000) (hcc : cells + 1 ≤ mc) (hss : slots + N' ≤ ms) (k : Ev X y d mc ms Q (cells + 1) (slots + N') pc' ls (vR (some (hZ h)) :: st) (nw h 15 N')) : Ev X y d mc ms Q cells slots pc ls (vI n :: st) h := by
  obtain ⟨hd, rfl⟩ := hd
  intro p e s m args below meth c H locs lsr C hC hS hl
  have kk := fun H1 hC1 hS1 => k p e s m args below meth c H1 locs lsr C hC1 hS1 hl
  obtain ⟨hx, hb, hmx, hret, hown, hts, hlk, hnm, hK, hP, hsz⟩ := C
  refine va_newaK (atype := .boolean) hx hb (hts _ w) rfl hd rfl hn hN' (by show N' * _ ≤ _; simp only [newarray.typeOf, componentBytes]; omega) hcc hss rfl fun H1 cA e1 z1 o1 hAr hNm => ?_
  have hcA : cA = xA X 15 := Option.some.inj (hNm.symm.trans (hK.1.2 4 _ rfl).2)
  have hH : (F0 m (pc + 2) lsr (.ref H.size :: st.map (cv X))) = F0 m (pc + 2) lsr ((vR (some (hZ h)) :: st).map (cv X)) := by
    show _ = F0 m (pc + 2) lsr (.ref (ad X (hZ h)) :: st.map (cv X))
    rw [ad_sz hC]
  refine W.eq hH (kk H1 (corH_push hC rfl ?_ (fun q hq => ent_nw hq) z1 o1) ⟨Nat.le_trans hS.1 (by omega), fun x h1 h2 => (o1 x (Nat.lt_of_lt_of_le h1 hS.1)).trans (hS.2.1 x h1 h2), hS.2.2⟩)
  rw [ent_int (t := 15) (by decide) (by simp [nw, hT])]
  show H1[ad X (hZ h)]? = some (vp_cell _ _)
  rw [ad_sz hC, e1, vp_cell_i, hcA]
  have e5 : hN (nw h 15 N') (hZ h) = N' := by simp [nw, hN]
  rw [e5]
  congr 2
  funext q
  simp [hI, nw, newarray.typeOf, defaultValue]
theorem e_newL {n : Int32} {N' : Nat} (hd : At y.2.1 pc (.newarray .long) 2 pc') (w : .arrayClass .long ∈ TT) (hn : ¬ n < 0) (hN' : n.toNatClampNeg = N') (hbig : N' ≤ 60000000) (hcc : cells + 1 ≤ mc) (hss : slots + N' ≤ ms) (k : Ev X y d mc ms Q (cells + 1) (slots + N') pc' ls (vR (some (hZ h)) :: st) (nw h 14 N')) : Ev X y d mc ms Q cells slots pc ls (vI n :: st) h := by
  obtain ⟨hd, rfl⟩ := hd
  intro p e s m args below meth c H locs lsr C hC hS hl
  have kk := fun H1 hC1 hS1 => k p e s m args below meth c H1 locs lsr C hC1 hS1 hl
  obtain ⟨hx, hb, hmx, hret, hown, hts, hlk, hnm, hK, hP, hsz⟩ := C
  refine va_newaK (atype := .long) hx hb (hts _ w) rfl hd rfl hn hN' (by show N' * _ ≤ _; simp only [newarray.typeOf, componentBytes]; omega) hcc hss rfl fun H1 cA e1 z1 o1 hAr hNm => ?_
  have hcA : cA = xA X 14 := Option.some.inj (hNm.symm.trans (hK.1.2 3 _ rfl).2)
  have hH : (F0 m (pc + 2) lsr (.ref H.size :: st.map (cv X))) = F0 m (pc + 2) lsr ((vR (some (hZ h)) :: st).map (cv X)) := by
    show _ = F0 m (pc + 2) lsr (.ref (ad X (hZ h)) :: st.map (cv X))
    rw [ad_sz hC]
  refine W.eq hH (kk H1 (corH_push hC rfl ?_ (fun q hq => ent_nw hq) z1 o1) ⟨Nat.le_trans hS.1 (by omega), fun x h1 h2 => (o1 x (Nat.lt_of_lt_of_le h1 hS.1)).trans (hS.2.1 x h1 h2), hS.2.2⟩)
  rw [ent_long (by simp [nw, hT])]
  show H1[ad X (hZ h)]? = some (vp_cell _ _)
  rw [ad_sz hC, e1, vp_cell_l, hcA]
  have e5 : hN (nw h 14 N') (hZ h) = N' := by simp [nw, hN]
  rw [e5]
  congr 2
  funext q
  simp [hL, nw, newarray.typeOf, defaultValue]
theorem e_newR {n : Int32} {N' t : Nat} (hd : At y.2.1 pc (.anewarray ix) 3 pc') (h1 : 16 ≤ t) (h2 : t ≤ 19) (w : .classLink y.1.cls ix (rfC t).2 ∈ TT) (hn : ¬ n < 0) (hN' : n.toNatClampNeg = N') (hbig : N' ≤ 60000000) (hcc : cells + 1 ≤ mc) (hss : slots + N' ≤ ms) (k : Ev X y d mc ms Q (cells + 1) (slots + N') pc' ls (vR (some (hZ h)) :: st) (nw h t N')) : Ev X y d mc ms Q cells slots pc ls (vI n :: st) h := by
  obtain ⟨hd, rfl⟩ := hd
  intro p e s m args below meth c H locs lsr C hC hS hl
  have kk := fun H1 hC1 hS1 => k p e s m args below meth c H1 locs lsr C hC1 hS1 hl
  obtain ⟨hx, hb, hmx, hret, hown, hts, hlk, hnm, hK, hP, hsz⟩ := C
  have hao : va_AO (rfC t).2 s := hK.2.2.1 _ (by
    have : t = 16 ∨ t = 17 ∨ t = 18 ∨ t = 19 := by omega
    rcases this with rfl | rfl | rfl | rfl <;> simp [aoW, rfC])
  subst hN'
  refine W.anew hx hb hown (hts _ w) (va_AO.use hao) rfl hd rfl hn (by omega) hcc hss fun cA kA comp f1 f2 f3 f4 => ?_
  generalize hH1 : H.push ({ cls := cA, slots := Array.replicate n.toNatClampNeg .null, vm := .none } : Cell) = H1
  have z1 : H1.size = H.size + 1 := by rw [← hH1, Array.size_push]
  have e1 : H1[H.size]? = some (arrV cA n.toNatClampNeg (fun _ => .null)) := by rw [← hH1, Array.getElem?_push_size, ← arrV_new]
  have o1 : ∀ q : Nat, q < H.size → H1[q]? = H[q]? := fun q hq => by rw [← hH1, Array.getElem?_push, if_neg (Nat.ne_of_lt hq)]
  obtain ⟨kA2, comp2, k1, k2, k3, k4⟩ := (hK.1.2 (t - 11) _ (rf_ty h1 h2)).2
  have hcA : cA = xA X t := by first | exact Option.some.inj (f1.symm.trans k4) | exact Option.some.inj (f4.symm.trans k4)
  have hH : (F0 m (pc + 3) lsr (.ref H.size :: st.map (cv X))) = F0 m (pc + 3) lsr ((vR (some (hZ h)) :: st).map (cv X)) := by
    show _ = F0 m (pc + 3) lsr (.ref (ad X (hZ h)) :: st.map (cv X))
    rw [ad_sz hC]
  refine W.eq hH (kk H1 (corH_push hC rfl ?_ (fun q hq => ent_nw hq) z1 o1) ⟨Nat.le_trans hS.1 (by omega), fun x h1 h2 => (o1 x (Nat.lt_of_lt_of_le h1 hS.1)).trans (hS.2.1 x h1 h2), hS.2.2⟩)
  rw [ent_ref (t := t) h1 (by simp [nw, hT])]
  show H1[ad X (hZ h)]? = some (vp_cell _ _)
  rw [ad_sz hC, e1, vp_cell_q, hcA]
  have e5 : hN (nw h t n.toNatClampNeg) (hZ h) = n.toNatClampNeg := by simp [nw, hN]
  rw [e5]
  congr 2
  funext q
  simp [hR, nw, va_rf]
/-! statics, the pool's constants -/
theorem e_gets {i : Nat} {q : String × List Int32} (hd : At y.2.1 pc (.getstatic ix) 3 pc') (hq : stW[i]? = some q) (w : .fieldLink y.1.cls ix RX8 q.1 "[I" ∈ TT) (k : Ev X y d mc ms Q cells slots pc' ls (vR (some (i + 1)) :: st) h) : Ev X y d mc ms Q cells slots pc ls st h := by
  obtain ⟨hd, rfl⟩ := hd
  intro p e s m args below meth c H locs lsr C hC hS hl
  have kk := k p e s m args below meth c H locs lsr C hC hS hl
  obtain ⟨hx, hb, hmx, hret, hown, hts, hlk, hnm, hK, hP, hsz⟩ := C
  have hi : i < 5 := (List.getElem?_eq_some_iff.mp hq).1
  have e0 : ad X (i + 1) = xS X (i + 1) := by unfold ad; rw [if_pos (by omega)]
  have e1 : (vR (some (i + 1)) :: st).map (cv X) = .ref (xS X (i + 1)) :: st.map (cv X) := by rw [← e0]; rfl
  rw [e1] at kk
  exact va_gets hx hb (hP.1 i q hq).1 hS hown (hts _ w) (fun _ z => z) hd kk
theorem e_getsN {i : Nat} {q : String × List Int32} (hd : At y.2.1 pc (.getstatic ix) 3 pc') (hq : stW[i]? = some q) (w : .fieldLinkNest y.1.cls ix RX8 q.1 "[I" RX8 ∈ nestW) (k : Ev X y d mc ms Q cells slots pc' ls (vR (some (i + 1)) :: st) h) : Ev X y d mc ms Q cells slots pc ls st h := by
  obtain ⟨hd, rfl⟩ := hd
  intro p e s m args below meth c H locs lsr C hC hS hl
  have kk := k p e s m args below meth c H locs lsr C hC hS hl
  obtain ⟨hx, hb, hmx, hret, hown, hts, hlk, hnm, hK, hP, hsz⟩ := C
  have hi : i < 5 := (List.getElem?_eq_some_iff.mp hq).1
  have e0 : ad X (i + 1) = xS X (i + 1) := by unfold ad; rw [if_pos (by omega)]
  have e1 : (vR (some (i + 1)) :: st).map (cv X) = .ref (xS X (i + 1)) :: st.map (cv X) := by rw [← e0]; rfl
  rw [e1] at kk
  exact va_getsN hx hb (hP.1 i q hq).1 hS hown (va_Nw.use rfl (hK.2.1 _ w)) (fun _ z => z) hd kk
/-- an element of a static array -/
theorem e_ialoadS {i0 : Nat} {q : String × List Int32} {i : Int32} (hd : At y.2.1 pc (.iaload) 1 pc') (hq : stW[i0]? = some q) (hin : vp_in i q.2.length) (k : Ev X y d mc ms Q cells slots pc' ls (vI (q.2.getD i.toNatClampNeg 0) :: st) h) : Ev X y d mc ms Q cells slots pc ls (vI i :: vR (some (i0 + 1)) :: st) h := by
  obtain ⟨hd, rfl⟩ := hd
  intro p e s m args below meth c H locs lsr C hC hS hl
  have kk := k p e s m args below meth c H locs lsr C hC hS hl
  obtain ⟨hx, hb, hmx, hret, hown, hts, hlk, hnm, hK, hP, hsz⟩ := C
  have hi : i0 < 5 := (List.getElem?_eq_some_iff.mp hq).1
  have e0 : ad X (i0 + 1) = xS X (i0 + 1) := by unfold ad; rw [if_pos (by omega)]
  show W _ _ _ _ _ _ _ _ _ _ _ _ _ _ _ (F0 m pc lsr (.int i :: .ref (ad X (i0 + 1)) :: st.map (cv X)))
  rw [e0]
  exact va_ti hx hb (hP.1 i0 q hq).2 hS hin rfl hd kk
theorem e_ialoadX {i : Int32} (hd : At y.2.1 pc (.iaload) 1 pc') (hin : vp_in i (xN X)) (k : Ev X y d mc ms Q cells slots pc' ls (vI (xs X i.toNatClampNeg) :: st) h) : Ev X y d mc ms Q cells slots pc ls (vI i :: vR (some 6) :: st) h := by
  obtain ⟨hd, rfl⟩ := hd
  intro p e s m args below meth c H locs lsr C hC hS hl
  have kk := k p e s m args below meth c H locs lsr C hC hS hl
  obtain ⟨hx, hb, hmx, hret, hown, hts, hlk, hnm, hK, hP, hsz⟩ := C
  exact va_ti hx hb hP.2.1 hS hin rfl hd kk
theorem e_alenX (hd : At y.2.1 pc (.arraylength) 1 pc') (k : Ev X y d mc ms Q cells slots pc' ls (vI (Int32.ofNat (xN X)) :: st) h) : Ev X y d mc ms Q cells slots pc ls (vR (some 6) :: st) h := by
  obtain ⟨hd, rfl⟩ := hd
  intro p e s m args below meth c H locs lsr C hC hS hl
  have kk := k p e s m args below meth c H locs lsr C hC hS hl
  obtain ⟨hx, hb, hmx, hret, hown, hts, hlk, hnm, hK, hP, hsz⟩ := C
  exact va_tlen hx hb hP.2.1 hS rfl hd kk
theorem e_ldc {v : Int32} (hd : At y.2.1 pc (.ldc ix) 2 pc') (w : .constant y.1.cls ix v ∈ TT) (k : Ev X y d mc ms Q cells slots pc' ls (vI v :: st) h) : Ev X y d mc ms Q cells slots pc ls st h := by
  obtain ⟨hd, rfl⟩ := hd
  intro p e s m args below meth c H locs lsr C hC hS hl
  have kk := k p e s m args below meth c H locs lsr C hC hS hl
  exact lv_ldc C.1 C.2.1 C.2.2.2.2.1 (C.2.2.2.2.2.1 _ w) hd kk
theorem e_ldcw {v : Int32} (hd : At y.2.1 pc (.ldc_w ix) 3 pc') (w : .constant y.1.cls ix v ∈ TT) (k : Ev X y d mc ms Q cells slots pc' ls (vI v :: st) h) : Ev X y d mc ms Q cells slots pc ls st h := by
  obtain ⟨hd, rfl⟩ := hd
  intro p e s m args below meth c H locs lsr C hC hS hl
  have kk := k p e s m args below meth c H locs lsr C hC hS hl
  exact lv_ldcw C.1 C.2.1 C.2.2.2.2.1 (C.2.2.2.2.2.1 _ w) hd kk
theorem e_ldc2 {v : Int64} (hd : At y.2.1 pc (.ldc2_w ix) 3 pc') (w : .constantLong y.1.cls ix v ∈ TT) (k : Ev X y d mc ms Q cells slots pc' ls (vL v :: st) h) : Ev X y d mc ms Q cells slots pc ls st h := by
  obtain ⟨hd, rfl⟩ := hd
  intro p e s m args below meth c H locs lsr C hC hS hl
  have kk := k p e s m args below meth c H locs lsr C hC hS hl
  exact lv_ldc2 C.1 C.2.1 C.2.2.2.2.1 (C.2.2.2.2.2.1 _ w) hd kk
theorem e_ldcS {i : Nat} {q : Nat × String} (hd : At y.2.1 pc (.ldc ix) 2 pc') (hcls : y.1.cls = RX3) (hq : strs[i]? = some q) (hix : q.1 = ix) (k : Ev X y d mc ms Q cells slots pc' ls (vR (some (i + 8)) :: st) h) : Ev X y d mc ms Q cells slots pc ls st h := by
  obtain ⟨hd, rfl⟩ := hd
  intro p e s m args below meth c H locs lsr C hC hS hl
  have kk := k p e s m args below meth c H locs lsr C hC hS hl
  obtain ⟨hx, hb, hmx, hret, hown, hts, hlk, hnm, hK, hP, hsz⟩ := C
  have hi : i < 18 := (List.getElem?_eq_some_iff.mp hq).1
  have e0 : ad X (i + 8) = xS X (i + 8) := by unfold ad; rw [if_pos (by omega)]
  have e1 : (vR (some (i + 8)) :: st).map (cv X) = .ref (xS X (i + 8)) :: st.map (cv X) := by rw [← e0]; rfl
  rw [e1] at kk
  rw [hcls] at hown
  exact va_ldcS hx hb hown (hix ▸ hK.2.2.2 i q hq) hd kk
/-! two references -/
theorem ad_inj {X : EX} {a b : Nat} (h1 : 32 ≤ a) (h2 : 32 ≤ b) : ad X a = ad X b ↔ a = b := by
  unfold ad
  rw [if_neg (by omega), if_neg (by omega)]
  omega
theorem e_acmpne {r1 r2 : Option Nat} {off : Int} {tgt : Nat} (hd : Br y.2.1 pc (.if_acmp .ne off) off pc' tgt) (g1 : ∀ a, r1 = some a → 32 ≤ a) (g2 : ∀ a, r2 = some a → 32 ≤ a) (kt : ¬ r1 = r2 → Ev X y d mc ms Q cells slots tgt ls st h) (kf : r1 = r2 → Ev X y d mc ms Q cells slots pc' ls st h) : Ev X y d mc ms Q cells slots pc ls (vR r2 :: vR r1 :: st) h := by
  obtain ⟨hd, rfl, ht⟩ := hd
  intro p e s m args below meth c H locs lsr C hC hS hl
  have key : r1.map (ad X) = r2.map (ad X) ↔ r1 = r2 := by
    cases r1 with
    | none => cases r2 <;> simp
    | some a => cases r2 with
      | none => simp
      | some b =>
        have := ad_inj (X := X) (g1 a rfl) (g2 b rfl)
        simp [this]
  exact lv_acmp_ne C.1 C.2.1 hd ht (fun q => kt (fun z => q (key.mpr z)) p e s m args below meth c H locs lsr C hC hS hl) (fun q => kf (key.mp q) p e s m args below meth c H locs lsr C hC hS hl)
/-! Math.min -/
theorem e_min {x y0 : Int32} (hd : At y.2.1 pc (.invokestatic ix) 3 pc') (w1 : .methodLink y.1.cls ix Lib.Math.min.name ∈ TT) (w2 : .static Lib.Math.min.name ∈ TT) (w3 : .initialized "java/lang/Math" ∈ TT) (w4 : .code Lib.Math.min.name Lib.Math.min.code 2 (some .int) ∈ TT) (hdd : 1 ≤ d) (hcc : cells ≤ mc) (hss : slots ≤ ms) (hcat : catL st ≤ 8) (k : Ev X y d mc ms Q cells slots pc' ls (vI (if y0 < x then y0 else x) :: st) h) : Ev X y d mc ms Q cells slots pc ls (vI y0 :: vI x :: st) h := by
  obtain ⟨hd, rfl⟩ := hd
  intro p e s m args below meth c H locs lsr C hC hS hl
  have kk := k p e s m args below meth c H locs lsr C hC hS hl
  obtain ⟨lv, hv, -⟩ := id hl
  obtain ⟨hx, hb, hmx, hret, hown, hts, hlk, hnm, hK, hP, hsz⟩ := C
  exact va_mmin hx hb (by rw [hmx]; exact hv.1.symm) hown (hts _ w1) (hts _ w2) (hts _ w3) (hts _ w4) hdd (by rw [catL_eq]; show catL st + 13 ≤ 40 * d; omega) hcc hss hd kk
end R9
end
section
/-! System.arraycopy (ints, longs) (written by wip/whole/gen8.py) -/
def cpI (h : HP) (a b sp dp n : Nat) : HP := (fun q j => if q = b then va_cpy (hI h a) (hI h b) sp dp n j else hI h q j, h.2)
def cpL (h : HP) (a b sp dp n : Nat) : HP := (h.1, fun q j => if q = b then va_cpy (hL h a) (hL h b) sp dp n j else hL h q j, h.2.2)
theorem nn_int {z : Int32} (hz : ¬ z < 0) : z.toInt = (z.toNatClampNeg : Int) := by
  have h0 : (0 : Int) ≤ z.toInt := by
    have := Int32.le_iff_toInt_le.mp (Int32.not_lt.mp hz)
    simpa using this
  show z.toInt = ((z.toInt.toNat : Nat) : Int)
  omega
section R10
variable {X : EX} {y : MD} {d mc ms : Nat} {Q : Option VV → HP → Prop} {cells slots pc pc' : Nat} {ls : ZL} {st : List VV} {h : HP} {ix a b : Nat}
theorem e_copyI {sp dp n : Int32} (hd : At y.2.1 pc (.invokestatic ix) 3 pc') (w1 : .methodLink y.1.cls ix arraycopyName ∈ TT) (w2 : .native arraycopyName ∈ TT) (w3 : .static arraycopyName ∈ TT) (w4 : .initialized "java/lang/System" ∈ TT) (ok1 : Is h a 13) (ok2 : Is h b 13) (h1 : ¬ sp < 0) (h2 : ¬ dp < 0) (h3 : ¬ n < 0) (h4 : sp.toNatClampNeg + n.toNatClampNeg ≤ hN h a) (h5 : dp.toNatClampNeg + n.toNatClampNeg ≤ hN h b)
    (hdd : 1 ≤ d) (hcat : catL st ≤ 8) (k : Ev X y d mc ms Q cells slots pc' ls st (cpI h a b sp.toNatClampNeg dp.toNatClampNeg n.toNatClampNeg)) : Ev X y d mc ms Q cells slots pc ls (vI n :: vI dp :: vR (some b) :: vI sp :: vR (some a) :: st) h := by
  obtain ⟨hd, rfl⟩ := hd
  intro p e s m args below meth c H locs lsr C hC hS hl
  have kk := fun H1 locs1 hC1 hS1 => k p e s m args below meth c H1 locs1 lsr C hC1 hS1 hl
  obtain ⟨lv, hv, -⟩ := id hl
  obtain ⟨hx, hb, hmx, hret, hown, hts, hlk, hnm, hK, hP, hsz⟩ := C
  have he1 := wl_get (X := X) ok1.1 ok1.2.1
  have he2 := wl_get (X := X) ok2.1 ok2.2.1
  rw [ent_int (t := 13) (by decide) ok1.2.2] at he1
  rw [ent_int (t := 13) (by decide) ok2.2.2] at he2
  have hc1 : H[ad X a]? = some (vp_cell (xA X 13) (hN h a, .inl (hI h a))) := hC.2.2 _ _ he1
  have hc2 : H[ad X b]? = some (vp_cell (xA X 13) (hN h b, .inl (hI h b))) := hC.2.2 _ _ he2
  obtain ⟨-, k1, hk1, cm1, hkk1⟩ := (hK.1.2 2 _ rfl).1 0 (fun _ => .null)
  have hk1 : s.vm.classes[xA X 13]? = some k1 := hk1
  have hkk1 : k1.kind = .array cm1 .int := hkk1
  intro T hT X0
  obtain ⟨vm', X', step⟩ := X0.arraycopy hx hown (hts _ w1) (hts _ w2) (hts _ w3) (hts _ w4) (src := ad X a) (dst := ad X b) (cs := vp_cell (xA X 13) (hN h a, .inl (hI h a))) (cd := vp_cell (xA X 13) (hN h b, .inl (hI h b))) (srcPos := sp) (destPos := dp) (n := n) (by rw [hT]; exact hc1) (by rw [hT]; exact hc2)
    (fun _ h => by cases h) (fun _ h => by cases h) (fun h => by cases h) (fun h => by cases h) hk1 hk1 hkk1 hkk1 (by simp [refKind]) h1 h2 h3
    (by rw [nn_int h1, nn_int h3]; show ¬ _ > ((arrV _ _ (fun j => .int (hI h a j))).slots.size : Int); rw [arrV_size]; omega)
    (by rw [nn_int h2, nn_int h3]; show ¬ _ > ((arrV _ _ (fun j => .int (hI h b j))).slots.size : Int); rw [arrV_size]; omega)
    (fun vm₁ _ i hi => by
      have e9 : (vp_cell (xA X 13) (hN h a, .inl (hI h a))).slots.getD (sp.toNatClampNeg + i) .null = .int (hI h a (sp.toNatClampNeg + i)) := by
        show (arrV _ _ (fun j => .int (hI h a j))).slots.getD _ _ = _
        rw [Array.getD_eq_getD_getElem?, arrV_read _ _ (by omega)]
        rfl
      refine ⟨?_, ?_⟩
      · rw [e9]; rfl
      · rw [e9]; exact trivial)
    (g := F0 m pc lsr (.int n :: .int dp :: .ref (ad X b) :: .int sp :: .ref (ad X a) :: st.map (cv X))) rfl (by rw [hmx]; exact hv.1) (rest := st.map (cv X)) rfl (by rw [hb]; exact hd) hdd
    (by rw [catL_eq]; have hnf : nativeFrameWords "java/lang/System" "arraycopy" 5 ≤ 20 := by decide
        show 2 * 0 + catL st + (nativeFrameWords "java/lang/System" "arraycopy" 5 + 11) ≤ 40 * d; omega)
  have e1 : copied (vp_cell (xA X 13) (hN h a, .inl (hI h a))) (vp_cell (xA X 13) (hN h b, .inl (hI h b))) sp dp n = vp_cell (xA X 13) (hN h b, .inl (va_cpy (hI h a) (hI h b) sp.toNatClampNeg dp.toNatClampNeg n.toNatClampNeg)) := va_copied (fun z => .int z) _ _ (hI h a) (hI h b) h4
  rw [e1] at X' step
  have hlt : ad X b < H.size := (Array.getElem?_eq_some_iff.mp hc2).1
  generalize hnew : vp_cell (xA X 13) (hN h b, .inl (va_cpy (hI h a) (hI h b) sp.toNatClampNeg dp.toNatClampNeg n.toNatClampNeg)) = cN at X' step
  have hheap : ((T.setVm vm').setCell (ad X b) cN).heap = H.setIfInBounds (ad X b) cN := by rw [← hT]; rfl
  have oq : ∀ q : Nat, q ≠ ad X b → (H.setIfInBounds (ad X b) cN)[q]? = H[q]? := fun q hq => by simp [Array.getElem?_setIfInBounds, Ne.symm hq]
  have hz : (H.setIfInBounds (ad X b) cN).size = H.size := by simp
  have hcor : CorH X (cpI h a b sp.toNatClampNeg dp.toNatClampNeg n.toNatClampNeg) (H.setIfInBounds (ad X b) cN) := by
    refine corH_set (a := b) hC ok2.1 ok2.2.1 rfl ?_ ?_ hz oq
    · have ok' : (cpI h a b sp.toNatClampNeg dp.toNatClampNeg n.toNatClampNeg).2.2.2.1 b = 13 := ok2.2.2
      rw [ent_int (t := 13) (by decide) ok']
      have e5 : hI (cpI h a b sp.toNatClampNeg dp.toNatClampNeg n.toNatClampNeg) b = va_cpy (hI h a) (hI h b) sp.toNatClampNeg dp.toNatClampNeg n.toNatClampNeg := by
        funext j
        exact if_pos rfl
      rw [e5]
      show (H.setIfInBounds (ad X b) cN)[ad X b]? = some (vp_cell (xA X 13) (hN h b, _))
      rw [hnew]
      simp [Array.getElem?_setIfInBounds, hlt]
    · intro q hq
      have e5 : hI (cpI h a b sp.toNatClampNeg dp.toNatClampNeg n.toNatClampNeg) q = hI h q := by
        funext j
        exact if_neg hq
      unfold ent
      rw [e5]
      rfl
  obtain ⟨t, a1, b1⟩ := kk (H.setIfInBounds (ad X b) cN) _ hcor ⟨by rw [hz]; exact hS.1, fun q g1 g2 => by
      rw [oq q (fun e => g2 (by rw [e]; exact ad_A ok2.1))]
      exact hS.2.1 q g1 g2, fun q hq => by
      rcases List.mem_append.mp hq with h | h
      · exact hS.2.2 q h
      · obtain ⟨z, -, hz⟩ := List.mem_map.mp h
        rw [← hz]
        exact ad_A ok2.1⟩ _ hheap X'
  exact ⟨t, step t a1, b1⟩
theorem e_copyL {sp dp n : Int32} (hd : At y.2.1 pc (.invokestatic ix) 3 pc') (w1 : .methodLink y.1.cls ix arraycopyName ∈ TT) (w2 : .native arraycopyName ∈ TT) (w3 : .static arraycopyName ∈ TT) (w4 : .initialized "java/lang/System" ∈ TT) (ok1 : Is h a 14) (ok2 : Is h b 14) (h1 : ¬ sp < 0) (h2 : ¬ dp < 0) (h3 : ¬ n < 0) (h4 : sp.toNatClampNeg + n.toNatClampNeg ≤ hN h a) (h5 : dp.toNatClampNeg + n.toNatClampNeg ≤ hN h b)
    (hdd : 1 ≤ d) (hcat : catL st ≤ 8) (k : Ev X y d mc ms Q cells slots pc' ls st (cpL h a b sp.toNatClampNeg dp.toNatClampNeg n.toNatClampNeg)) : Ev X y d mc ms Q cells slots pc ls (vI n :: vI dp :: vR (some b) :: vI sp :: vR (some a) :: st) h := by
  obtain ⟨hd, rfl⟩ := hd
  intro p e s m args below meth c H locs lsr C hC hS hl
  have kk := fun H1 locs1 hC1 hS1 => k p e s m args below meth c H1 locs1 lsr C hC1 hS1 hl
  obtain ⟨lv, hv, -⟩ := id hl
  obtain ⟨hx, hb, hmx, hret, hown, hts, hlk, hnm, hK, hP, hsz⟩ := C
  have he1 := wl_get (X := X) ok1.1 ok1.2.1
  have he2 := wl_get (X := X) ok2.1 ok2.2.1
  rw [ent_long ok1.2.2] at he1
  rw [ent_long ok2.2.2] at he2
  have hc1 : H[ad X a]? = some (vp_cell (xA X 14) (hN h a, .inr (.inl (hL h a)))) := hC.2.2 _ _ he1
  have hc2 : H[ad X b]? = some (vp_cell (xA X 14) (hN h b, .inr (.inl (hL h b)))) := hC.2.2 _ _ he2
  obtain ⟨-, k1, hk1, cm1, hkk1⟩ := (hK.1.2 3 _ rfl).1 0 (fun _ => .null)
  have hk1 : s.vm.classes[xA X 14]? = some k1 := hk1
  have hkk1 : k1.kind = .array cm1 .long := hkk1
  intro T hT X0
  obtain ⟨vm', X', step⟩ := X0.arraycopy hx hown (hts _ w1) (hts _ w2) (hts _ w3) (hts _ w4) (src := ad X a) (dst := ad X b) (cs := vp_cell (xA X 14) (hN h a, .inr (.inl (hL h a)))) (cd := vp_cell (xA X 14) (hN h b, .inr (.inl (hL h b)))) (srcPos := sp) (destPos := dp) (n := n) (by rw [hT]; exact hc1) (by rw [hT]; exact hc2)
    (fun _ h => by cases h) (fun _ h => by cases h) (fun h => by cases h) (fun h => by cases h) hk1 hk1 hkk1 hkk1 (by simp [refKind]) h1 h2 h3
    (by rw [nn_int h1, nn_int h3]; show ¬ _ > ((arrV _ _ (fun j => .long (hL h a j))).slots.size : Int); rw [arrV_size]; omega)
    (by rw [nn_int h2, nn_int h3]; show ¬ _ > ((arrV _ _ (fun j => .long (hL h b j))).slots.size : Int); rw [arrV_size]; omega)
    (fun vm₁ _ i hi => by
      have e9 : (vp_cell (xA X 14) (hN h a, .inr (.inl (hL h a)))).slots.getD (sp.toNatClampNeg + i) .null = .long (hL h a (sp.toNatClampNeg + i)) := by
        show (arrV _ _ (fun j => .long (hL h a j))).slots.getD _ _ = _
        rw [Array.getD_eq_getD_getElem?, arrV_read _ _ (by omega)]
        rfl
      refine ⟨?_, ?_⟩
      · rw [e9]; rfl
      · rw [e9]; exact trivial)
    (g := F0 m pc lsr (.int n :: .int dp :: .ref (ad X b) :: .int sp :: .ref (ad X a) :: st.map (cv X))) rfl (by rw [hmx]; exact hv.1) (rest := st.map (cv X)) rfl (by rw [hb]; exact hd) hdd
    (by rw [catL_eq]; have hnf : nativeFrameWords "java/lang/System" "arraycopy" 5 ≤ 20 := by decide
        show 2 * 0 + catL st + (nativeFrameWords "java/lang/System" "arraycopy" 5 + 11) ≤ 40 * d; omega)
  have e1 : copied (vp_cell (xA X 14) (hN h a, .inr (.inl (hL h a)))) (vp_cell (xA X 14) (hN h b, .inr (.inl (hL h b)))) sp dp n = vp_cell (xA X 14) (hN h b, .inr (.inl (va_cpy (hL h a) (hL h b) sp.toNatClampNeg dp.toNatClampNeg n.toNatClampNeg))) := va_copied (fun z => .long z) _ _ (hL h a) (hL h b) h4
  rw [e1] at X' step
  have hlt : ad X b < H.size := (Array.getElem?_eq_some_iff.mp hc2).1
  generalize hnew : vp_cell (xA X 14) (hN h b, .inr (.inl (va_cpy (hL h a) (hL h b) sp.toNatClampNeg dp.toNatClampNeg n.toNatClampNeg))) = cN at X' step
  have hheap : ((T.setVm vm').setCell (ad X b) cN).heap = H.setIfInBounds (ad X b) cN := by rw [← hT]; rfl
  have oq : ∀ q : Nat, q ≠ ad X b → (H.setIfInBounds (ad X b) cN)[q]? = H[q]? := fun q hq => by simp [Array.getElem?_setIfInBounds, Ne.symm hq]
  have hz : (H.setIfInBounds (ad X b) cN).size = H.size := by simp
  have hcor : CorH X (cpL h a b sp.toNatClampNeg dp.toNatClampNeg n.toNatClampNeg) (H.setIfInBounds (ad X b) cN) := by
    refine corH_set (a := b) hC ok2.1 ok2.2.1 rfl ?_ ?_ hz oq
    · have ok' : (cpL h a b sp.toNatClampNeg dp.toNatClampNeg n.toNatClampNeg).2.2.2.1 b = 14 := ok2.2.2
      rw [ent_long ok']
      have e5 : hL (cpL h a b sp.toNatClampNeg dp.toNatClampNeg n.toNatClampNeg) b = va_cpy (hL h a) (hL h b) sp.toNatClampNeg dp.toNatClampNeg n.toNatClampNeg := by
        funext j
        exact if_pos rfl
      rw [e5]
      show (H.setIfInBounds (ad X b) cN)[ad X b]? = some (vp_cell (xA X 14) (hN h b, _))
      rw [hnew]
      simp [Array.getElem?_setIfInBounds, hlt]
    · intro q hq
      have e5 : hL (cpL h a b sp.toNatClampNeg dp.toNatClampNeg n.toNatClampNeg) q = hL h q := by
        funext j
        exact if_neg hq
      unfold ent
      rw [e5]
      rfl
  obtain ⟨t, a1, b1⟩ := kk (H.setIfInBounds (ad X b) cN) _ hcor ⟨by rw [hz]; exact hS.1, fun q g1 g2 => by
      rw [oq q (fun e => g2 (by rw [e]; exact ad_A ok2.1))]
      exact hS.2.1 q g1 g2, fun q hq => by
      rcases List.mem_append.mp hq with h | h
      · exact hS.2.2 q h
      · obtain ⟨z, -, hz⟩ := List.mem_map.mp h
        rw [← hz]
        exact ad_A ok2.1⟩ _ hheap X'
  exact ⟨t, step t a1, b1⟩
end R10
end
