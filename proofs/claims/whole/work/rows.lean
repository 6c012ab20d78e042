section
-- ===== PART A: goes FIRST, ahead of the names: the tables' words, and 'selects' of the private methods out of them =====
/-- a private method of a class that the tables say can be made, by its rows of tables_1 -/
def lw_okq (q : MethodName × Nat) : Prop := (q.1.cls ≠ "java/lang/invoke/MethodHandle" ∧ q.1.cls ≠ "java/lang/invoke/VarHandle") ∧ Cond.instantiable q.1.cls q.2 ∈ tables_1 ∧ Cond.privateMethod q.1 ∈ tables_1 ∧ Cond.instanceMethod q.1 ∈ tables_1
theorem lw_p0 : lw_okq (⟨"java/lang/Throwable", "fillInStackTrace", "(I)Ljava/lang/Throwable;"⟩, 6) := ⟨⟨by decide +kernel, by decide +kernel⟩, List.mem_of_getElem? (i := 166) (by decide +kernel), List.mem_of_getElem? (i := 164) (by decide +kernel), List.mem_of_getElem? (i := 165) (by decide +kernel)⟩
theorem lw_p1 : lw_okq (⟨"java/util/ArrayList", "add", "(Ljava/lang/Object;[Ljava/lang/Object;I)V"⟩, 3) := ⟨⟨by decide +kernel, by decide +kernel⟩, List.mem_of_getElem? (i := 42) (by decide +kernel), List.mem_of_getElem? (i := 249) (by decide +kernel), List.mem_of_getElem? (i := 250) (by decide +kernel)⟩
theorem lw_p2 : lw_okq (⟨"java/util/ArrayList", "grow", "()[Ljava/lang/Object;"⟩, 3) := ⟨⟨by decide +kernel, by decide +kernel⟩, List.mem_of_getElem? (i := 42) (by decide +kernel), List.mem_of_getElem? (i := 253) (by decide +kernel), List.mem_of_getElem? (i := 254) (by decide +kernel)⟩
theorem lw_p3 : lw_okq (⟨"java/util/ArrayList", "grow", "(I)[Ljava/lang/Object;"⟩, 3) := ⟨⟨by decide +kernel, by decide +kernel⟩, List.mem_of_getElem? (i := 42) (by decide +kernel), List.mem_of_getElem? (i := 257) (by decide +kernel), List.mem_of_getElem? (i := 258) (by decide +kernel)⟩
theorem lw_p4 : lw_okq (⟨"DeedProtocol", "personAt", "(I)LDeedProtocol$Person;"⟩, 8) := ⟨⟨by decide +kernel, by decide +kernel⟩, List.mem_of_getElem? (i := 34) (by decide +kernel), List.mem_of_getElem? (i := 315) (by decide +kernel), List.mem_of_getElem? (i := 316) (by decide +kernel)⟩
theorem lw_p5 : lw_okq (⟨"DeedProtocol$Person", "parentCount", "()I"⟩, 7) := ⟨⟨by decide +kernel, by decide +kernel⟩, List.mem_of_getElem? (i := 212) (by decide +kernel), List.mem_of_getElem? (i := 350) (by decide +kernel), List.mem_of_getElem? (i := 351) (by decide +kernel)⟩
theorem lw_p6 : lw_okq (⟨"DeedProtocol$Person", "isChildOf", "(LDeedProtocol$Person;)Z"⟩, 7) := ⟨⟨by decide +kernel, by decide +kernel⟩, List.mem_of_getElem? (i := 212) (by decide +kernel), List.mem_of_getElem? (i := 360) (by decide +kernel), List.mem_of_getElem? (i := 361) (by decide +kernel)⟩
theorem lw_p7 : lw_okq (⟨"DeedProtocol$Person", "addParent", "(LDeedProtocol$Person;)V"⟩, 7) := ⟨⟨by decide +kernel, by decide +kernel⟩, List.mem_of_getElem? (i := 212) (by decide +kernel), List.mem_of_getElem? (i := 369) (by decide +kernel), List.mem_of_getElem? (i := 370) (by decide +kernel)⟩
theorem lw_p8 : lw_okq (⟨"DeedProtocol$Shares", "startWith", "(I)V"⟩, 2) := ⟨⟨by decide +kernel, by decide +kernel⟩, List.mem_of_getElem? (i := 68) (by decide +kernel), List.mem_of_getElem? (i := 399) (by decide +kernel), List.mem_of_getElem? (i := 400) (by decide +kernel)⟩
theorem lw_p9 : lw_okq (⟨"DeedProtocol$Person", "isAbleOn", "(I)Z"⟩, 7) := ⟨⟨by decide +kernel, by decide +kernel⟩, List.mem_of_getElem? (i := 212) (by decide +kernel), List.mem_of_getElem? (i := 427) (by decide +kernel), List.mem_of_getElem? (i := 428) (by decide +kernel)⟩
theorem lw_p10 : lw_okq (⟨"DeedProtocol", "thingAt", "(I)LDeedProtocol$Thing;"⟩, 8) := ⟨⟨by decide +kernel, by decide +kernel⟩, List.mem_of_getElem? (i := 34) (by decide +kernel), List.mem_of_getElem? (i := 438) (by decide +kernel), List.mem_of_getElem? (i := 439) (by decide +kernel)⟩
theorem lw_p11 : lw_okq (⟨"DeedProtocol", "refuseNewDeed", "(LDeedProtocol$Person;LDeedProtocol$Person;)V"⟩, 8) := ⟨⟨by decide +kernel, by decide +kernel⟩, List.mem_of_getElem? (i := 34) (by decide +kernel), List.mem_of_getElem? (i := 450) (by decide +kernel), List.mem_of_getElem? (i := 451) (by decide +kernel)⟩
theorem lw_p12 : lw_okq (⟨"DeedProtocol", "keepDeed", "(LDeedProtocol$Deed;)I"⟩, 8) := ⟨⟨by decide +kernel, by decide +kernel⟩, List.mem_of_getElem? (i := 34) (by decide +kernel), List.mem_of_getElem? (i := 536) (by decide +kernel), List.mem_of_getElem? (i := 537) (by decide +kernel)⟩
theorem lw_p13 : lw_okq (⟨"DeedProtocol", "deedAt", "(I)LDeedProtocol$Deed;"⟩, 8) := ⟨⟨by decide +kernel, by decide +kernel⟩, List.mem_of_getElem? (i := 34) (by decide +kernel), List.mem_of_getElem? (i := 590) (by decide +kernel), List.mem_of_getElem? (i := 591) (by decide +kernel)⟩
theorem lw_p14 : lw_okq (⟨"DeedProtocol$Deed", "isClosed", "()Z"⟩, 15) := ⟨⟨by decide +kernel, by decide +kernel⟩, List.mem_of_getElem? (i := 455) (by decide +kernel), List.mem_of_getElem? (i := 598) (by decide +kernel), List.mem_of_getElem? (i := 599) (by decide +kernel)⟩
theorem lw_p15 : lw_okq (⟨"DeedProtocol$Deed", "hasAll", "(I)Z"⟩, 15) := ⟨⟨by decide +kernel, by decide +kernel⟩, List.mem_of_getElem? (i := 455) (by decide +kernel), List.mem_of_getElem? (i := 602) (by decide +kernel), List.mem_of_getElem? (i := 603) (by decide +kernel)⟩
def lw_privs_1 : List (MethodName × Nat) := [(⟨"java/lang/Throwable", "fillInStackTrace", "(I)Ljava/lang/Throwable;"⟩, 6), (⟨"java/util/ArrayList", "add", "(Ljava/lang/Object;[Ljava/lang/Object;I)V"⟩, 3), (⟨"java/util/ArrayList", "grow", "()[Ljava/lang/Object;"⟩, 3), (⟨"java/util/ArrayList", "grow", "(I)[Ljava/lang/Object;"⟩, 3), (⟨"DeedProtocol", "personAt", "(I)LDeedProtocol$Person;"⟩, 8), (⟨"DeedProtocol$Person", "parentCount", "()I"⟩, 7), (⟨"DeedProtocol$Person", "isChildOf", "(LDeedProtocol$Person;)Z"⟩, 7), (⟨"DeedProtocol$Person", "addParent", "(LDeedProtocol$Person;)V"⟩, 7), (⟨"DeedProtocol$Shares", "startWith", "(I)V"⟩, 2), (⟨"DeedProtocol$Person", "isAbleOn", "(I)Z"⟩, 7), (⟨"DeedProtocol", "thingAt", "(I)LDeedProtocol$Thing;"⟩, 8), (⟨"DeedProtocol", "refuseNewDeed", "(LDeedProtocol$Person;LDeedProtocol$Person;)V"⟩, 8), (⟨"DeedProtocol", "keepDeed", "(LDeedProtocol$Deed;)I"⟩, 8), (⟨"DeedProtocol", "deedAt", "(I)LDeedProtocol$Deed;"⟩, 8), (⟨"DeedProtocol$Deed", "isClosed", "()Z"⟩, 15), (⟨"DeedProtocol$Deed", "hasAll", "(I)Z"⟩, 15)]
theorem lw_r1 : ∀ q ∈ lw_privs_1, lw_okq q := List.forall_mem_cons.mpr ⟨lw_p0, List.forall_mem_cons.mpr ⟨lw_p1, List.forall_mem_cons.mpr ⟨lw_p2, List.forall_mem_cons.mpr ⟨lw_p3, List.forall_mem_cons.mpr ⟨lw_p4, List.forall_mem_cons.mpr ⟨lw_p5, List.forall_mem_cons.mpr ⟨lw_p6, List.forall_mem_cons.mpr ⟨lw_p7, List.forall_mem_cons.mpr ⟨lw_p8, List.forall_mem_cons.mpr ⟨lw_p9, List.forall_mem_cons.mpr ⟨lw_p10, List.forall_mem_cons.mpr ⟨lw_p11, List.forall_mem_cons.mpr ⟨lw_p12, List.forall_mem_cons.mpr ⟨lw_p13, List.forall_mem_cons.mpr ⟨lw_p14, List.forall_mem_cons.mpr ⟨lw_p15, fun _ h => absurd h List.not_mem_nil⟩⟩⟩⟩⟩⟩⟩⟩⟩⟩⟩⟩⟩⟩⟩⟩
theorem lw_p16 : lw_okq (⟨"DeedProtocol", "signsWithoutPower", "(LDeedProtocol$Deed;LDeedProtocol$Person;Z)Z"⟩, 8) := ⟨⟨by decide +kernel, by decide +kernel⟩, List.mem_of_getElem? (i := 34) (by decide +kernel), List.mem_of_getElem? (i := 607) (by decide +kernel), List.mem_of_getElem? (i := 608) (by decide +kernel)⟩
theorem lw_p17 : lw_okq (⟨"DeedProtocol$Deed", "side", "(Z)LDeedProtocol$Person;"⟩, 15) := ⟨⟨by decide +kernel, by decide +kernel⟩, List.mem_of_getElem? (i := 455) (by decide +kernel), List.mem_of_getElem? (i := 611) (by decide +kernel), List.mem_of_getElem? (i := 612) (by decide +kernel)⟩
theorem lw_p18 : lw_okq (⟨"DeedProtocol", "signsAsGuardian", "(LDeedProtocol$Deed;LDeedProtocol$Person;Z)Z"⟩, 8) := ⟨⟨by decide +kernel, by decide +kernel⟩, List.mem_of_getElem? (i := 34) (by decide +kernel), List.mem_of_getElem? (i := 615) (by decide +kernel), List.mem_of_getElem? (i := 616) (by decide +kernel)⟩
theorem lw_p19 : lw_okq (⟨"DeedProtocol", "signsByPower", "(LDeedProtocol$Deed;LDeedProtocol$Person;ZLDeedProtocol$Deed;)Z"⟩, 8) := ⟨⟨by decide +kernel, by decide +kernel⟩, List.mem_of_getElem? (i := 34) (by decide +kernel), List.mem_of_getElem? (i := 619) (by decide +kernel), List.mem_of_getElem? (i := 620) (by decide +kernel)⟩
theorem lw_p20 : lw_okq (⟨"DeedProtocol", "isGoodPower", "(LDeedProtocol$Deed;)Z"⟩, 8) := ⟨⟨by decide +kernel, by decide +kernel⟩, List.mem_of_getElem? (i := 34) (by decide +kernel), List.mem_of_getElem? (i := 623) (by decide +kernel), List.mem_of_getElem? (i := 624) (by decide +kernel)⟩
theorem lw_p21 : lw_okq (⟨"DeedProtocol", "isGoodByItself", "(LDeedProtocol$Deed;LDeedProtocol$Mandate;)Z"⟩, 8) := ⟨⟨by decide +kernel, by decide +kernel⟩, List.mem_of_getElem? (i := 34) (by decide +kernel), List.mem_of_getElem? (i := 627) (by decide +kernel), List.mem_of_getElem? (i := 628) (by decide +kernel)⟩
theorem lw_p22 : lw_okq (⟨"DeedProtocol$Deed", "hasWitness", "(LDeedProtocol$Person;)Z"⟩, 15) := ⟨⟨by decide +kernel, by decide +kernel⟩, List.mem_of_getElem? (i := 455) (by decide +kernel), List.mem_of_getElem? (i := 648) (by decide +kernel), List.mem_of_getElem? (i := 649) (by decide +kernel)⟩
theorem lw_p23 : lw_okq (⟨"DeedProtocol", "canWitness", "(LDeedProtocol$Deed;LDeedProtocol$Person;)Z"⟩, 8) := ⟨⟨by decide +kernel, by decide +kernel⟩, List.mem_of_getElem? (i := 34) (by decide +kernel), List.mem_of_getElem? (i := 653) (by decide +kernel), List.mem_of_getElem? (i := 654) (by decide +kernel)⟩
theorem lw_p24 : lw_okq (⟨"DeedProtocol$Deed", "addWitness", "(LDeedProtocol$Person;)V"⟩, 15) := ⟨⟨by decide +kernel, by decide +kernel⟩, List.mem_of_getElem? (i := 455) (by decide +kernel), List.mem_of_getElem? (i := 661) (by decide +kernel), List.mem_of_getElem? (i := 662) (by decide +kernel)⟩
theorem lw_p25 : lw_okq (⟨"DeedProtocol$Papers", "append", "(I)V"⟩, 2) := ⟨⟨by decide +kernel, by decide +kernel⟩, List.mem_of_getElem? (i := 461) (by decide +kernel), List.mem_of_getElem? (i := 680) (by decide +kernel), List.mem_of_getElem? (i := 681) (by decide +kernel)⟩
theorem lw_p26 : lw_okq (⟨"DeedProtocol$Papers", "leastGrade", "()I"⟩, 2) := ⟨⟨by decide +kernel, by decide +kernel⟩, List.mem_of_getElem? (i := 461) (by decide +kernel), List.mem_of_getElem? (i := 890) (by decide +kernel), List.mem_of_getElem? (i := 891) (by decide +kernel)⟩
theorem lw_p27 : lw_okq (⟨"DeedProtocol$Papers", "dropFirst", "()V"⟩, 2) := ⟨⟨by decide +kernel, by decide +kernel⟩, List.mem_of_getElem? (i := 461) (by decide +kernel), List.mem_of_getElem? (i := 902) (by decide +kernel), List.mem_of_getElem? (i := 903) (by decide +kernel)⟩
theorem lw_p28 : lw_okq (⟨"DeedProtocol$Shares", "has", "(III)Z"⟩, 2) := ⟨⟨by decide +kernel, by decide +kernel⟩, List.mem_of_getElem? (i := 68) (by decide +kernel), List.mem_of_getElem? (i := 954) (by decide +kernel), List.mem_of_getElem? (i := 955) (by decide +kernel)⟩
theorem lw_p29 : lw_okq (⟨"DeedProtocol", "leavesSmallShares", "(LDeedProtocol$Thing;LDeedProtocol$Move;)Z"⟩, 8) := ⟨⟨by decide +kernel, by decide +kernel⟩, List.mem_of_getElem? (i := 34) (by decide +kernel), List.mem_of_getElem? (i := 961) (by decide +kernel), List.mem_of_getElem? (i := 962) (by decide +kernel)⟩
theorem lw_p30 : lw_okq (⟨"DeedProtocol$Shares", "copyFrom", "(LDeedProtocol$Shares;)V"⟩, 2) := ⟨⟨by decide +kernel, by decide +kernel⟩, List.mem_of_getElem? (i := 68) (by decide +kernel), List.mem_of_getElem? (i := 965) (by decide +kernel), List.mem_of_getElem? (i := 966) (by decide +kernel)⟩
theorem lw_p31 : lw_okq (⟨"DeedProtocol$Shares", "carryOut", "(LDeedProtocol$Move;)V"⟩, 2) := ⟨⟨by decide +kernel, by decide +kernel⟩, List.mem_of_getElem? (i := 68) (by decide +kernel), List.mem_of_getElem? (i := 969) (by decide +kernel), List.mem_of_getElem? (i := 970) (by decide +kernel)⟩
def lw_privs_2 : List (MethodName × Nat) := [(⟨"DeedProtocol", "signsWithoutPower", "(LDeedProtocol$Deed;LDeedProtocol$Person;Z)Z"⟩, 8), (⟨"DeedProtocol$Deed", "side", "(Z)LDeedProtocol$Person;"⟩, 15), (⟨"DeedProtocol", "signsAsGuardian", "(LDeedProtocol$Deed;LDeedProtocol$Person;Z)Z"⟩, 8), (⟨"DeedProtocol", "signsByPower", "(LDeedProtocol$Deed;LDeedProtocol$Person;ZLDeedProtocol$Deed;)Z"⟩, 8), (⟨"DeedProtocol", "isGoodPower", "(LDeedProtocol$Deed;)Z"⟩, 8), (⟨"DeedProtocol", "isGoodByItself", "(LDeedProtocol$Deed;LDeedProtocol$Mandate;)Z"⟩, 8), (⟨"DeedProtocol$Deed", "hasWitness", "(LDeedProtocol$Person;)Z"⟩, 15), (⟨"DeedProtocol", "canWitness", "(LDeedProtocol$Deed;LDeedProtocol$Person;)Z"⟩, 8), (⟨"DeedProtocol$Deed", "addWitness", "(LDeedProtocol$Person;)V"⟩, 15), (⟨"DeedProtocol$Papers", "append", "(I)V"⟩, 2), (⟨"DeedProtocol$Papers", "leastGrade", "()I"⟩, 2), (⟨"DeedProtocol$Papers", "dropFirst", "()V"⟩, 2), (⟨"DeedProtocol$Shares", "has", "(III)Z"⟩, 2), (⟨"DeedProtocol", "leavesSmallShares", "(LDeedProtocol$Thing;LDeedProtocol$Move;)Z"⟩, 8), (⟨"DeedProtocol$Shares", "copyFrom", "(LDeedProtocol$Shares;)V"⟩, 2), (⟨"DeedProtocol$Shares", "carryOut", "(LDeedProtocol$Move;)V"⟩, 2)]
theorem lw_r2 : ∀ q ∈ lw_privs_2, lw_okq q := List.forall_mem_cons.mpr ⟨lw_p16, List.forall_mem_cons.mpr ⟨lw_p17, List.forall_mem_cons.mpr ⟨lw_p18, List.forall_mem_cons.mpr ⟨lw_p19, List.forall_mem_cons.mpr ⟨lw_p20, List.forall_mem_cons.mpr ⟨lw_p21, List.forall_mem_cons.mpr ⟨lw_p22, List.forall_mem_cons.mpr ⟨lw_p23, List.forall_mem_cons.mpr ⟨lw_p24, List.forall_mem_cons.mpr ⟨lw_p25, List.forall_mem_cons.mpr ⟨lw_p26, List.forall_mem_cons.mpr ⟨lw_p27, List.forall_mem_cons.mpr ⟨lw_p28, List.forall_mem_cons.mpr ⟨lw_p29, List.forall_mem_cons.mpr ⟨lw_p30, List.forall_mem_cons.mpr ⟨lw_p31, fun _ h => absurd h List.not_mem_nil⟩⟩⟩⟩⟩⟩⟩⟩⟩⟩⟩⟩⟩⟩⟩⟩
theorem lw_p32 : lw_okq (⟨"DeedProtocol$Shares", "change", "(IJJ)V"⟩, 2) := ⟨⟨by decide +kernel, by decide +kernel⟩, List.mem_of_getElem? (i := 68) (by decide +kernel), List.mem_of_getElem? (i := 973) (by decide +kernel), List.mem_of_getElem? (i := 974) (by decide +kernel)⟩
theorem lw_p33 : lw_okq (⟨"DeedProtocol$Shares", "bequeath", "(LDeedProtocol$Move;JJ)V"⟩, 2) := ⟨⟨by decide +kernel, by decide +kernel⟩, List.mem_of_getElem? (i := 68) (by decide +kernel), List.mem_of_getElem? (i := 980) (by decide +kernel), List.mem_of_getElem? (i := 981) (by decide +kernel)⟩
theorem lw_p34 : lw_okq (⟨"DeedProtocol$Shares", "areSmall", "()Z"⟩, 2) := ⟨⟨by decide +kernel, by decide +kernel⟩, List.mem_of_getElem? (i := 68) (by decide +kernel), List.mem_of_getElem? (i := 985) (by decide +kernel), List.mem_of_getElem? (i := 986) (by decide +kernel)⟩
theorem lw_p35 : lw_okq (⟨"DeedProtocol", "keepEntry", "(LDeedProtocol$Entry;)V"⟩, 8) := ⟨⟨by decide +kernel, by decide +kernel⟩, List.mem_of_getElem? (i := 34) (by decide +kernel), List.mem_of_getElem? (i := 1023) (by decide +kernel), List.mem_of_getElem? (i := 1024) (by decide +kernel)⟩
theorem lw_p36 : lw_okq (⟨"DeedProtocol", "successionOf", "(LDeedProtocol$Person;)LDeedProtocol$Move;"⟩, 8) := ⟨⟨by decide +kernel, by decide +kernel⟩, List.mem_of_getElem? (i := 34) (by decide +kernel), List.mem_of_getElem? (i := 1035) (by decide +kernel), List.mem_of_getElem? (i := 1036) (by decide +kernel)⟩
theorem lw_p37 : lw_okq (⟨"DeedProtocol", "livingChildren", "(LDeedProtocol$Person;)I"⟩, 8) := ⟨⟨by decide +kernel, by decide +kernel⟩, List.mem_of_getElem? (i := 34) (by decide +kernel), List.mem_of_getElem? (i := 1039) (by decide +kernel), List.mem_of_getElem? (i := 1040) (by decide +kernel)⟩
theorem lw_p38 : lw_okq (⟨"DeedProtocol", "countingWill", "(LDeedProtocol$Person;)LDeedProtocol$Deed;"⟩, 8) := ⟨⟨by decide +kernel, by decide +kernel⟩, List.mem_of_getElem? (i := 34) (by decide +kernel), List.mem_of_getElem? (i := 1043) (by decide +kernel), List.mem_of_getElem? (i := 1044) (by decide +kernel)⟩
theorem lw_p39 : lw_okq (⟨"DeedProtocol", "heirsOf", "(LDeedProtocol$Person;I)I"⟩, 8) := ⟨⟨by decide +kernel, by decide +kernel⟩, List.mem_of_getElem? (i := 34) (by decide +kernel), List.mem_of_getElem? (i := 1053) (by decide +kernel), List.mem_of_getElem? (i := 1054) (by decide +kernel)⟩
theorem lw_p40 : lw_okq (⟨"DeedProtocol", "livingParents", "(LDeedProtocol$Person;)I"⟩, 8) := ⟨⟨by decide +kernel, by decide +kernel⟩, List.mem_of_getElem? (i := 34) (by decide +kernel), List.mem_of_getElem? (i := 1057) (by decide +kernel), List.mem_of_getElem? (i := 1058) (by decide +kernel)⟩
theorem lw_p41 : lw_okq (⟨"DeedProtocol", "countEstateThings", "(LDeedProtocol$Person;LDeedProtocol$Move;)I"⟩, 8) := ⟨⟨by decide +kernel, by decide +kernel⟩, List.mem_of_getElem? (i := 34) (by decide +kernel), List.mem_of_getElem? (i := 1061) (by decide +kernel), List.mem_of_getElem? (i := 1062) (by decide +kernel)⟩
theorem lw_p42 : lw_okq (⟨"DeedProtocol$Shares", "isEmptyOf", "(I)Z"⟩, 2) := ⟨⟨by decide +kernel, by decide +kernel⟩, List.mem_of_getElem? (i := 68) (by decide +kernel), List.mem_of_getElem? (i := 1065) (by decide +kernel), List.mem_of_getElem? (i := 1066) (by decide +kernel)⟩
theorem lw_p43 : lw_okq (⟨"DeedProtocol", "endGuardianships", "(LDeedProtocol$Person;)V"⟩, 8) := ⟨⟨by decide +kernel, by decide +kernel⟩, List.mem_of_getElem? (i := 34) (by decide +kernel), List.mem_of_getElem? (i := 1071) (by decide +kernel), List.mem_of_getElem? (i := 1072) (by decide +kernel)⟩
theorem lw_p44 : lw_okq (⟨"DeedProtocol", "holderAt", "(I)I"⟩, 8) := ⟨⟨by decide +kernel, by decide +kernel⟩, List.mem_of_getElem? (i := 34) (by decide +kernel), List.mem_of_getElem? (i := 1106) (by decide +kernel), List.mem_of_getElem? (i := 1107) (by decide +kernel)⟩
theorem lw_p45 : lw_okq (⟨"DeedProtocol$Shares", "termOf", "(IZ)I"⟩, 2) := ⟨⟨by decide +kernel, by decide +kernel⟩, List.mem_of_getElem? (i := 68) (by decide +kernel), List.mem_of_getElem? (i := 1110) (by decide +kernel), List.mem_of_getElem? (i := 1111) (by decide +kernel)⟩
theorem lw_p46 : lw_okq (⟨"DeedProtocolModel", "isPerson", "(I)Z"⟩, 43) := ⟨⟨by decide +kernel, by decide +kernel⟩, List.mem_of_getElem? (i := 1130) (by decide +kernel), List.mem_of_getElem? (i := 1282) (by decide +kernel), List.mem_of_getElem? (i := 1283) (by decide +kernel)⟩
theorem lw_p47 : lw_okq (⟨"DeedProtocolModel", "isChild", "(II)Z"⟩, 43) := ⟨⟨by decide +kernel, by decide +kernel⟩, List.mem_of_getElem? (i := 1130) (by decide +kernel), List.mem_of_getElem? (i := 1286) (by decide +kernel), List.mem_of_getElem? (i := 1287) (by decide +kernel)⟩
def lw_privs_3 : List (MethodName × Nat) := [(⟨"DeedProtocol$Shares", "change", "(IJJ)V"⟩, 2), (⟨"DeedProtocol$Shares", "bequeath", "(LDeedProtocol$Move;JJ)V"⟩, 2), (⟨"DeedProtocol$Shares", "areSmall", "()Z"⟩, 2), (⟨"DeedProtocol", "keepEntry", "(LDeedProtocol$Entry;)V"⟩, 8), (⟨"DeedProtocol", "successionOf", "(LDeedProtocol$Person;)LDeedProtocol$Move;"⟩, 8), (⟨"DeedProtocol", "livingChildren", "(LDeedProtocol$Person;)I"⟩, 8), (⟨"DeedProtocol", "countingWill", "(LDeedProtocol$Person;)LDeedProtocol$Deed;"⟩, 8), (⟨"DeedProtocol", "heirsOf", "(LDeedProtocol$Person;I)I"⟩, 8), (⟨"DeedProtocol", "livingParents", "(LDeedProtocol$Person;)I"⟩, 8), (⟨"DeedProtocol", "countEstateThings", "(LDeedProtocol$Person;LDeedProtocol$Move;)I"⟩, 8), (⟨"DeedProtocol$Shares", "isEmptyOf", "(I)Z"⟩, 2), (⟨"DeedProtocol", "endGuardianships", "(LDeedProtocol$Person;)V"⟩, 8), (⟨"DeedProtocol", "holderAt", "(I)I"⟩, 8), (⟨"DeedProtocol$Shares", "termOf", "(IZ)I"⟩, 2), (⟨"DeedProtocolModel", "isPerson", "(I)Z"⟩, 43), (⟨"DeedProtocolModel", "isChild", "(II)Z"⟩, 43)]
theorem lw_r3 : ∀ q ∈ lw_privs_3, lw_okq q := List.forall_mem_cons.mpr ⟨lw_p32, List.forall_mem_cons.mpr ⟨lw_p33, List.forall_mem_cons.mpr ⟨lw_p34, List.forall_mem_cons.mpr ⟨lw_p35, List.forall_mem_cons.mpr ⟨lw_p36, List.forall_mem_cons.mpr ⟨lw_p37, List.forall_mem_cons.mpr ⟨lw_p38, List.forall_mem_cons.mpr ⟨lw_p39, List.forall_mem_cons.mpr ⟨lw_p40, List.forall_mem_cons.mpr ⟨lw_p41, List.forall_mem_cons.mpr ⟨lw_p42, List.forall_mem_cons.mpr ⟨lw_p43, List.forall_mem_cons.mpr ⟨lw_p44, List.forall_mem_cons.mpr ⟨lw_p45, List.forall_mem_cons.mpr ⟨lw_p46, List.forall_mem_cons.mpr ⟨lw_p47, fun _ h => absurd h List.not_mem_nil⟩⟩⟩⟩⟩⟩⟩⟩⟩⟩⟩⟩⟩⟩⟩⟩
theorem lw_p48 : lw_okq (⟨"DeedProtocolModel", "able", "(I)Z"⟩, 43) := ⟨⟨by decide +kernel, by decide +kernel⟩, List.mem_of_getElem? (i := 1130) (by decide +kernel), List.mem_of_getElem? (i := 1303) (by decide +kernel), List.mem_of_getElem? (i := 1304) (by decide +kernel)⟩
theorem lw_p49 : lw_okq (⟨"DeedProtocolModel", "isThing", "(I)Z"⟩, 43) := ⟨⟨by decide +kernel, by decide +kernel⟩, List.mem_of_getElem? (i := 1130) (by decide +kernel), List.mem_of_getElem? (i := 1311) (by decide +kernel), List.mem_of_getElem? (i := 1312) (by decide +kernel)⟩
theorem lw_p50 : lw_okq (⟨"DeedProtocolModel", "hasRoom", "(II)Z"⟩, 43) := ⟨⟨by decide +kernel, by decide +kernel⟩, List.mem_of_getElem? (i := 1130) (by decide +kernel), List.mem_of_getElem? (i := 1315) (by decide +kernel), List.mem_of_getElem? (i := 1316) (by decide +kernel)⟩
theorem lw_p51 : lw_okq (⟨"DeedProtocolModel", "drafts", "(III)I"⟩, 43) := ⟨⟨by decide +kernel, by decide +kernel⟩, List.mem_of_getElem? (i := 1130) (by decide +kernel), List.mem_of_getElem? (i := 1319) (by decide +kernel), List.mem_of_getElem? (i := 1320) (by decide +kernel)⟩
theorem lw_p52 : lw_okq (⟨"DeedProtocolModel", "isDeed", "(I)Z"⟩, 43) := ⟨⟨by decide +kernel, by decide +kernel⟩, List.mem_of_getElem? (i := 1130) (by decide +kernel), List.mem_of_getElem? (i := 1335) (by decide +kernel), List.mem_of_getElem? (i := 1336) (by decide +kernel)⟩
theorem lw_p53 : lw_okq (⟨"DeedProtocolModel", "isGuardian", "(II)Z"⟩, 43) := ⟨⟨by decide +kernel, by decide +kernel⟩, List.mem_of_getElem? (i := 1130) (by decide +kernel), List.mem_of_getElem? (i := 1339) (by decide +kernel), List.mem_of_getElem? (i := 1340) (by decide +kernel)⟩
theorem lw_p54 : lw_okq (⟨"DeedProtocolModel", "signsBy", "(IIII)Z"⟩, 43) := ⟨⟨by decide +kernel, by decide +kernel⟩, List.mem_of_getElem? (i := 1130) (by decide +kernel), List.mem_of_getElem? (i := 1343) (by decide +kernel), List.mem_of_getElem? (i := 1344) (by decide +kernel)⟩
theorem lw_p55 : lw_okq (⟨"DeedProtocolModel", "good", "(I)Z"⟩, 43) := ⟨⟨by decide +kernel, by decide +kernel⟩, List.mem_of_getElem? (i := 1130) (by decide +kernel), List.mem_of_getElem? (i := 1347) (by decide +kernel), List.mem_of_getElem? (i := 1348) (by decide +kernel)⟩
theorem lw_p56 : lw_okq (⟨"DeedProtocolModel", "isGoodAlone", "(I)Z"⟩, 43) := ⟨⟨by decide +kernel, by decide +kernel⟩, List.mem_of_getElem? (i := 1130) (by decide +kernel), List.mem_of_getElem? (i := 1351) (by decide +kernel), List.mem_of_getElem? (i := 1352) (by decide +kernel)⟩
theorem lw_p57 : lw_okq (⟨"DeedProtocolModel", "isKin", "(II)Z"⟩, 43) := ⟨⟨by decide +kernel, by decide +kernel⟩, List.mem_of_getElem? (i := 1130) (by decide +kernel), List.mem_of_getElem? (i := 1363) (by decide +kernel), List.mem_of_getElem? (i := 1364) (by decide +kernel)⟩
theorem lw_p58 : lw_okq (⟨"DeedProtocolModel", "isOfThing", "(I)Z"⟩, 43) := ⟨⟨by decide +kernel, by decide +kernel⟩, List.mem_of_getElem? (i := 1130) (by decide +kernel), List.mem_of_getElem? (i := 1371) (by decide +kernel), List.mem_of_getElem? (i := 1372) (by decide +kernel)⟩
theorem lw_p59 : lw_okq (⟨"DeedProtocolModel", "needs", "(I)I"⟩, 43) := ⟨⟨by decide +kernel, by decide +kernel⟩, List.mem_of_getElem? (i := 1130) (by decide +kernel), List.mem_of_getElem? (i := 1375) (by decide +kernel), List.mem_of_getElem? (i := 1376) (by decide +kernel)⟩
theorem lw_p60 : lw_okq (⟨"DeedProtocolModel", "least", "(I)I"⟩, 43) := ⟨⟨by decide +kernel, by decide +kernel⟩, List.mem_of_getElem? (i := 1130) (by decide +kernel), List.mem_of_getElem? (i := 1406) (by decide +kernel), List.mem_of_getElem? (i := 1407) (by decide +kernel)⟩
theorem lw_p61 : lw_okq (⟨"DeedProtocolModel", "canEnter", "(I)Z"⟩, 43) := ⟨⟨by decide +kernel, by decide +kernel⟩, List.mem_of_getElem? (i := 1130) (by decide +kernel), List.mem_of_getElem? (i := 1418) (by decide +kernel), List.mem_of_getElem? (i := 1419) (by decide +kernel)⟩
theorem lw_p62 : lw_okq (⟨"DeedProtocolModel", "laysNew", "()V"⟩, 43) := ⟨⟨by decide +kernel, by decide +kernel⟩, List.mem_of_getElem? (i := 1130) (by decide +kernel), List.mem_of_getElem? (i := 1422) (by decide +kernel), List.mem_of_getElem? (i := 1423) (by decide +kernel)⟩
theorem lw_p63 : lw_okq (⟨"DeedProtocolModel", "adds", "(IJJ)Z"⟩, 43) := ⟨⟨by decide +kernel, by decide +kernel⟩, List.mem_of_getElem? (i := 1130) (by decide +kernel), List.mem_of_getElem? (i := 1426) (by decide +kernel), List.mem_of_getElem? (i := 1427) (by decide +kernel)⟩
def lw_privs_4 : List (MethodName × Nat) := [(⟨"DeedProtocolModel", "able", "(I)Z"⟩, 43), (⟨"DeedProtocolModel", "isThing", "(I)Z"⟩, 43), (⟨"DeedProtocolModel", "hasRoom", "(II)Z"⟩, 43), (⟨"DeedProtocolModel", "drafts", "(III)I"⟩, 43), (⟨"DeedProtocolModel", "isDeed", "(I)Z"⟩, 43), (⟨"DeedProtocolModel", "isGuardian", "(II)Z"⟩, 43), (⟨"DeedProtocolModel", "signsBy", "(IIII)Z"⟩, 43), (⟨"DeedProtocolModel", "good", "(I)Z"⟩, 43), (⟨"DeedProtocolModel", "isGoodAlone", "(I)Z"⟩, 43), (⟨"DeedProtocolModel", "isKin", "(II)Z"⟩, 43), (⟨"DeedProtocolModel", "isOfThing", "(I)Z"⟩, 43), (⟨"DeedProtocolModel", "needs", "(I)I"⟩, 43), (⟨"DeedProtocolModel", "least", "(I)I"⟩, 43), (⟨"DeedProtocolModel", "canEnter", "(I)Z"⟩, 43), (⟨"DeedProtocolModel", "laysNew", "()V"⟩, 43), (⟨"DeedProtocolModel", "adds", "(IJJ)Z"⟩, 43)]
theorem lw_r4 : ∀ q ∈ lw_privs_4, lw_okq q := List.forall_mem_cons.mpr ⟨lw_p48, List.forall_mem_cons.mpr ⟨lw_p49, List.forall_mem_cons.mpr ⟨lw_p50, List.forall_mem_cons.mpr ⟨lw_p51, List.forall_mem_cons.mpr ⟨lw_p52, List.forall_mem_cons.mpr ⟨lw_p53, List.forall_mem_cons.mpr ⟨lw_p54, List.forall_mem_cons.mpr ⟨lw_p55, List.forall_mem_cons.mpr ⟨lw_p56, List.forall_mem_cons.mpr ⟨lw_p57, List.forall_mem_cons.mpr ⟨lw_p58, List.forall_mem_cons.mpr ⟨lw_p59, List.forall_mem_cons.mpr ⟨lw_p60, List.forall_mem_cons.mpr ⟨lw_p61, List.forall_mem_cons.mpr ⟨lw_p62, List.forall_mem_cons.mpr ⟨lw_p63, fun _ h => absurd h List.not_mem_nil⟩⟩⟩⟩⟩⟩⟩⟩⟩⟩⟩⟩⟩⟩⟩⟩
theorem lw_p64 : lw_okq (⟨"DeedProtocolModel", "takesNew", "()V"⟩, 43) := ⟨⟨by decide +kernel, by decide +kernel⟩, List.mem_of_getElem? (i := 1130) (by decide +kernel), List.mem_of_getElem? (i := 1434) (by decide +kernel), List.mem_of_getElem? (i := 1435) (by decide +kernel)⟩
theorem lw_p65 : lw_okq (⟨"DeedProtocolModel", "comes", "(III)I"⟩, 43) := ⟨⟨by decide +kernel, by decide +kernel⟩, List.mem_of_getElem? (i := 1130) (by decide +kernel), List.mem_of_getElem? (i := 1438) (by decide +kernel), List.mem_of_getElem? (i := 1439) (by decide +kernel)⟩
theorem lw_p66 : lw_okq (⟨"DeedProtocolModel", "leaves", "(II)Z"⟩, 43) := ⟨⟨by decide +kernel, by decide +kernel⟩, List.mem_of_getElem? (i := 1130) (by decide +kernel), List.mem_of_getElem? (i := 1446) (by decide +kernel), List.mem_of_getElem? (i := 1447) (by decide +kernel)⟩
theorem lw_p67 : lw_okq (⟨"DeedProtocolModel", "willOf", "(I)I"⟩, 43) := ⟨⟨by decide +kernel, by decide +kernel⟩, List.mem_of_getElem? (i := 1130) (by decide +kernel), List.mem_of_getElem? (i := 1450) (by decide +kernel), List.mem_of_getElem? (i := 1451) (by decide +kernel)⟩
theorem lw_p68 : lw_okq (⟨"DeedProtocolModel", "heirs", "(IZ)I"⟩, 43) := ⟨⟨by decide +kernel, by decide +kernel⟩, List.mem_of_getElem? (i := 1130) (by decide +kernel), List.mem_of_getElem? (i := 1454) (by decide +kernel), List.mem_of_getElem? (i := 1455) (by decide +kernel)⟩
theorem lw_p69 : lw_okq (⟨"DeedProtocolModel", "isHeir", "(IIZ)Z"⟩, 43) := ⟨⟨by decide +kernel, by decide +kernel⟩, List.mem_of_getElem? (i := 1130) (by decide +kernel), List.mem_of_getElem? (i := 1458) (by decide +kernel), List.mem_of_getElem? (i := 1459) (by decide +kernel)⟩
def lw_privs_5 : List (MethodName × Nat) := [(⟨"DeedProtocolModel", "takesNew", "()V"⟩, 43), (⟨"DeedProtocolModel", "comes", "(III)I"⟩, 43), (⟨"DeedProtocolModel", "leaves", "(II)Z"⟩, 43), (⟨"DeedProtocolModel", "willOf", "(I)I"⟩, 43), (⟨"DeedProtocolModel", "heirs", "(IZ)I"⟩, 43), (⟨"DeedProtocolModel", "isHeir", "(IIZ)Z"⟩, 43)]
theorem lw_r5 : ∀ q ∈ lw_privs_5, lw_okq q := List.forall_mem_cons.mpr ⟨lw_p64, List.forall_mem_cons.mpr ⟨lw_p65, List.forall_mem_cons.mpr ⟨lw_p66, List.forall_mem_cons.mpr ⟨lw_p67, List.forall_mem_cons.mpr ⟨lw_p68, List.forall_mem_cons.mpr ⟨lw_p69, fun _ h => absurd h List.not_mem_nil⟩⟩⟩⟩⟩⟩
def lw_privs : List (MethodName × Nat) := lw_privs_1 ++ (lw_privs_2 ++ (lw_privs_3 ++ (lw_privs_4 ++ (lw_privs_5))))
def lw_tbl : List Cond := k2_sels lw_privs ++ tables_1
theorem lw_privs_ok : ∀ q ∈ lw_privs, lw_okq q := by
  show ∀ q ∈ lw_privs_1 ++ (lw_privs_2 ++ (lw_privs_3 ++ (lw_privs_4 ++ (lw_privs_5)))), lw_okq q
  exact List.forall_mem_append.mpr ⟨lw_r1, List.forall_mem_append.mpr ⟨lw_r2, List.forall_mem_append.mpr ⟨lw_r3, List.forall_mem_append.mpr ⟨lw_r4, lw_r5⟩⟩⟩⟩
-- ===== end of PART A; then your names; then what follows =====
/-! ===== BEGIN words of one list among another's, by their places ===== -/
theorem goodIn_r {big : List Cond} (ws : List Cond) (ps : List Nat) (hp : ws = ps.filterMap (fun i => big[i]?)) (h : ws.all goodWord = true) : GoodIn big ws := by
  intro w hw
  have h1 := List.all_eq_true.mp h w hw
  rw [hp] at hw
  obtain ⟨i, -, hi⟩ := List.mem_filterMap.mp hw
  have hm : w ∈ big := by first | exact List.mem_of_getElem? hi | exact List.getElem?_mem hi
  exact ⟨hm, good_of_word h1⟩
theorem goodIn_app {big a b : List Cond} (ha : GoodIn big a) (hb : GoodIn big b) : GoodIn big (a ++ b) := fun w h => (List.mem_append.mp h).elim (ha w) (hb w)
theorem goodIn_ca {big a b : List Cond} {c : Cond} (ha : GoodIn big (c :: a)) (hb : GoodIn big b) : GoodIn big (c :: (a ++ b)) := fun w h => (List.mem_cons.mp h).elim (fun e => ha w (List.mem_cons.mpr (Or.inl e))) (fun h => (List.mem_append.mp h).elim (fun h => ha w (List.mem_cons.mpr (Or.inr h))) (hb w))
theorem goodIn_sub {big ws : List Cond} (hm : ∀ w ∈ ws, w ∈ big) (h : ws.all goodWord = true) : GoodIn big ws := fun w hw => ⟨hm w hw, good_of_word (List.all_eq_true.mp h w hw)⟩
/-! ===== END ===== -/

/-! ===== BEGIN exceptions that leave a method, and their catching by the caller (launches without stack traces) ===== -/
section VXA
/-! The laws vx_back, vx_callV, vx_callS, vx_callSW, vx_throw0, vx_throwS follow proofs of the library, with one case more: JvmDerived/Free/Laws.lean (Back.of_free), Shelf42/LK1.lean (callV, callS), Shelf/KitTraced.lean (throwNew0V, throwNewS). -/
/-- where a method has thrown q: the class by its name, the cell, what was written, the world -/
def vx_T (XC : String → State → State → Prop) (st : State) (q : Addr) (t : State) (mc ms : Nat) (free : Addr → Prop) : Prop :=
  ∃ (E : String) (ce : Cell) (L : List Loc), XC E st t ∧ t.heap[q]? = some ce ∧ ce.vm = .none ∧ st.vm.findClass E = some ce.cls ∧ st.WarmedH t.vm ∧ st.sameButNew ({ t with vm := st.vm } : State) L mc ms ∧ ∀ z ∈ L, free z.base
def vx_Q (Qc : Array Value → State → Outcome → State → Prop) (XC : String → State → State → Prop) (mc ms : Nat) (free : Addr → Prop) : Array Value → State → Outcome → State → Prop := fun a st o t =>
  (Qc a st o t ∧ ∃ L, FrameEnd st o t L mc ms ∧ ∀ q ∈ L, free q.base) ∨ ∃ q, o = .threw q ∧ vx_T XC st q t mc ms free
/-- a callee that returns or throws -/
def vx_Met (l : Launch) (y : MethodName) (ws : List Cond) (rm : Room) (Pc : Array Value → State → Prop) (Qc : Array Value → State → Outcome → State → Prop) (XC : String → State → State → Prop) (mc ms : Nat) (free : Addr → Prop) : Prop :=
  MetFree l y (headSpec ws rm) Pc (fun _ _ _ _ _ => True) (vx_Q Qc XC mc ms free)
def vx_Post (XC : String → State → State → Prop) (mc ms : Nat) (free : Addr → Prop) : Pt → Array Value → Addr → Pt → Prop := fun A a q B =>
  ∃ (g : JFrame) (mk : MethodId) (t : State) (L : List Loc) (E : String) (ce : Cell), B.U.heap = t.heap ∧ B.U.vm = t.vm ∧ XC E (A.U.calling g mk a) t ∧ t.heap[q]? = some ce ∧ ce.vm = .none ∧ A.U.vm.findClass E = some ce.cls ∧ B.locs = A.locs ++ L ∧ (∀ z ∈ L, free z.base) ∧ B.cells = A.cells + mc ∧ B.slots = A.slots + ms
def vx_Back (l : Launch) (R : Room) (p : Program) (e : Env) (below : List Frame) (s : State) (sargs : Array Value) (y : MethodName) (len W9 : Nat)
    (Pre : Pt → Array Value → Prop) (Post : Pt → Array Value → Option Value → Pt → Prop) (PostX : Pt → Array Value → Addr → Pt → Prop) : Prop :=
  ∀ (m : MethodId) (meth : Method) (c : Code) (A : Pt) (g : JFrame) (ig : Instr) (mk : MethodId) (a : Array Value),
    Stand p l e R s m sargs below meth c A.U A.locs A.cells A.slots → g.method = m → g.locals.size = c.maxLocals → decode c.code g.pc = .ok (ig, len) →
    2 * g.monitorRoom + (g.stack.map fun v => v.category).sum ≤ W9 → A.U.methodNamed? y = some mk → Pre A a →
    (∃ (v : Option Value) (B : Pt), Stand p l e R s m sargs below meth c B.U B.locs B.cells B.slots ∧ Post A a v B ∧
      Steps p.tables e below (doInvoke e (A.U.setTop g) [] mk a).1 (B.U.setTop { g with pc := g.pc + len, stack := v.toList ++ g.stack })) ∨
    (∃ (q : Addr) (B : Pt), Stand p l e R s m sargs below meth c B.U B.locs B.cells B.slots ∧ PostX A a q B ∧
      Steps p.tables e below (doInvoke e (A.U.setTop g) [] mk a).1 ((B.U.setTop g).pushFrame (.throwing q)))
section Payer
variable {l : Launch} {R : Room} {p : Program} {e : Env} {below : List Frame} {s : State} {sargs : Array Value} {y : MethodName} {len W9 : Nat}
theorem vx_back {ws : List Cond} {rm : Room} {Pc : Array Value → State → Prop} {Qc : Array Value → State → Outcome → State → Prop} {XC : String → State → State → Prop} {mc ms : Nat} {free : Addr → Prop} {bytes : ByteArray} {maxL : Nat} {ret : Option FieldType}
    (hM : vx_Met l y ws rm Pc Qc XC mc ms free) (hblind : FrameBlind Pc) (hrc : rm.cells = mc) (hrs : rm.slots = ms)
    (hframes : rm.frames + 1 ≤ R.frames) (hlocals : W9 + (maxL + 11) + rm.locals ≤ R.locals)
    (hws : ∀ w ∈ ws, ∀ a' U, s.WarmedH U.vm → w.before a' U = true) (hcode : Cond.code y bytes maxL ret ∈ ws) (hinit : ∀ a' U, s.WarmedH U.vm → (Cond.initialized y.cls).before a' U = true) :
    vx_Back l R p e below s sargs y len W9 (PreOf R mc ms Pc) (PostOf Qc mc ms free) (vx_Post XC mc ms free) := by
  intro m meth c A g ig mk a X hg hsize hdg hW hn hp
  have h1 : (headSpec ws rm).pre.before a A.U = true := atoms_intro fun w hw => hws w hw _ _ X.warmed
  have h2 : (Cond.code y bytes maxL ret).before a A.U = true := hws _ hcode _ _ X.warmed
  have h3 : (Cond.initialized y.cls).before a A.U = true := hinit _ _ X.warmed
  have h4 : A.cells + (headSpec ws rm).room.cells ≤ R.cells := by rw [show (headSpec ws rm).room.cells = mc from hrc]; exact hp.1
  have h5 : A.slots + (headSpec ws rm).room.slots ≤ R.slots := by rw [show (headSpec ws rm).room.slots = ms from hrs]; exact hp.2.1
  have hPc : Pc a (A.U.calling g mk a) := hblind _ _ _ _ hp.2.2
  obtain ⟨U, Ls, c0, s0⟩ := A
  dsimp only [Pt.U, Pt.locs, Pt.cells, Pt.slots] at h1 h2 h3 h4 h5 X hn hPc ⊢
  obtain ⟨methY, cY, hmY, hcY, -, hlY, -, -, -, -⟩ := Cond.code_spec hn h2
  obtain ⟨kY, hkY, -⟩ := className_of_methodNamed hn
  have hinitY : kY.init = .initialized := Cond.initialized_spec (findClass_of_methodNamed hn) hkY h3
  have h : At U g.method c below := by rw [hg]; exact X.here
  have hlocals9 : W9 + (maxL + 11) + (headSpec ws rm).room.locals ≤ R.locals := hlocals
  have happ : (headSpec ws rm).appliesLoose y e.platform (U.calling g mk a) = true :=
    Spec.appliesLoose_calling (g := g) h hdg hn hkY hinitY
      (X.room_calling (g := g) (R' := (headSpec ws rm).room) hsize hmY hcY hframes (by rw [hlY]; omega) h4 h5) h1
  obtain ⟨mid, hmid⟩ := h.above
  have hfr : (U.setTop g).frames = (.java g :: mid) ++ below := by rw [State.frames_setTop' g h.top, hmid]; rfl
  obtain ⟨o, s₂, hsteps, -, hend, hq⟩ := Steps.callFree hM p X.admits X.cas X.clock (acts := []) hfr happ hPc trivial
  have hq' : vx_Q Qc XC mc ms free a (U.calling g mk a) o s₂ := hq
  rw [State.frames_setTop' g h.top] at hend
  obtain ⟨g₀, hg0⟩ := Option.isSome_iff_exists.mp h.top
  obtain ⟨r, hr⟩ := State.topJava?_eq_some.mp hg0
  have hr' : (({ U with heap := s₂.heap, slotsUsed := s₂.slotsUsed } : State).setVm s₂.vm).frames = .java g₀ :: r := hr
  rcases hq' with ⟨hqc, L, hfe, hL⟩ | ⟨q, rfl, E, ce, L, hx, hce, hcv, hcl, hW₂, hsm, hL⟩
  · obtain ⟨⟨v, rfl⟩, hW₂, e2, q2, q3, q4, q5, q6⟩ := id hfe
    have e3 : s₂ = ({ (U.calling g mk a).setFrames s₂.frames with heap := s₂.heap, slotsUsed := s₂.slotsUsed } : State).setVm s₂.vm := by
      have : s₂ = ({ s₂ with vm := (U.calling g mk a).vm } : State).setVm s₂.vm := rfl
      rw [e2] at this
      exact this
    obtain ⟨c₂, i₂, len₂, hc₂, hd₂, hf₂⟩ := hend
    have hW' : U.WarmedH s₂.vm := hW₂
    have hcc : c₂ = c := by
      have h1 : s₂.code? g.method = U.code? g.method := by
        rw [State.code?_eq, State.code?_eq, hW'.alike.method?]
      exact Option.some.inj (hc₂.symm.trans (h1.trans h.code))
    subst hcc
    have hlen : len₂ = len := by rw [hdg] at hd₂; cases hd₂; rfl
    subst hlen
    have hs₂ : s₂ = (({ U with heap := s₂.heap, slotsUsed := s₂.slotsUsed } : State).setVm s₂.vm).setTop { g with pc := g.pc + len₂, stack := v.toList ++ g.stack } := by
      refine e3.trans ?_
      rw [hf₂, State.calling_eq h.top, State.setFrames_setFrames, State.setTop_of_frames _ hr', hr]
      rfl
    have hsame : U.sameButNew ({ U with heap := s₂.heap, slotsUsed := s₂.slotsUsed } : State) L mc ms := by
      refine ⟨?_, q2, q3, q4, q5, q6⟩
      obtain ⟨t, ht, -⟩ := State.frames_cons hr
      show ({ U with heap := s₂.heap, slotsUsed := s₂.slotsUsed } : State) = { U.setFrames U.frames with heap := s₂.heap, slotsUsed := s₂.slotsUsed }
      rw [State.setFrames_self ht]
    subst hg
    refine Or.inl ⟨v, ⟨(({ U with heap := s₂.heap, slotsUsed := s₂.slotsUsed } : State).setVm s₂.vm), Ls ++ L, c0 + mc, s0 + ms⟩,
      ⟨X.admits, X.cas, X.clock, X.frames, X.room, X.hears, X.method, X.code, (X.here.setHeapUsed s₂.heap s₂.slotsUsed).setVm hW'.alike, X.tail, State.WarmedH.trans X.warmed hW', X.limits, X.bytes, X.same.trans (hsame.setVm s.vm)⟩,
      ⟨g, mk, s₂, L, rfl, rfl, hqc, rfl, hL, rfl, rfl⟩, ?_⟩
    show Steps p.tables e below _ ((({ U with heap := s₂.heap, slotsUsed := s₂.slotsUsed } : State).setVm s₂.vm).setTop { g with pc := g.pc + len₂, stack := v.toList ++ g.stack })
    rw [← hs₂]
    exact hsteps
  · obtain ⟨e2, q2, q3, q4, q5, q6⟩ := id hsm
    have e3 : s₂ = ({ (U.calling g mk a).setFrames s₂.frames with heap := s₂.heap, slotsUsed := s₂.slotsUsed } : State).setVm s₂.vm := by
      have : s₂ = ({ s₂ with vm := (U.calling g mk a).vm } : State).setVm s₂.vm := rfl
      rw [e2] at this
      exact this
    have hf₂ : s₂.frames = .throwing q :: .java g :: U.frames.tail := hend
    have hW' : U.WarmedH s₂.vm := hW₂
    have hs₂ : s₂ = ((({ U with heap := s₂.heap, slotsUsed := s₂.slotsUsed } : State).setVm s₂.vm).setTop g).pushFrame (.throwing q) := by
      refine e3.trans ?_
      rw [hf₂, State.calling_eq h.top, State.setFrames_setFrames, State.pushFrame, State.frames_setTop _ hr', State.setTop_of_frames _ hr', State.setFrames_setFrames, hr]
      rfl
    have hsame : U.sameButNew ({ U with heap := s₂.heap, slotsUsed := s₂.slotsUsed } : State) L mc ms := by
      refine ⟨?_, q2, q3, q4, q5, q6⟩
      obtain ⟨t, ht, -⟩ := State.frames_cons hr
      show ({ U with heap := s₂.heap, slotsUsed := s₂.slotsUsed } : State) = { U.setFrames U.frames with heap := s₂.heap, slotsUsed := s₂.slotsUsed }
      rw [State.setFrames_self ht]
    subst hg
    refine Or.inr ⟨q, ⟨(({ U with heap := s₂.heap, slotsUsed := s₂.slotsUsed } : State).setVm s₂.vm), Ls ++ L, c0 + mc, s0 + ms⟩,
      ⟨X.admits, X.cas, X.clock, X.frames, X.room, X.hears, X.method, X.code, (X.here.setHeapUsed s₂.heap s₂.slotsUsed).setVm hW'.alike, X.tail, State.WarmedH.trans X.warmed hW', X.limits, X.bytes, X.same.trans (hsame.setVm s.vm)⟩,
      ⟨g, mk, s₂, L, E, ce, rfl, rfl, hx, hce, hcv, hcl, rfl, hL, rfl, rfl⟩, ?_⟩
    show Steps p.tables e below _ (((({ U with heap := s₂.heap, slotsUsed := s₂.slotsUsed } : State).setVm s₂.vm).setTop g).pushFrame (.throwing q))
    rw [← hs₂]
    exact hsteps
end Payer
section Calls
variable {p : Program} {l : Launch} {e : Env} {R : Room} {s : State} {m : MethodId} {args : Array Value} {below : List Frame} {meth : Method} {c : Code} {T : State} {locs : List Loc} {cells slots : Nat}
theorem vx_callV (X : Stand p l e R s m args below meth c T locs cells slots) (hexec : p.tables.exec = Jvm.exec) {own C : String} {index : Nat} {y : MethodName} {bytes : ByteArray} {maxL : Nat} {ret : Option FieldType}
    (hown : s.vm.findClass own = some m.cls) (hlink : (Cond.methodLink own index y).before args s = true) (hinst : (Cond.instanceMethod y).before args s = true) (hsel : (Cond.selects C y y).before args s = true)
    (hcode : (Cond.code y bytes maxL ret).before args s = true) (hy : y.cls ≠ "java/lang/invoke/MethodHandle" ∧ y.cls ≠ "java/lang/invoke/VarHandle")
    {W9 : Nat} {Pre : Pt → Array Value → Prop} {Post : Pt → Array Value → Option Value → Pt → Prop} {PostX : Pt → Array Value → Addr → Pt → Prop} (hK : vx_Back l R p e below s args y 3 W9 Pre Post PostX)
    {b : Addr} {cellB : Cell} (hcell : T.heap[b]? = some cellB) (hobj : cellB.vm.isStatics = false) (hcls : s.vm.findClass C = some cellB.cls)
    {g : JFrame} (hg : g.method = m) (hsize : g.locals.size = c.maxLocals) {argsL rest : List Value} (hlen : ∀ sig, parseMethodDescriptor y.desc = some sig → argsL.length = sig.parameters.length)
    (hstack : g.stack = argsL.reverse ++ .ref b :: rest) (hW : 2 * g.monitorRoom + (rest.map fun v => v.category).sum ≤ W9) (hdg : decode c.code g.pc = .ok (.invokevirtual index, 3))
    (hpre : ∀ vm₁, s.WarmedH vm₁ → Pre ⟨T.setVm vm₁, locs, cells, slots⟩ (Value.ref b :: argsL).toArray) :
    (∃ (v : Option Value) (vm₁ : Vm) (B : Pt), s.WarmedH vm₁ ∧ Stand p l e R s m args below meth c B.U B.locs B.cells B.slots ∧ Post ⟨T.setVm vm₁, locs, cells, slots⟩ (Value.ref b :: argsL).toArray v B ∧
      ∀ target, Steps p.tables e below (B.U.setTop { g with pc := g.pc + 3, stack := v.toList ++ rest }) target → Steps p.tables e below (T.setTop g) target) ∨
    (∃ (q : Addr) (vm₁ : Vm) (B : Pt), s.WarmedH vm₁ ∧ Stand p l e R s m args below meth c B.U B.locs B.cells B.slots ∧ PostX ⟨T.setVm vm₁, locs, cells, slots⟩ (Value.ref b :: argsL).toArray q B ∧
      Steps p.tables e below (T.setTop g) ((B.U.setTop { g with stack := rest }).pushFrame (.throwing q))) := by
  obtain ⟨mk, methM, hnamed, hmethM, hstM, habM⟩ := Cond.instanceMethod_spec hinst
  obtain ⟨methM', cM, hmethM', -, -, -, -, -, -, hsigM⟩ := Cond.code_spec hnamed hcode
  cases hmethM.symm.trans hmethM'
  obtain ⟨c2, r2, m2, q1, q2, q3, q4, kP, hkP, hkPi⟩ := Cond.selects_spec hsel
  cases hcls.symm.trans q1
  cases (State.methodFound?_of_named hnamed hy).symm.trans q2
  cases hnamed.symm.trans q3
  have hselP : selectMethod e.platform s.vm cellB.cls mk = .method mk := by rw [Launch.admits_selectMethod X.admits]; exact q4
  obtain ⟨vm₁, X₁, hstep₁⟩ := X.invokevirtual hexec hown hlink hnamed hmethM hstM hkP hkPi hy (a := b) (cell := cellB) hcell
    (fun z h => by rw [h] at hobj; cases hobj) hselP hmethM habM hkP hkPi (g := g) hg (argsL := argsL) (rest := rest) (hlen _ hsigM) hstack hdg
  rcases hK m meth c ⟨T.setVm vm₁, locs, cells, slots⟩ { g with stack := rest } (.invokevirtual index) mk (Value.ref b :: argsL).toArray X₁ hg hsize hdg hW (X₁.named hnamed) (hpre vm₁ X₁.warmed) with ⟨v, B, X', hpost, hsteps⟩ | ⟨q, B, X', hpost, hsteps⟩
  · exact Or.inl ⟨v, vm₁, B, X₁.warmed, X', hpost, fun target h => hstep₁ _ fun acts => by rw [doInvoke_state]; exact hsteps.trans h⟩
  · exact Or.inr ⟨q, vm₁, B, X₁.warmed, X', hpost, hstep₁ _ fun acts => by rw [doInvoke_state]; exact hsteps⟩
theorem vx_callS (X : Stand p l e R s m args below meth c T locs cells slots) (hexec : p.tables.exec = Jvm.exec) {own : String} {index : Nat} {y : MethodName} {bytes : ByteArray} {maxL : Nat} {ret : Option FieldType}
    (hown : s.vm.findClass own = some m.cls) (hlink : (Cond.methodLink own index y).before args s = true) (hstat : (Cond.static y).before args s = true) (hinit : (Cond.initialized y.cls).before args s = true)
    (hcode : (Cond.code y bytes maxL ret).before args s = true) (hy : y.cls ≠ "java/lang/invoke/MethodHandle" ∧ y.cls ≠ "java/lang/invoke/VarHandle")
    {W9 : Nat} {Pre : Pt → Array Value → Prop} {Post : Pt → Array Value → Option Value → Pt → Prop} {PostX : Pt → Array Value → Addr → Pt → Prop} (hK : vx_Back l R p e below s args y 3 W9 Pre Post PostX)
    {g : JFrame} (hg : g.method = m) (hsize : g.locals.size = c.maxLocals) {argsL rest : List Value} (hlen : ∀ sig, parseMethodDescriptor y.desc = some sig → argsL.length = sig.parameters.length)
    (hstack : g.stack = argsL.reverse ++ rest) (hW : 2 * g.monitorRoom + (rest.map fun v => v.category).sum ≤ W9) (hdg : decode c.code g.pc = .ok (.invokestatic index, 3))
    (hpre : ∀ vm₁, s.WarmedH vm₁ → Pre ⟨T.setVm vm₁, locs, cells, slots⟩ argsL.toArray) :
    (∃ (v : Option Value) (vm₁ : Vm) (B : Pt), s.WarmedH vm₁ ∧ Stand p l e R s m args below meth c B.U B.locs B.cells B.slots ∧ Post ⟨T.setVm vm₁, locs, cells, slots⟩ argsL.toArray v B ∧
      ∀ target, Steps p.tables e below (B.U.setTop { g with pc := g.pc + 3, stack := v.toList ++ rest }) target → Steps p.tables e below (T.setTop g) target) ∨
    (∃ (q : Addr) (vm₁ : Vm) (B : Pt), s.WarmedH vm₁ ∧ Stand p l e R s m args below meth c B.U B.locs B.cells B.slots ∧ PostX ⟨T.setVm vm₁, locs, cells, slots⟩ argsL.toArray q B ∧
      Steps p.tables e below (T.setTop g) ((B.U.setTop { g with stack := rest }).pushFrame (.throwing q))) := by
  obtain ⟨mk, hnamed⟩ := Cond.code_named hcode
  obtain ⟨methM, cM, hmethM, -, -, -, -, -, -, hsigM⟩ := Cond.code_spec hnamed hcode
  have hstatic : methM.isStatic = true := Cond.static_spec hnamed hmethM hstat
  obtain ⟨kP, hkP, -⟩ := className_of_methodNamed hnamed
  have hinitP : kP.init = .initialized := Cond.initialized_spec (findClass_of_methodNamed hnamed) hkP hinit
  obtain ⟨vm₁, X₁, hstep₁⟩ := X.invokestatic hexec hown hlink hnamed hmethM hstatic hkP hinitP hy (g := g) hg (argsL := argsL) (rest := rest) (hlen _ hsigM) hstack hdg
  rcases hK m meth c ⟨T.setVm vm₁, locs, cells, slots⟩ { g with stack := rest } (.invokestatic index) mk argsL.toArray X₁ hg hsize hdg hW (X₁.named hnamed) (hpre vm₁ X₁.warmed) with ⟨v, B, X', hpost, hsteps⟩ | ⟨q, B, X', hpost, hsteps⟩
  · exact Or.inl ⟨v, vm₁, B, X₁.warmed, X', hpost, fun target h => hstep₁ _ fun acts => by rw [doInvoke_state]; exact hsteps.trans h⟩
  · exact Or.inr ⟨q, vm₁, B, X₁.warmed, X', hpost, hstep₁ _ fun acts => by rw [doInvoke_state]; exact hsteps⟩
end Calls
theorem vx_cls {s : State} {T : State} {vm₁ : Vm} {E : String} {k : ClassId} (hW : s.WarmedH vm₁) (h : (T.setVm vm₁).vm.findClass E = some k) : s.vm.findClass E = some k := by
  have h1 : vm₁.findClass E = some k := h
  rw [hW.alike.findClass] at h1
  exact h1
/-- the method's frame g, with q thrown over it -/
def vx_W (p : Program) (l : Launch) (e : Env) (R : Room) (s : State) (m : MethodId) (args : Array Value) (below : List Frame) (meth : Method) (c : Code) (H : Heap) (locs : List Loc) (cells slots : Nat) (Q : State → Prop) (g : JFrame) (q : Addr) : Prop :=
  ∀ T : State, T.heap = H → Stand p l e R s m args below meth c T locs cells slots → ∃ t, Steps p.tables e below ((T.setTop g).pushFrame (.throwing q)) t ∧ Q t
def vx_Run (p : Program) (l : Launch) (e : Env) (R : Room) (s : State) (m : MethodId) (args : Array Value) (below : List Frame) (meth : Method) (c : Code) (H : Heap) (locs : List Loc) (cells slots mc ms : Nat) (g : JFrame) (rest : List Value) (Qa : State → Outcome → State → Prop) (XC : String → State → State → Prop) (free : Addr → Prop) : Prop :=
  ∀ T : State, T.heap = H → Stand p l e R s m args below meth c T locs cells slots →
    (∃ (v : Option Value) (st₀ t T' : State) (L : List Loc), st₀.heap = H ∧ Stand p l e R s m args below meth c T' (locs ++ L) (cells + mc) (slots + ms) ∧ (∀ q ∈ L, free q.base) ∧ T'.heap = t.heap ∧ T'.vm = t.vm ∧ Qa st₀ (.returned v) t ∧
      Goes p e below T g T' { g with pc := g.pc + 3, stack := v.toList ++ rest }) ∨
    (∃ (q : Addr) (st₀ t T' : State) (L : List Loc) (E : String) (ce : Cell), st₀.heap = H ∧ Stand p l e R s m args below meth c T' (locs ++ L) (cells + mc) (slots + ms) ∧ (∀ z ∈ L, free z.base) ∧ T'.heap = t.heap ∧ T'.vm = t.vm ∧ XC E st₀ t ∧ t.heap[q]? = some ce ∧ ce.vm = .none ∧ s.vm.findClass E = some ce.cls ∧
      Steps p.tables e below (T.setTop g) ((T'.setTop { g with stack := rest }).pushFrame (.throwing q)))
def vx_X {S : Type} (px : S → Prop) (B : String → S → State → Prop) (A : Nat → Prop) : String → State → State → Prop := fun E st t => ∃ u : S, px u ∧ B E u t ∧ va_F A st t
section Runs
variable {p : Program} {l : Launch} {e : Env} {R : Room} {s : State} {m : MethodId} {args : Array Value} {below : List Frame} {meth : Method} {c : Code} {H : Heap} {locs : List Loc} {cells slots : Nat}
variable {y : MethodName} {bytes cc : ByteArray} {maxL nL mc ms n index : Nat} {ret : Option FieldType} {ws : List Cond} {rm : Room} {Pc : Array Value → State → Prop} {Qc : Array Value → State → Outcome → State → Prop} {XC : String → State → State → Prop} {free : Addr → Prop} {Ts : List Cond} {own C : String} {b : Addr} {As rest : List Value} {g : JFrame}
theorem vx_callBack (cb : CallB R s args own index y bytes maxL ret ws rm mc ms n) (hM : vx_Met l y ws rm Pc Qc XC mc ms free) (hbl : FrameBlind Pc) : vx_Back l R p e below s args y 3 8 (PreOf R mc ms Pc) (PostOf Qc mc ms free) (vx_Post XC mc ms free) := by
  obtain ⟨hrc, hrs, hfr, hlo, hws, hcw, -, hini, -⟩ := cb
  exact vx_back (bytes := bytes) (maxL := maxL) (ret := ret) hM hbl hrc hrs hfr hlo hws hcw (fun a' U hW => word_at hW (Or.inl (by first | rfl | simp [Cond.onTables, Cond.keeps, Cond.steady])) hini)
theorem vx_runV (S : CallFix p m c cc nL s args Ts own) (hM : vx_Met l y ws rm Pc Qc XC mc ms free) (cw : CallW R s args own C index y bytes maxL ret ws rm mc ms n) (hp : PreV s H C b Pc As)
    (hg : g.method = m) (hn : As.length = n) (hsize : g.locals.size = nL) (hstack : g.stack = As.reverse ++ .ref b :: rest) (hW : 2 * g.monitorRoom + (rest.map fun v => v.category).sum ≤ 8) (hdg : decode cc g.pc = .ok (.invokevirtual index, 3)) (hf : cells + mc ≤ R.cells ∧ slots + ms ≤ R.slots) :
    vx_Run p l e R s m args below meth c H locs cells slots mc ms g rest (Qc (Value.ref b :: As).toArray) XC free := by
  have hK : vx_Back l R p e below s args y 3 8 (PreOf R mc ms Pc) (PostOf Qc mc ms free) (vx_Post XC mc ms free) := vx_callBack cw.1 hM hp.1
  obtain ⟨⟨-, -, -, -, -, -, hcode, -, hy, hlen, hl⟩, hin, hse⟩ := cw
  obtain ⟨hx, hb, hml, ho, -⟩ := S
  obtain ⟨-, ⟨cellB, hcB, hoB, hclB⟩, hPc⟩ := hp
  intro T hT X
  rcases vx_callV X hx (C := C) (bytes := bytes) (maxL := maxL) (ret := ret) ho hl hin hse hcode hy hK (by rw [hT]; exact hcB) hoB hclB hg (hsize.trans hml.symm) (argsL := As) (rest := rest) (fun sig h => hn.trans (hlen sig h)) hstack hW (by rw [hb]; exact hdg)
    (fun vm₁ hW₁ => ⟨hf.1, hf.2, hPc (T.setVm vm₁) hT hW₁⟩) with ⟨v, vm₁, ⟨U', l2, c2, s2⟩, hW₁, X', ⟨g', mk, t, L, e1, e2, hq, h1, hL, h2, h3⟩, st⟩ | ⟨q, vm₁, ⟨U', l2, c2, s2⟩, hW₁, X', ⟨g', mk, t, L, E, ce, e1, e2, hq, hce, hcv, hcl, h1, hL, h2, h3⟩, st⟩
  · dsimp only [Pt.U, Pt.locs, Pt.cells, Pt.slots] at X' e1 e2 h1 h2 h3 st
    subst h1; subst h2; subst h3
    exact Or.inl ⟨v, (T.setVm vm₁).calling g' mk (Value.ref b :: As).toArray, t, U', L, hT, X', hL, e1, e2, hq, st⟩
  · dsimp only [Pt.U, Pt.locs, Pt.cells, Pt.slots] at X' e1 e2 h1 h2 h3 st hcl
    subst h1; subst h2; subst h3
    exact Or.inr ⟨q, (T.setVm vm₁).calling g' mk (Value.ref b :: As).toArray, t, U', L, E, ce, hT, X', hL, e1, e2, hq, hce, hcv, vx_cls hW₁ hcl, st⟩
theorem vx_runS (S : CallFix p m c cc nL s args Ts own) (hM : vx_Met l y ws rm Pc Qc XC mc ms free) (cw : CallB R s args own index y bytes maxL ret ws rm mc ms n ∧ (Cond.static y).before args s = true) (hp : PreS s H Pc As)
    (hg : g.method = m) (hn : As.length = n) (hsize : g.locals.size = nL) (hstack : g.stack = As.reverse ++ rest) (hW : 2 * g.monitorRoom + (rest.map fun v => v.category).sum ≤ 8) (hdg : decode cc g.pc = .ok (.invokestatic index, 3)) (hf : cells + mc ≤ R.cells ∧ slots + ms ≤ R.slots) :
    vx_Run p l e R s m args below meth c H locs cells slots mc ms g rest (Qc As.toArray) XC free := by
  have hK : vx_Back l R p e below s args y 3 8 (PreOf R mc ms Pc) (PostOf Qc mc ms free) (vx_Post XC mc ms free) := vx_callBack cw.1 hM hp.1
  obtain ⟨⟨-, -, -, -, -, -, hcode, hini, hy, hlen, hl⟩, hstt⟩ := cw
  obtain ⟨hx, hb, hml, ho, -⟩ := S
  intro T hT X
  rcases vx_callS X hx (bytes := bytes) (maxL := maxL) (ret := ret) ho hl hstt hini hcode hy hK hg (hsize.trans hml.symm) (argsL := As) (rest := rest) (fun sig h => hn.trans (hlen sig h)) hstack hW (by rw [hb]; exact hdg)
    (fun vm₁ hW₁ => ⟨hf.1, hf.2, hp.2 (T.setVm vm₁) hT hW₁⟩) with ⟨v, vm₁, ⟨U', l2, c2, s2⟩, hW₁, X', ⟨g', mk, t, L, e1, e2, hq, h1, hL, h2, h3⟩, st⟩ | ⟨q, vm₁, ⟨U', l2, c2, s2⟩, hW₁, X', ⟨g', mk, t, L, E, ce, e1, e2, hq, hce, hcv, hcl, h1, hL, h2, h3⟩, st⟩
  · dsimp only [Pt.U, Pt.locs, Pt.cells, Pt.slots] at X' e1 e2 h1 h2 h3 st
    subst h1; subst h2; subst h3
    exact Or.inl ⟨v, (T.setVm vm₁).calling g' mk As.toArray, t, U', L, hT, X', hL, e1, e2, hq, st⟩
  · dsimp only [Pt.U, Pt.locs, Pt.cells, Pt.slots] at X' e1 e2 h1 h2 h3 st hcl
    subst h1; subst h2; subst h3
    exact Or.inr ⟨q, (T.setVm vm₁).calling g' mk As.toArray, t, U', L, E, ce, hT, X', hL, e1, e2, hq, hce, hcv, vx_cls hW₁ hcl, st⟩
end Runs
section Rows
variable {p : Program} {l : Launch} {e : Env} {R : Room} {s : State} {m : MethodId} {args : Array Value} {below : List Frame} {meth : Method} {c : Code} {H : Heap} {locs : List Loc} {cells slots : Nat} {Q : State → Prop}
variable {mc ms : Nat} {free : Addr → Prop} {A0 A1 : Nat → Prop} {H0 : Heap} {a : Array Value} {pc : Nat} {ls : Array Slot} {st0 rest : List Value}
theorem vx_keep {st₀ t T' : State} {L : List Loc} (h0 : st₀.heap = H) (e1 : T'.heap = t.heap) (hS : va_S A0 H0 H locs) (hA : ∀ q, q < H.size → A1 q → A0 q) (hf : ∀ q, free q → A0 q) (hL : ∀ q ∈ L, free q.base) (hF : va_F A1 st₀ t) :
    H.size ≤ T'.heap.size ∧ (∀ q : Nat, q < H.size → ¬ A1 q → T'.heap[q]? = H[q]?) ∧ va_S A0 H0 T'.heap (locs ++ L) := by
  obtain ⟨hz, hk⟩ := hF
  rw [h0] at hz hk
  exact ⟨by rw [e1]; exact hz, fun q h1 h2 => by rw [e1]; exact hk q h1 h2,
    ⟨Nat.le_trans hS.1 (by rw [e1]; exact hz), fun q h1 h2 => by rw [e1, hk q (Nat.lt_of_lt_of_le h1 hS.1) (fun z => h2 (hA q (Nat.lt_of_lt_of_le h1 hS.1) z))]; exact hS.2.1 q h1 h2, fun q hq => by
      rcases List.mem_append.mp hq with h | h
      · exact hS.2.2 q h
      · exact hf _ (hL q h)⟩⟩
theorem vx_calli {S SX : Type} {post : Int32 → S → Prop} {px : SX → Prop} {B : S → State → Prop} {BX : String → SX → State → Prop} {AX : Nat → Prop} (hr : vx_Run p l e R s m args below meth c H locs cells slots mc ms (F0 m pc ls st0) rest (va_Qi post B A1 a) (vx_X px BX AX) free) (hS : va_S A0 H0 H locs) (hA : ∀ q, q < H.size → A1 q → A0 q) (hf : ∀ q, free q → A0 q) (hAX : ∀ q, q < H.size → AX q → A0 q)
    (kx : ∀ (E : String) (ce : Cell) (q9 : Addr) (u : SX) (t : State) (H1 : Heap) (locs1 : List Loc), t.heap = H1 → s.vm.Alike t.vm → px u → BX E u t → H.size ≤ H1.size → (∀ q : Nat, q < H.size → ¬ AX q → H1[q]? = H[q]?) → va_S A0 H0 H1 locs1 → H1[q9]? = some ce → ce.vm = .none → s.vm.findClass E = some ce.cls → vx_W p l e R s m args below meth c H1 locs1 (cells + mc) (slots + ms) Q (F0 m pc ls rest) q9)
    (kk : ∀ (r : Int32) (u : S) (t : State) (H1 : Heap) (locs1 : List Loc), t.heap = H1 → s.vm.Alike t.vm → post r u → B u t → H.size ≤ H1.size → (∀ q : Nat, q < H.size → ¬ A1 q → H1[q]? = H[q]?) → va_S A0 H0 H1 locs1 → W p l e R s m args below meth c H1 locs1 (cells + mc) (slots + ms) Q (F0 m (pc + 3) ls (.int r :: rest))) : W p l e R s m args below meth c H locs cells slots Q (F0 m pc ls st0) := by
  intro T hT X
  rcases hr T hT X with ⟨v, st₀, t, T', L, h0, X', hL, e1, e2, ⟨⟨r, u, hv, hp, hb⟩, hF⟩, st⟩ | ⟨q, st₀, t, T', L, E, ce, h0, X', hL, e1, e2, ⟨u, hp, hb, hF⟩, hce, hcv, hcl, st⟩
  · cases hv
    obtain ⟨k1, k2, k3⟩ := vx_keep h0 e1 hS hA hf hL hF
    obtain ⟨t2, a1, b1⟩ := kk r u t T'.heap (locs ++ L) e1.symm (by rw [← e2]; exact X'.warmed.alike) hp hb k1 k2 k3 T' rfl X'
    exact ⟨t2, st t2 a1, b1⟩
  · obtain ⟨k1, k2, k3⟩ := vx_keep h0 e1 hS hAX hf hL hF
    obtain ⟨t2, a1, b1⟩ := kx E ce q u t T'.heap (locs ++ L) e1.symm (by rw [← e2]; exact X'.warmed.alike) hp hb k1 k2 k3 (by rw [e1]; exact hce) hcv hcl T' rfl X'
    exact ⟨t2, st.trans a1, b1⟩
theorem vx_calll {S SX : Type} {post : Int64 → S → Prop} {px : SX → Prop} {B : S → State → Prop} {BX : String → SX → State → Prop} {AX : Nat → Prop} (hr : vx_Run p l e R s m args below meth c H locs cells slots mc ms (F0 m pc ls st0) rest (va_Ql post B A1 a) (vx_X px BX AX) free) (hS : va_S A0 H0 H locs) (hA : ∀ q, q < H.size → A1 q → A0 q) (hf : ∀ q, free q → A0 q) (hAX : ∀ q, q < H.size → AX q → A0 q)
    (kx : ∀ (E : String) (ce : Cell) (q9 : Addr) (u : SX) (t : State) (H1 : Heap) (locs1 : List Loc), t.heap = H1 → s.vm.Alike t.vm → px u → BX E u t → H.size ≤ H1.size → (∀ q : Nat, q < H.size → ¬ AX q → H1[q]? = H[q]?) → va_S A0 H0 H1 locs1 → H1[q9]? = some ce → ce.vm = .none → s.vm.findClass E = some ce.cls → vx_W p l e R s m args below meth c H1 locs1 (cells + mc) (slots + ms) Q (F0 m pc ls rest) q9)
    (kk : ∀ (r : Int64) (u : S) (t : State) (H1 : Heap) (locs1 : List Loc), t.heap = H1 → s.vm.Alike t.vm → post r u → B u t → H.size ≤ H1.size → (∀ q : Nat, q < H.size → ¬ A1 q → H1[q]? = H[q]?) → va_S A0 H0 H1 locs1 → W p l e R s m args below meth c H1 locs1 (cells + mc) (slots + ms) Q (F0 m (pc + 3) ls (.long r :: rest))) : W p l e R s m args below meth c H locs cells slots Q (F0 m pc ls st0) := by
  intro T hT X
  rcases hr T hT X with ⟨v, st₀, t, T', L, h0, X', hL, e1, e2, ⟨⟨r, u, hv, hp, hb⟩, hF⟩, st⟩ | ⟨q, st₀, t, T', L, E, ce, h0, X', hL, e1, e2, ⟨u, hp, hb, hF⟩, hce, hcv, hcl, st⟩
  · cases hv
    obtain ⟨k1, k2, k3⟩ := vx_keep h0 e1 hS hA hf hL hF
    obtain ⟨t2, a1, b1⟩ := kk r u t T'.heap (locs ++ L) e1.symm (by rw [← e2]; exact X'.warmed.alike) hp hb k1 k2 k3 T' rfl X'
    exact ⟨t2, st t2 a1, b1⟩
  · obtain ⟨k1, k2, k3⟩ := vx_keep h0 e1 hS hAX hf hL hF
    obtain ⟨t2, a1, b1⟩ := kx E ce q u t T'.heap (locs ++ L) e1.symm (by rw [← e2]; exact X'.warmed.alike) hp hb k1 k2 k3 (by rw [e1]; exact hce) hcv hcl T' rfl X'
    exact ⟨t2, st.trans a1, b1⟩
theorem vx_callf {S SX : Type} {post : UInt32 → S → Prop} {px : SX → Prop} {B : S → State → Prop} {BX : String → SX → State → Prop} {AX : Nat → Prop} (hr : vx_Run p l e R s m args below meth c H locs cells slots mc ms (F0 m pc ls st0) rest (va_Qf post B A1 a) (vx_X px BX AX) free) (hS : va_S A0 H0 H locs) (hA : ∀ q, q < H.size → A1 q → A0 q) (hf : ∀ q, free q → A0 q) (hAX : ∀ q, q < H.size → AX q → A0 q)
    (kx : ∀ (E : String) (ce : Cell) (q9 : Addr) (u : SX) (t : State) (H1 : Heap) (locs1 : List Loc), t.heap = H1 → s.vm.Alike t.vm → px u → BX E u t → H.size ≤ H1.size → (∀ q : Nat, q < H.size → ¬ AX q → H1[q]? = H[q]?) → va_S A0 H0 H1 locs1 → H1[q9]? = some ce → ce.vm = .none → s.vm.findClass E = some ce.cls → vx_W p l e R s m args below meth c H1 locs1 (cells + mc) (slots + ms) Q (F0 m pc ls rest) q9)
    (kk : ∀ (r : UInt32) (u : S) (t : State) (H1 : Heap) (locs1 : List Loc), t.heap = H1 → s.vm.Alike t.vm → post r u → B u t → H.size ≤ H1.size → (∀ q : Nat, q < H.size → ¬ A1 q → H1[q]? = H[q]?) → va_S A0 H0 H1 locs1 → W p l e R s m args below meth c H1 locs1 (cells + mc) (slots + ms) Q (F0 m (pc + 3) ls (.float r :: rest))) : W p l e R s m args below meth c H locs cells slots Q (F0 m pc ls st0) := by
  intro T hT X
  rcases hr T hT X with ⟨v, st₀, t, T', L, h0, X', hL, e1, e2, ⟨⟨r, u, hv, hp, hb⟩, hF⟩, st⟩ | ⟨q, st₀, t, T', L, E, ce, h0, X', hL, e1, e2, ⟨u, hp, hb, hF⟩, hce, hcv, hcl, st⟩
  · cases hv
    obtain ⟨k1, k2, k3⟩ := vx_keep h0 e1 hS hA hf hL hF
    obtain ⟨t2, a1, b1⟩ := kk r u t T'.heap (locs ++ L) e1.symm (by rw [← e2]; exact X'.warmed.alike) hp hb k1 k2 k3 T' rfl X'
    exact ⟨t2, st t2 a1, b1⟩
  · obtain ⟨k1, k2, k3⟩ := vx_keep h0 e1 hS hAX hf hL hF
    obtain ⟨t2, a1, b1⟩ := kx E ce q u t T'.heap (locs ++ L) e1.symm (by rw [← e2]; exact X'.warmed.alike) hp hb k1 k2 k3 (by rw [e1]; exact hce) hcv hcl T' rfl X'
    exact ⟨t2, st.trans a1, b1⟩
theorem vx_calld {S SX : Type} {post : UInt64 → S → Prop} {px : SX → Prop} {B : S → State → Prop} {BX : String → SX → State → Prop} {AX : Nat → Prop} (hr : vx_Run p l e R s m args below meth c H locs cells slots mc ms (F0 m pc ls st0) rest (va_Qd post B A1 a) (vx_X px BX AX) free) (hS : va_S A0 H0 H locs) (hA : ∀ q, q < H.size → A1 q → A0 q) (hf : ∀ q, free q → A0 q) (hAX : ∀ q, q < H.size → AX q → A0 q)
    (kx : ∀ (E : String) (ce : Cell) (q9 : Addr) (u : SX) (t : State) (H1 : Heap) (locs1 : List Loc), t.heap = H1 → s.vm.Alike t.vm → px u → BX E u t → H.size ≤ H1.size → (∀ q : Nat, q < H.size → ¬ AX q → H1[q]? = H[q]?) → va_S A0 H0 H1 locs1 → H1[q9]? = some ce → ce.vm = .none → s.vm.findClass E = some ce.cls → vx_W p l e R s m args below meth c H1 locs1 (cells + mc) (slots + ms) Q (F0 m pc ls rest) q9)
    (kk : ∀ (r : UInt64) (u : S) (t : State) (H1 : Heap) (locs1 : List Loc), t.heap = H1 → s.vm.Alike t.vm → post r u → B u t → H.size ≤ H1.size → (∀ q : Nat, q < H.size → ¬ A1 q → H1[q]? = H[q]?) → va_S A0 H0 H1 locs1 → W p l e R s m args below meth c H1 locs1 (cells + mc) (slots + ms) Q (F0 m (pc + 3) ls (.double r :: rest))) : W p l e R s m args below meth c H locs cells slots Q (F0 m pc ls st0) := by
  intro T hT X
  rcases hr T hT X with ⟨v, st₀, t, T', L, h0, X', hL, e1, e2, ⟨⟨r, u, hv, hp, hb⟩, hF⟩, st⟩ | ⟨q, st₀, t, T', L, E, ce, h0, X', hL, e1, e2, ⟨u, hp, hb, hF⟩, hce, hcv, hcl, st⟩
  · cases hv
    obtain ⟨k1, k2, k3⟩ := vx_keep h0 e1 hS hA hf hL hF
    obtain ⟨t2, a1, b1⟩ := kk r u t T'.heap (locs ++ L) e1.symm (by rw [← e2]; exact X'.warmed.alike) hp hb k1 k2 k3 T' rfl X'
    exact ⟨t2, st t2 a1, b1⟩
  · obtain ⟨k1, k2, k3⟩ := vx_keep h0 e1 hS hAX hf hL hF
    obtain ⟨t2, a1, b1⟩ := kx E ce q u t T'.heap (locs ++ L) e1.symm (by rw [← e2]; exact X'.warmed.alike) hp hb k1 k2 k3 (by rw [e1]; exact hce) hcv hcl T' rfl X'
    exact ⟨t2, st.trans a1, b1⟩
theorem vx_callv {S SX : Type} {post : S → Prop} {px : SX → Prop} {B : S → State → Prop} {BX : String → SX → State → Prop} {AX : Nat → Prop} (hr : vx_Run p l e R s m args below meth c H locs cells slots mc ms (F0 m pc ls st0) rest (va_Qv post B A1 a) (vx_X px BX AX) free) (hS : va_S A0 H0 H locs) (hA : ∀ q, q < H.size → A1 q → A0 q) (hf : ∀ q, free q → A0 q) (hAX : ∀ q, q < H.size → AX q → A0 q)
    (kx : ∀ (E : String) (ce : Cell) (q9 : Addr) (u : SX) (t : State) (H1 : Heap) (locs1 : List Loc), t.heap = H1 → s.vm.Alike t.vm → px u → BX E u t → H.size ≤ H1.size → (∀ q : Nat, q < H.size → ¬ AX q → H1[q]? = H[q]?) → va_S A0 H0 H1 locs1 → H1[q9]? = some ce → ce.vm = .none → s.vm.findClass E = some ce.cls → vx_W p l e R s m args below meth c H1 locs1 (cells + mc) (slots + ms) Q (F0 m pc ls rest) q9)
    (kk : ∀ (u : S) (t : State) (H1 : Heap) (locs1 : List Loc), t.heap = H1 → s.vm.Alike t.vm → post u → B u t → H.size ≤ H1.size → (∀ q : Nat, q < H.size → ¬ A1 q → H1[q]? = H[q]?) → va_S A0 H0 H1 locs1 → W p l e R s m args below meth c H1 locs1 (cells + mc) (slots + ms) Q (F0 m (pc + 3) ls (rest))) : W p l e R s m args below meth c H locs cells slots Q (F0 m pc ls st0) := by
  intro T hT X
  rcases hr T hT X with ⟨v, st₀, t, T', L, h0, X', hL, e1, e2, ⟨⟨u, hv, hp, hb⟩, hF⟩, st⟩ | ⟨q, st₀, t, T', L, E, ce, h0, X', hL, e1, e2, ⟨u, hp, hb, hF⟩, hce, hcv, hcl, st⟩
  · cases hv
    obtain ⟨k1, k2, k3⟩ := vx_keep h0 e1 hS hA hf hL hF
    obtain ⟨t2, a1, b1⟩ := kk u t T'.heap (locs ++ L) e1.symm (by rw [← e2]; exact X'.warmed.alike) hp hb k1 k2 k3 T' rfl X'
    exact ⟨t2, st t2 a1, b1⟩
  · obtain ⟨k1, k2, k3⟩ := vx_keep h0 e1 hS hAX hf hL hF
    obtain ⟨t2, a1, b1⟩ := kx E ce q u t T'.heap (locs ++ L) e1.symm (by rw [← e2]; exact X'.warmed.alike) hp hb k1 k2 k3 (by rw [e1]; exact hce) hcv hcl T' rfl X'
    exact ⟨t2, st.trans a1, b1⟩
/-- caught by the row x of this method's table; the rows ahead don't take it -/
theorem vx_catch {own name : String} {E : String} {ce : Cell} {q : Addr} (hown : s.vm.findClass own = some m.cls) (pre : List ExceptionTableEntry) (x : ExceptionTableEntry) (suf : List ExceptionTableEntry) (hsplit : c.exceptionTable.toList = pre ++ x :: suf)
    (hpass : ∀ z ∈ pre, covers z pc = false ∨ (z.catchType ≠ 0 ∧ ∃ nm : String, (Cond.classLink own z.catchType nm).before args s = true ∧ va_Nc E nm s)) (hx : covers x pc = true) (h0 : x.catchType ≠ 0)
    (hlink : (Cond.classLink own x.catchType name).before args s = true) (hcast : (Cond.castable E name).before args s = true) (hcell : H[q]? = some ce) (hv : ce.vm = .none) (hcl : s.vm.findClass E = some ce.cls)
    (kk : W p l e R s m args below meth c H locs cells slots Q (F0 m x.handlerPc ls [.ref q])) : vx_W p l e R s m args below meth c H locs cells slots Q (F0 m pc ls rest) q := by
  intro T hT X
  have hpl : e.platform.magicAccessors = ({} : Platform).magicAccessors := by rw [X.admits.platform]
  obtain ⟨c3, c4, hc3, hc4, hasg⟩ := Cond.castable_spec hcast
  cases Option.some.inj (hc3.symm.trans hcl)
  obtain ⟨c5, hc5, hcl5⟩ := Cond.classLink_spec hown hlink e.platform hpl
  cases Option.some.inj (hc4.symm.trans hc5)
  obtain ⟨vm', X', st⟩ := X.thenCaughtThrough q (g := F0 m pc ls rest) rfl (Steps.refl _) (by rw [hT]; exact hcell) (by rw [hv]; rfl) (by obtain ⟨k9, h9, -⟩ := Vm.findClass_spec hcl; exact ⟨k9, h9⟩) pre x suf hsplit
    (fun z hz => by
      rcases hpass z hz with h | ⟨hz0, nm, hl1, hn1⟩
      · exact Or.inl h
      · obtain ⟨c6, hc6, hcl6⟩ := Cond.classLink_spec hown hl1 e.platform hpl
        obtain ⟨a8, b8, h1, h2, h3⟩ := hn1
        cases Option.some.inj (h1.symm.trans hcl)
        cases Option.some.inj (h2.symm.trans hc6)
        exact Or.inr ⟨hz0, _, hcl6, h3⟩) hx (Or.inr ⟨h0, c4, hcl5, hasg⟩)
  obtain ⟨t, a1, b1⟩ := kk (T.setVm vm') hT X'
  exact ⟨t, st.trans a1, b1⟩
end Rows
section Ends
variable {p : Program} {l : Launch} {e : Env} {R : Room} {s : State} {m : MethodId} {args : Array Value} {below : List Frame} {meth : Method} {c : Code} {H : Heap} {locs : List Loc} {cells slots : Nat} {Q : State → Prop}
variable {mc ms : Nat} {free : Addr → Prop} {A0 A1 : Nat → Prop} {H0 : Heap} {a : Array Value} {ls : Array Slot} {st0 rest : List Value}
variable {Qc : Array Value → State → Outcome → State → Prop} {XC : String → State → State → Prop}
/-- what a body that may throw owes at its end -/
def vx_MQ (below : List Frame) (Qc : Array Value → State → Outcome → State → Prop) (XC : String → State → State → Prop) (a : Array Value) (s : State) (mc ms : Nat) (free : Addr → Prop) : State → Prop := fun t =>
  ∃ o, t.status = .running ∧ Ended t below o ∧ vx_Q Qc XC mc ms free a s o t
theorem vx_ret {g : JFrame} {mc ms : Nat} (k : W p l e R s m args below meth c H locs cells slots (MQ below Qc args s mc ms free) g) : W p l e R s m args below meth c H locs cells slots (vx_MQ below Qc XC args s mc ms free) g := by
  intro T hT X
  obtain ⟨t, a1, o, b1, b2, b3, b4⟩ := k T hT X
  exact ⟨t, a1, o, b1, b2, Or.inl ⟨b3, b4⟩⟩
/-- not caught here: it goes on to the caller -/
theorem vx_widen {g : JFrame} {q : Addr} {k n : Nat} (h1 : cells ≤ k) (h2 : slots ≤ n) (kk : vx_W p l e R s m args below meth c H locs k n Q g q) : vx_W p l e R s m args below meth c H locs cells slots Q g q := fun T hT X => kk T hT (stand_widen X h1 h2)
theorem vx_out {pc : Nat} {E : String} {ce : Cell} {q : Addr} {mc ms : Nat} (hout : ∀ x ∈ c.exceptionTable.toList, covers x pc = false) (hlocks : meth.locks = false) (hcell : H[q]? = some ce) (hv : ce.vm = .none) (hcl : s.vm.findClass E = some ce.cls)
    (hx : ∀ t : State, t.heap = H → s.vm.Alike t.vm → XC E s t) (hf : ∀ z ∈ locs, free z.base) (hc : cells ≤ mc) (hs : slots ≤ ms) :
    vx_W p l e R s m args below meth c H locs cells slots (vx_MQ below Qc XC args s mc ms free) (F0 m pc ls rest) q := by
  intro T hT X
  obtain ⟨st1, hrun, hend, hW, hsm⟩ := X.leaveThrown q (g := F0 m pc ls rest) rfl rfl rfl hout hlocks
  have hcell9 : (T.setFrames (.throwing q :: below)).heap[q]? = some ce := by
    show T.heap[q]? = some ce
    rw [hT]; exact hcell
  exact ⟨_, st1, .threw q, hrun, hend, Or.inr ⟨q, rfl, E, ce, locs, hx _ hT hW.alike, hcell9, hv, hcl, hW, hsm.mono hc hs, hf⟩⟩
theorem vx_frame {U : State} {k n : Nat} (h : s.sameButNew ({ U with vm := s.vm } : State) locs k n) : s.heap.size ≤ U.heap.size ∧ ∀ q : Nat, q < s.heap.size → (∀ z ∈ locs, z.base ≠ q) → U.heap[q]? = s.heap[q]? := by
  obtain ⟨-, h2, -, -, -, h6⟩ := h
  refine ⟨h2, fun q hq hz => ?_⟩
  obtain ⟨c9, e1, e2, e3, e4⟩ := h6 q _ (Array.getElem?_eq_getElem hq)
  have hs : c9.slots = (s.heap[q]).slots := Array.ext_getElem? fun i => e4 i fun hm => hz _ hm rfl
  have h9 : c9 = s.heap[q] := by
    rw [hs] at e2
    exact e2
  have e5 : U.heap[q]? = some c9 := e1
  rw [e5, h9, Array.getElem?_eq_getElem hq]
/-- the words of a throw but the four that speak of the heap -/
def vx_no (w : Cond) : Bool := decide (w ≠ .isRef (.static Bundle.tN "UNASSIGNED_STACK" Bundle.steD)) && decide (w ≠ .isRef (.static Bundle.tN "SUPPRESSED_SENTINEL" Bundle.listD)) && decide (w ≠ .laysStatic Bundle.tN "UNASSIGNED_STACK" Bundle.steD) && decide (w ≠ .laysStatic Bundle.tN "SUPPRESSED_SENTINEL" Bundle.listD)
def vx_at0 (own : String) (ic : Nat) (X : String) (names : List String) : List Cond := (Bundle.ownAtoms0 own ic X names).filter vx_no
def vx_atS (own : String) (ic : Nat) (X : String) (names : List String) : List Cond := (Bundle.ownAtoms own ic X names).filter vx_no
/-- a word that the tables alone decide, or a good one -/
def vx_ot (w : Cond) : Bool := w.onTables || goodWord w
theorem vx_ot_at {args a' : Array Value} {s U : State} {w : Cond} (hW : s.WarmedH U.vm) (hvm : s.vm = U.vm) (hg : vx_ot w = true) (h : w.before args s = true) : w.before a' U = true := by
  simp only [vx_ot, Bool.or_eq_true] at hg
  rcases hg with hg | hg
  · exact va_tabs hg hvm h
  · exact word_at hW (good_of_word hg) h
/-- a list's words: the good ones out of the method's own list, the others by premises of their own -/
theorem vx_hat {args : Array Value} {s : State} {L B : List Cond} (h1 : ∀ w ∈ L.filter goodWord, w.before args s = true) (h2 : ∀ w ∈ L.filter (fun w => !goodWord w), w ∈ B) (h3 : ∀ w ∈ B, w.before args s = true) : ∀ w ∈ L, w.before args s = true := by
  intro w hw
  by_cases g : goodWord w = true
  · exact h1 w (List.mem_filter.mpr ⟨hw, g⟩)
  · refine h3 w (h2 w (List.mem_filter.mpr ⟨hw, ?_⟩))
    show (!goodWord w) = true
    cases hgw : goodWord w
    · rfl
    · exact absurd hgw g
theorem vx_c {args : Array Value} {s : State} {w : Cond} {B : List Cond} (h : w.before args s = true) (t : ∀ w ∈ B, w.before args s = true) : ∀ w' ∈ w :: B, w'.before args s = true := fun w' h' => (List.mem_cons.mp h').elim (fun e => by rw [e]; exact h) (t w')
theorem vx_n {args : Array Value} {s : State} : ∀ w ∈ ([] : List Cond), w.before args s = true := fun _ h => nomatch h
theorem vx_own {args : Array Value} {s : State} {L : List Cond} (h1 : ∀ w ∈ L.filter vx_no, w.before args s = true)
    (hU : (Cond.isRef (.static Bundle.tN "UNASSIGNED_STACK" Bundle.steD)).before args s = true) (hN : (Cond.isRef (.static Bundle.tN "SUPPRESSED_SENTINEL" Bundle.listD)).before args s = true)
    (lU : (Cond.laysStatic Bundle.tN "UNASSIGNED_STACK" Bundle.steD).before args s = true) (lN : (Cond.laysStatic Bundle.tN "SUPPRESSED_SENTINEL" Bundle.listD).before args s = true) : ∀ w ∈ L, w.before args s = true := by
  intro w hw
  by_cases e1 : w = .isRef (.static Bundle.tN "UNASSIGNED_STACK" Bundle.steD)
  · rw [e1]; exact hU
  · by_cases e2 : w = .isRef (.static Bundle.tN "SUPPRESSED_SENTINEL" Bundle.listD)
    · rw [e2]; exact hN
    · by_cases e3 : w = .laysStatic Bundle.tN "UNASSIGNED_STACK" Bundle.steD
      · rw [e3]; exact lU
      · by_cases e4 : w = .laysStatic Bundle.tN "SUPPRESSED_SENTINEL" Bundle.listD
        · rw [e4]; exact lN
        · exact h1 w (List.mem_filter.mpr ⟨hw, by unfold vx_no; rw [decide_eq_true e1, decide_eq_true e2, decide_eq_true e3, decide_eq_true e4]; rfl⟩)
/-- where a static field lies, its class's statics cell in H -/
def vx_L (C n d : String) (A : Nat → Prop) (U : State) (H : Heap) : Prop := ∃ (c : ClassId) (k : Class) (i : Nat) (f : Field) (a : Nat) (cell : Cell), U.vm.findClass C = some c ∧ U.fieldFound? C n d = some (c, k, i, f) ∧ f.isStatic = true ∧ k.statics = some a ∧ H[a]? = some cell ∧ cell.vm.isStatics = true ∧ cell.cls = c ∧ f.slot < cell.slots.size ∧ k.staticTypes[f.slot]? = some f.type ∧ ¬ A a
theorem vx_L.moved {C n d : String} {A : Nat → Prop} {u U : State} {H : Heap} (hvm : u.vm.Alike U.vm) (h : vx_L C n d A u H) : vx_L C n d A U H := by
  obtain ⟨c, k, i, f, a, cell, h1, h2, h3, h4, h5, h6, h7, h8, h9, h10⟩ := h
  obtain ⟨k', hi', he⟩ := State.fieldFound?_setVm hvm h2
  exact ⟨c, k', i, f, a, cell, by rw [hvm.findClass]; exact h1, hi', h3, by rw [he]; exact h4, h5, h6, h7, h8, by rw [he]; exact h9, h10⟩
theorem vx_L.kept {C n d : String} {A : Nat → Prop} {U : State} {H H1 : Heap} (h : vx_L C n d A U H) (hq : ∀ a : Nat, a < H.size → ¬ A a → H1[a]? = H[a]?) : vx_L C n d A U H1 := by
  obtain ⟨c, k, i, f, a, cell, h1, h2, h3, h4, h5, h6, h7, h8, h9, h10⟩ := h
  exact ⟨c, k, i, f, a, cell, h1, h2, h3, h4, by rw [hq a (Array.getElem?_eq_some_iff.mp h5).1 h10]; exact h5, h6, h7, h8, h9, h10⟩
theorem vx_L.narrow {C n d : String} {A B : Nat → Prop} {U : State} {H : Heap} (h : vx_L C n d A U H) (hAB : ∀ q, B q → A q) : vx_L C n d B U H := by
  obtain ⟨c, k, i, f, a, cell, h1, h2, h3, h4, h5, h6, h7, h8, h9, h10⟩ := h
  exact ⟨c, k, i, f, a, cell, h1, h2, h3, h4, h5, h6, h7, h8, h9, fun z => h10 (hAB _ z)⟩
theorem vx_L.word {C n d : String} {A : Nat → Prop} {s : State} {args : Array Value} (h : vx_L C n d A s s.heap) : (Cond.laysStatic C n d).before args s = true := by
  obtain ⟨c, k, i, f, a, cell, h1, h2, h3, h4, h5, h6, h7, h8, h9, -⟩ := h
  show (Cond.laysStatic C n d).holds args s none s [] = true
  exact Cond.laysStatic_of h1 h2 h3 h4 h5 h6 h7 h8 h9
/-- .. and what it holds: null or some reference -/
def vx_Zq (C n d : String) (A : Nat → Prop) (U : State) (H : Heap) : Prop := va_Zq C n d A U H ∧ vx_L C n d A U H
theorem vx_Zq.moved {C n d : String} {A : Nat → Prop} {u U : State} {H : Heap} (hvm : u.vm.Alike U.vm) (h : vx_Zq C n d A u H) : vx_Zq C n d A U H := ⟨va_Zq.moved hvm h.1, vx_L.moved hvm h.2⟩
theorem vx_Zq.kept {C n d : String} {A : Nat → Prop} {U : State} {H H1 : Heap} (h : vx_Zq C n d A U H) (hq : ∀ a : Nat, a < H.size → ¬ A a → H1[a]? = H[a]?) : vx_Zq C n d A U H1 := ⟨va_Zq.kept h.1 hq, vx_L.kept h.2 hq⟩
theorem vx_Zq.narrow {C n d : String} {A B : Nat → Prop} {U : State} {H : Heap} (h : vx_Zq C n d A U H) (hAB : ∀ q, B q → A q) : vx_Zq C n d B U H := ⟨va_Zq.narrow h.1 hAB, vx_L.narrow h.2 hAB⟩
theorem vx_Zqof {args : Array Value} {s : State} {C n d : String} {A : Nat → Prop} (hl : (Cond.laysStatic C n d).before args s = true) (hini : (Cond.initialized C).before args s = true) (h : (Cond.isRef (.static C n d)).before args s = true) (hA : ∀ a : Nat, a < s.heap.size → ¬ A a) : vx_Zq C n d A s s.heap := by
  refine ⟨va_Zqof hl hini h hA, ?_⟩
  obtain ⟨c, k, i, f, a, cell, h1, h2, h3, h4, h5, h6, h7, h8, h9⟩ := Cond.laysStatic_spec hl
  exact ⟨c, k, i, f, a, cell, h1, h2, h3, h4, h5, h6, h7, h8, h9, hA a (Array.getElem?_eq_some_iff.mp h5).1⟩
theorem vx_isRef {C n d : String} {v : Value} {A : Nat → Prop} {s : State} {args : Array Value} (h : va_Z C n d v A s s.heap) (hv : v.isRef = true) : (Cond.isRef (.static C n d)).before args s = true := by
  obtain ⟨cf, kf, fi, f, a, cell, h1, h2, h3, h4, h5, h6, h7, -⟩ := h
  have he : (Term.static C n d).eval args s none [] s = some v := by
    simp [Term.eval, State.fieldNamed?, h1, h2, h4, h5, h6, h7]
  simp only [Cond.before, Cond.holds, Cond.value, he]
  cases v <;> simp_all [Value.isRef]
theorem vx_isRefq {C n d : String} {A : Nat → Prop} {s : State} {args : Array Value} (h : va_Zq C n d A s s.heap) : (Cond.isRef (.static C n d)).before args s = true := by
  rcases h with h | ⟨t, h⟩
  · exact vx_isRef h rfl
  · exact vx_isRef h rfl
/-- the same frame, seen from here: as if the method were called anew in this heap -/
theorem vx_rebase {T : State} (X : Stand p l e R s m args below meth c T locs cells slots) {R' : Room} (hf : R'.frames ≤ R.frames) (hl : R'.locals ≤ R.locals) (hc : cells + R'.cells ≤ R.cells) (hs : slots + R'.slots ≤ R.slots) :
    Stand p l e R' ((T.setVm s.vm).setFrames (.invoking m args :: below)) m args below meth c T [] 0 0 := by
  have htop : (T.setVm s.vm).topJava?.isSome := X.here.top
  have hF : ((T.setVm s.vm).setFrames (.invoking m args :: below)).frames = .invoking m args :: below := State.frames_setFrames _ (State.cur_lt_of_top htop)
  obtain ⟨g₀, hg0⟩ := Option.isSome_iff_exists.mp htop
  obtain ⟨r, hr⟩ := State.topJava?_eq_some.mp hg0
  have hl9 : e.platform.stackLimits (T.setVm s.vm).me = e.platform.stackLimits s.me := X.limits
  have hb9 : (T.setVm s.vm).me.stackBytes = s.me.stackBytes := X.bytes
  refine ⟨X.admits, X.cas, X.clock, hF, ?_, X.hears, X.method, X.code, X.here, X.tail, X.warmed, ?_, ?_, ?_⟩
  · have h := X.room
    have hU : ((T.setVm s.vm).setFrames (.invoking m args :: below)).localsInUse = s.localsInUse := by
      rw [State.localsInUse_invoking hF (meth := meth) (c := c) X.method X.code, State.localsInUse_invoking X.frames X.method X.code]
    simp only [State.hasRoom, Bool.and_eq_true, decide_eq_true_eq] at h ⊢
    obtain ⟨⟨⟨⟨h1, h2, h3, h4, h5, h6⟩, h7⟩, h8⟩, h9⟩ := h
    rw [X.frames, List.length_cons] at h2 h3
    have q1 := X.heapSize
    have q2 := X.used
    simp only [hF, hU, List.length_cons, State.stackLimits_setFrames, State.stackBytes_setFrames, hl9, hb9]
    refine ⟨⟨⟨⟨by omega, by omega, by omega, by omega, by omega, h6⟩, ?_⟩, ?_⟩, X.book⟩
    · show T.heap.size + R'.cells ≤ e.platform.maxCells
      omega
    · show T.slotsUsed + R'.slots ≤ e.platform.maxSlots
      omega
  · rw [State.stackLimits_setFrames]; rfl
  · rw [State.stackBytes_setFrames]; rfl
  · refine ⟨?_, Nat.le_refl _, Nat.le_refl _, ?_, ?_, fun a c9 h9 => ⟨c9, h9, rfl, rfl, fun _ _ => rfl⟩⟩
    · obtain ⟨t, ht, -⟩ := State.frames_cons hr
      show T.setVm s.vm = { ((T.setVm s.vm).setFrames (.invoking m args :: below)).setFrames (T.setVm s.vm).frames with heap := T.heap, slotsUsed := T.slotsUsed }
      rw [State.setFrames_setFrames, State.setFrames_self ht]
      rfl
    · show T.slotsUsed = T.slotsUsed + ((T.heap.toList.drop T.heap.size).map (·.slots.size)).sum
      rw [List.drop_eq_nil_of_le (Nat.le_of_eq Array.length_toList)]
      rfl
    · show ((T.heap.toList.drop T.heap.size).map (·.slots.size)).sum ≤ 0
      rw [List.drop_eq_nil_of_le (Nat.le_of_eq Array.length_toList)]
      exact Nat.le_refl _
/-- 'throw new E()': new; dup; invokespecial; athrow -/
theorem vx_throw0 {cc : ByteArray} {pc : Nat} (hexec : p.tables.exec = Jvm.exec) (hb : c.code = cc) (hl : l.stackTraces = false) {own cls : String} {names : List String} {ik ic mc ms : Nat} {A : Nat → Prop}
    (hown : s.vm.findClass own = some m.cls) (hcls : Bundle.fit cls = true) (hnames : ∀ n ∈ names, Bundle.fit n = true)
    (hk : (Cond.classLink own ik cls).before args s = true) (hini : (Cond.initialized cls).before args s = true) (hat : ∀ w ∈ vx_at0 own ic cls names, w.before args s = true)
    (hgood : ∀ w ∈ Cond.classLink own ik cls :: Cond.initialized cls :: vx_at0 own ic cls names, vx_ot w = true)
    (hU : vx_Zq Bundle.tN "UNASSIGNED_STACK" Bundle.steD A s s.heap) (hN : vx_Zq Bundle.tN "SUPPRESSED_SENTINEL" Bundle.listD A s s.heap) (hS : va_S A s.heap H locs) (hsize : ls.size = c.maxLocals)
    (d0 : decode cc pc = .ok (.new ik, 3)) (d3 : decode cc (pc + 3) = .ok (.dup, 1)) (d4 : decode cc (pc + 4) = .ok (.invokespecial ic, 3)) (d7 : decode cc (pc + 7) = .ok (.athrow, 1))
    (hout : ∀ x ∈ c.exceptionTable.toList, covers x (pc + 7) = false)
    (hRframes : names.length + 3 < R.frames) (hRlocals : (rest.map fun v => v.category).sum + (13 * (names.length + 1) + 42) ≤ R.locals) (hRcells : cells + 1 ≤ R.cells) (hRslots : slots + 6 ≤ R.slots) (hlocks : meth.locks = false)
    (hx : ∀ t : State, s.vm.Alike t.vm → H.size ≤ t.heap.size → (∀ q : Nat, q < H.size → t.heap[q]? = H[q]?) → XC cls s t)
    (hf : ∀ z ∈ locs, free z.base) (hc : cells + 1 ≤ mc) (hs : slots + 6 ≤ ms) :
    W p l e R s m args below meth c H locs cells slots (vx_MQ below Qc XC args s mc ms free) (F0 m pc ls rest) := by
  intro T hT X
  have htr : e.platform.stackTraces = false := (show e.platform.stackTraces = l.stackTraces by rw [X.admits.platform]).trans hl
  have Y := vx_rebase X (R' := { frames := R.frames, locals := R.locals, cells := 1, slots := 6 }) (Nat.le_refl _) (Nat.le_refl _) hRcells hRslots
  obtain ⟨s', hA⟩ : ∃ z, z = (T.setVm s.vm).setFrames (.invoking m args :: below) := ⟨_, rfl⟩
  rw [← hA] at Y
  have hvm : s'.vm = s.vm := by rw [hA]; rfl
  have hhp : s'.heap = H := by rw [hA]; exact hT
  have hW0 : s.WarmedH s'.vm := by rw [hvm]; exact State.WarmedH.refl s
  have hat' : ∀ w ∈ vx_at0 own ic cls names, w.before args s' = true := fun w hw => vx_ot_at hW0 hvm.symm (hgood w (List.mem_cons_of_mem _ (List.mem_cons_of_mem _ hw))) (hat w hw)
  have hk' : (Cond.classLink own ik cls).before args s' = true := vx_ot_at hW0 hvm.symm (hgood _ List.mem_cons_self) hk
  have hini' : (Cond.initialized cls).before args s' = true := vx_ot_at hW0 hvm.symm (hgood _ (List.mem_cons_of_mem _ List.mem_cons_self)) hini
  have hU' : vx_Zq Bundle.tN "UNASSIGNED_STACK" Bundle.steD A s' s'.heap := by rw [hhp]; exact vx_Zq.moved hW0.alike (hU.kept hS.2.1)
  have hN' : vx_Zq Bundle.tN "SUPPRESSED_SENTINEL" Bundle.listD A s' s'.heap := by rw [hhp]; exact vx_Zq.moved hW0.alike (hN.kept hS.2.1)
  have h : ∀ w ∈ Bundle.ownAtoms0 own ic cls names, w.before args s' = true := vx_own hat' (vx_isRefq hU'.1) (vx_isRefq hN'.1) hU'.2.word hN'.2.word
  have hown' : s'.vm.findClass own = some m.cls := by rw [hvm]; exact hown
  have hins : (Cond.instantiable cls 6).before args s' = true := h _ (by simp [Bundle.ownAtoms0])
  obtain ⟨vm₁, cX, kX, hfX, hkX, -, -, X₁, st1⟩ := Y.newCold hexec (own := own) (C := cls) (index := ik) (n := 6) hown' hk' hins hini'
    (g := F0 m pc ls rest) rfl (by rw [hb]; exact d0) (Nat.le_refl _) (Nat.le_refl _)
  generalize hT1 : (T.setVm vm₁).pushCell { cls := cX, slots := kX.instanceTypes.map defaultValue, vm := .none } = T1 at X₁ st1
  have hcat : (Value.ref T.heap.size).category = 1 := rfl
  have hcellA : T1.heap[T.heap.size]? = some (freshCell cX kX) := by rw [← hT1]; exact State.heap_pushCell_size _ _
  have d3' : decode c.code (pc + 3) = .ok (.dup, 1) := by rw [hb]; exact d3
  obtain ⟨U, hsteps, hrun, hend, hW, hsame, ce, hce, hO⟩ := X₁.ctorThrow0 hexec htr (own := own) (cls := cls) (names := names) (ic := ic) hown' hcls hnames h (fun x hx => nomatch hx) hfX hkX hcellA (by rw [hhp, hT]; exact Nat.le_refl _)
    (g := { method := m, pc := pc + 4, locals := ls, stack := .ref T.heap.size :: .ref T.heap.size :: rest, locked := none }) rfl hsize rfl rfl (rest := rest) rfl
    (by rw [hb]; exact d4) (by rw [hb]; exact d7) hout hRframes (by simp only [List.map_cons, List.sum_cons, hcat]; omega) hlocks
  obtain ⟨f1, f2⟩ := vx_frame hsame
  rw [hhp] at f1 f2
  have hWs : s.WarmedH U.vm := State.WarmedH.trans hW0 hW
  have hcl : s.vm.findClass cls = some ce.cls := by
    have h9 := hO.cls
    rw [hvm] at h9
    exact h9
  have hall : s.sameButNew ({ U with vm := s.vm } : State) locs mc ms := by
    subst hA
    obtain ⟨e1, e2⟩ := hsame
    rw [State.setFrames_setFrames] at e1
    have h2 : (T.setVm s.vm).sameButNew ({ U with vm := s.vm } : State) [] (0 + 1) (0 + 6) := ⟨e1, e2⟩
    have h3 := X.same.trans h2
    rw [List.append_nil] at h3
    exact h3.mono hc hs
  refine ⟨U, ?_, .threw T.heap.size, hrun, hend, Or.inr ⟨T.heap.size, rfl, cls, ce, locs, hx U hWs.alike f1 (fun q hq => f2 q hq (fun z hz => nomatch hz)), hce, hO.vm, hcl, hWs, hall, hf⟩⟩
  refine st1 _ ?_
  show Steps p.tables e below (T1.setTop { method := m, pc := pc + 3, locals := ls, stack := .ref T.heap.size :: rest, locked := none }) _
  jvm_step X₁.here [X₁.here.top, hexec, d3', Value.category]
  exact hsteps
/-- 'throw new E("text")': new; dup; ldc; invokespecial; athrow -/
theorem vx_throwS {cc : ByteArray} {pc : Nat} (hexec : p.tables.exec = Jvm.exec) (hb : c.code = cc) (hl : l.stackTraces = false) {own cls text : String} {names : List String} {ik is ic mc ms sa : Nat} {A : Nat → Prop}
    (hown : s.vm.findClass own = some m.cls) (hcls : Bundle.fit cls = true) (hnames : ∀ n ∈ names, Bundle.fit n = true)
    (hk : (Cond.classLink own ik cls).before args s = true) (hini : (Cond.initialized cls).before args s = true) (hstr : vk_R own is text sa s) (hat : ∀ w ∈ vx_atS own ic cls names, w.before args s = true)
    (hgood : ∀ w ∈ Cond.classLink own ik cls :: Cond.initialized cls :: vx_atS own ic cls names, vx_ot w = true)
    (hU : vx_Zq Bundle.tN "UNASSIGNED_STACK" Bundle.steD A s s.heap) (hN : vx_Zq Bundle.tN "SUPPRESSED_SENTINEL" Bundle.listD A s s.heap) (hS : va_S A s.heap H locs) (hsize : ls.size = c.maxLocals)
    (d0 : decode cc pc = .ok (.new ik, 3)) (d3 : decode cc (pc + 3) = .ok (.dup, 1)) (d4 : decode cc (pc + 4) = .ok (.ldc is, 2)) (d6 : decode cc (pc + 6) = .ok (.invokespecial ic, 3)) (d9 : decode cc (pc + 9) = .ok (.athrow, 1))
    (hout : ∀ x ∈ c.exceptionTable.toList, covers x (pc + 9) = false)
    (hRframes : names.length + 3 < R.frames) (hRlocals : (rest.map fun v => v.category).sum + (13 * (names.length + 1) + 43) ≤ R.locals) (hRcells : cells + 1 ≤ R.cells) (hRslots : slots + 6 ≤ R.slots) (hlocks : meth.locks = false)
    (hx : ∀ t : State, s.vm.Alike t.vm → H.size ≤ t.heap.size → (∀ q : Nat, q < H.size → t.heap[q]? = H[q]?) → XC cls s t)
    (hf : ∀ z ∈ locs, free z.base) (hc : cells + 1 ≤ mc) (hs : slots + 6 ≤ ms) :
    W p l e R s m args below meth c H locs cells slots (vx_MQ below Qc XC args s mc ms free) (F0 m pc ls rest) := by
  intro T hT X
  have htr : e.platform.stackTraces = false := (show e.platform.stackTraces = l.stackTraces by rw [X.admits.platform]).trans hl
  have Y := vx_rebase X (R' := { frames := R.frames, locals := R.locals, cells := 1, slots := 6 }) (Nat.le_refl _) (Nat.le_refl _) hRcells hRslots
  obtain ⟨s', hA⟩ : ∃ z, z = (T.setVm s.vm).setFrames (.invoking m args :: below) := ⟨_, rfl⟩
  rw [← hA] at Y
  have hvm : s'.vm = s.vm := by rw [hA]; rfl
  have hhp : s'.heap = H := by rw [hA]; exact hT
  have hW0 : s.WarmedH s'.vm := by rw [hvm]; exact State.WarmedH.refl s
  have hat' : ∀ w ∈ vx_atS own ic cls names, w.before args s' = true := fun w hw => vx_ot_at hW0 hvm.symm (hgood w (List.mem_cons_of_mem _ (List.mem_cons_of_mem _ hw))) (hat w hw)
  have hk' : (Cond.classLink own ik cls).before args s' = true := vx_ot_at hW0 hvm.symm (hgood _ List.mem_cons_self) hk
  have hini' : (Cond.initialized cls).before args s' = true := vx_ot_at hW0 hvm.symm (hgood _ (List.mem_cons_of_mem _ List.mem_cons_self)) hini
  have hU' : vx_Zq Bundle.tN "UNASSIGNED_STACK" Bundle.steD A s' s'.heap := by rw [hhp]; exact vx_Zq.moved hW0.alike (hU.kept hS.2.1)
  have hN' : vx_Zq Bundle.tN "SUPPRESSED_SENTINEL" Bundle.listD A s' s'.heap := by rw [hhp]; exact vx_Zq.moved hW0.alike (hN.kept hS.2.1)
  have h : ∀ w ∈ Bundle.ownAtoms own ic cls names, w.before args s' = true := vx_own hat' (vx_isRefq hU'.1) (vx_isRefq hN'.1) hU'.2.word hN'.2.word
  have hown' : s'.vm.findClass own = some m.cls := by rw [hvm]; exact hown
  have hins : (Cond.instantiable cls 6).before args s' = true := h _ (by simp [Bundle.ownAtoms])
  obtain ⟨vm₁, cX, kX, hfX, hkX, -, -, X₁, st1⟩ := Y.newCold hexec (own := own) (C := cls) (index := ik) (n := 6) hown' hk' hins hini'
    (g := F0 m pc ls rest) rfl (by rw [hb]; exact d0) (Nat.le_refl _) (Nat.le_refl _)
  generalize hT1 : (T.setVm vm₁).pushCell { cls := cX, slots := kX.instanceTypes.map defaultValue, vm := .none } = T1 at X₁ st1
  have hcat : (Value.ref T.heap.size).category = 1 := rfl
  have hcellA : T1.heap[T.heap.size]? = some (freshCell cX kX) := by rw [← hT1]; exact State.heap_pushCell_size _ _
  have d3' : decode c.code (pc + 3) = .ok (.dup, 1) := by rw [hb]; exact d3
  have d4' : decode c.code (pc + 4) = .ok (.ldc is, 2) := by rw [hb]; exact d4
  have hstr' : vk_R own is text sa s' := vk_R.warm hW0 hstr
  obtain ⟨U, hsteps, hrun, hend, hW, hsame, ce, hce, hO⟩ := X₁.ctorThrowS hexec htr (own := own) (cls := cls) (names := names) (ic := ic) hown' hcls hnames h (fun x hx => nomatch hx) hfX hkX hcellA (by rw [hhp, hT]; exact Nat.le_refl _) (msg := .ref sa) rfl
    (g := { method := m, pc := pc + 6, locals := ls, stack := .ref sa :: .ref T.heap.size :: .ref T.heap.size :: rest, locked := none }) rfl hsize rfl rfl (rest := rest) rfl
    (by rw [hb]; exact d6) (by rw [hb]; exact d9) hout hRframes (by simp only [List.map_cons, List.sum_cons, hcat]; omega) hlocks
  obtain ⟨f1, f2⟩ := vx_frame hsame
  rw [hhp] at f1 f2
  have hWs : s.WarmedH U.vm := State.WarmedH.trans hW0 hW
  have hcl : s.vm.findClass cls = some ce.cls := by
    have h9 := hO.cls
    rw [hvm] at h9
    exact h9
  have hall : s.sameButNew ({ U with vm := s.vm } : State) locs mc ms := by
    subst hA
    obtain ⟨e1, e2⟩ := hsame
    rw [State.setFrames_setFrames] at e1
    have h2 : (T.setVm s.vm).sameButNew ({ U with vm := s.vm } : State) [] (0 + 1) (0 + 6) := ⟨e1, e2⟩
    have h3 := X.same.trans h2
    rw [List.append_nil] at h3
    exact h3.mono hc hs
  refine ⟨U, ?_, .threw T.heap.size, hrun, hend, Or.inr ⟨T.heap.size, rfl, cls, ce, locs, hx U hWs.alike f1 (fun q hq => f2 q hq (fun z hz => nomatch hz)), hce, hO.vm, hcl, hWs, hall, hf⟩⟩
  refine st1 _ ?_
  show Steps p.tables e below (T1.setTop { method := m, pc := pc + 3, locals := ls, stack := .ref T.heap.size :: rest, locked := none }) _
  jvm_step X₁.here [X₁.here.top, hexec, d3', Value.category]
  exact X₁.ldcString hexec (own := own) (text := text) (index := is) (a := sa) hown' hstr'.1 hstr'.2
    (g := { method := m, pc := pc + 4, locals := ls, stack := .ref T.heap.size :: .ref T.heap.size :: rest, locked := none }) rfl d4' _ hsteps
/-- 'throw new E("text")', the text by a wide index -/
theorem vx_throwSW {cc : ByteArray} {pc : Nat} (hexec : p.tables.exec = Jvm.exec) (hb : c.code = cc) (hl : l.stackTraces = false) {own cls text : String} {names : List String} {ik is ic mc ms sa : Nat} {A : Nat → Prop}
    (hown : s.vm.findClass own = some m.cls) (hcls : Bundle.fit cls = true) (hnames : ∀ n ∈ names, Bundle.fit n = true)
    (hk : (Cond.classLink own ik cls).before args s = true) (hini : (Cond.initialized cls).before args s = true) (hstr : vk_R own is text sa s) (hat : ∀ w ∈ vx_atS own ic cls names, w.before args s = true)
    (hgood : ∀ w ∈ Cond.classLink own ik cls :: Cond.initialized cls :: vx_atS own ic cls names, vx_ot w = true)
    (hU : vx_Zq Bundle.tN "UNASSIGNED_STACK" Bundle.steD A s s.heap) (hN : vx_Zq Bundle.tN "SUPPRESSED_SENTINEL" Bundle.listD A s s.heap) (hS : va_S A s.heap H locs) (hsize : ls.size = c.maxLocals)
    (d0 : decode cc pc = .ok (.new ik, 3)) (d3 : decode cc (pc + 3) = .ok (.dup, 1)) (d4 : decode cc (pc + 4) = .ok (.ldc_w is, 3)) (d7 : decode cc (pc + 7) = .ok (.invokespecial ic, 3)) (d10 : decode cc (pc + 10) = .ok (.athrow, 1))
    (hout : ∀ x ∈ c.exceptionTable.toList, covers x (pc + 10) = false)
    (hRframes : names.length + 3 < R.frames) (hRlocals : (rest.map fun v => v.category).sum + (13 * (names.length + 1) + 43) ≤ R.locals) (hRcells : cells + 1 ≤ R.cells) (hRslots : slots + 6 ≤ R.slots) (hlocks : meth.locks = false)
    (hx : ∀ t : State, s.vm.Alike t.vm → H.size ≤ t.heap.size → (∀ q : Nat, q < H.size → t.heap[q]? = H[q]?) → XC cls s t)
    (hf : ∀ z ∈ locs, free z.base) (hc : cells + 1 ≤ mc) (hs : slots + 6 ≤ ms) :
    W p l e R s m args below meth c H locs cells slots (vx_MQ below Qc XC args s mc ms free) (F0 m pc ls rest) := by
  intro T hT X
  have htr : e.platform.stackTraces = false := (show e.platform.stackTraces = l.stackTraces by rw [X.admits.platform]).trans hl
  have Y := vx_rebase X (R' := { frames := R.frames, locals := R.locals, cells := 1, slots := 6 }) (Nat.le_refl _) (Nat.le_refl _) hRcells hRslots
  obtain ⟨s', hA⟩ : ∃ z, z = (T.setVm s.vm).setFrames (.invoking m args :: below) := ⟨_, rfl⟩
  rw [← hA] at Y
  have hvm : s'.vm = s.vm := by rw [hA]; rfl
  have hhp : s'.heap = H := by rw [hA]; exact hT
  have hW0 : s.WarmedH s'.vm := by rw [hvm]; exact State.WarmedH.refl s
  have hat' : ∀ w ∈ vx_atS own ic cls names, w.before args s' = true := fun w hw => vx_ot_at hW0 hvm.symm (hgood w (List.mem_cons_of_mem _ (List.mem_cons_of_mem _ hw))) (hat w hw)
  have hk' : (Cond.classLink own ik cls).before args s' = true := vx_ot_at hW0 hvm.symm (hgood _ List.mem_cons_self) hk
  have hini' : (Cond.initialized cls).before args s' = true := vx_ot_at hW0 hvm.symm (hgood _ (List.mem_cons_of_mem _ List.mem_cons_self)) hini
  have hU' : vx_Zq Bundle.tN "UNASSIGNED_STACK" Bundle.steD A s' s'.heap := by rw [hhp]; exact vx_Zq.moved hW0.alike (hU.kept hS.2.1)
  have hN' : vx_Zq Bundle.tN "SUPPRESSED_SENTINEL" Bundle.listD A s' s'.heap := by rw [hhp]; exact vx_Zq.moved hW0.alike (hN.kept hS.2.1)
  have h : ∀ w ∈ Bundle.ownAtoms own ic cls names, w.before args s' = true := vx_own hat' (vx_isRefq hU'.1) (vx_isRefq hN'.1) hU'.2.word hN'.2.word
  have hown' : s'.vm.findClass own = some m.cls := by rw [hvm]; exact hown
  have hins : (Cond.instantiable cls 6).before args s' = true := h _ (by simp [Bundle.ownAtoms])
  obtain ⟨vm₁, cX, kX, hfX, hkX, -, -, X₁, st1⟩ := Y.newCold hexec (own := own) (C := cls) (index := ik) (n := 6) hown' hk' hins hini'
    (g := F0 m pc ls rest) rfl (by rw [hb]; exact d0) (Nat.le_refl _) (Nat.le_refl _)
  generalize hT1 : (T.setVm vm₁).pushCell { cls := cX, slots := kX.instanceTypes.map defaultValue, vm := .none } = T1 at X₁ st1
  have hcat : (Value.ref T.heap.size).category = 1 := rfl
  have hcellA : T1.heap[T.heap.size]? = some (freshCell cX kX) := by rw [← hT1]; exact State.heap_pushCell_size _ _
  have d3' : decode c.code (pc + 3) = .ok (.dup, 1) := by rw [hb]; exact d3
  have d4' : decode c.code (pc + 4) = .ok (.ldc_w is, 3) := by rw [hb]; exact d4
  have hstr' : vk_R own is text sa s' := vk_R.warm hW0 hstr
  obtain ⟨U, hsteps, hrun, hend, hW, hsame, ce, hce, hO⟩ := X₁.ctorThrowS hexec htr (own := own) (cls := cls) (names := names) (ic := ic) hown' hcls hnames h (fun x hx => nomatch hx) hfX hkX hcellA (by rw [hhp, hT]; exact Nat.le_refl _) (msg := .ref sa) rfl
    (g := { method := m, pc := pc + 7, locals := ls, stack := .ref sa :: .ref T.heap.size :: .ref T.heap.size :: rest, locked := none }) rfl hsize rfl rfl (rest := rest) rfl
    (by rw [hb]; exact d7) (by rw [hb]; exact d10) hout hRframes (by simp only [List.map_cons, List.sum_cons, hcat]; omega) hlocks
  obtain ⟨f1, f2⟩ := vx_frame hsame
  rw [hhp] at f1 f2
  have hWs : s.WarmedH U.vm := State.WarmedH.trans hW0 hW
  have hcl : s.vm.findClass cls = some ce.cls := by
    have h9 := hO.cls
    rw [hvm] at h9
    exact h9
  have hall : s.sameButNew ({ U with vm := s.vm } : State) locs mc ms := by
    subst hA
    obtain ⟨e1, e2⟩ := hsame
    rw [State.setFrames_setFrames] at e1
    have h2 : (T.setVm s.vm).sameButNew ({ U with vm := s.vm } : State) [] (0 + 1) (0 + 6) := ⟨e1, e2⟩
    have h3 := X.same.trans h2
    rw [List.append_nil] at h3
    exact h3.mono hc hs
  refine ⟨U, ?_, .threw T.heap.size, hrun, hend, Or.inr ⟨T.heap.size, rfl, cls, ce, locs, hx U hWs.alike f1 (fun q hq => f2 q hq (fun z hz => nomatch hz)), hce, hO.vm, hcl, hWs, hall, hf⟩⟩
  refine st1 _ ?_
  show Steps p.tables e below (T1.setTop { method := m, pc := pc + 3, locals := ls, stack := .ref T.heap.size :: rest, locked := none }) _
  jvm_step X₁.here [X₁.here.top, hexec, d3', Value.category]
  exact X₁.ldcStringW hexec (own := own) (text := text) (index := is) (a := sa) hown' hstr'.1 hstr'.2
    (g := { method := m, pc := pc + 4, locals := ls, stack := .ref T.heap.size :: .ref T.heap.size :: rest, locked := none }) rfl d4' _ hsteps
end Ends
section Bodies
variable {l : Launch}
theorem vx_ofW {y : MethodName} {ws ws' : List Cond} {rm : Room} {Pc : Array Value → State → Prop} {Qc : Array Value → State → Outcome → State → Prop} {XC : String → State → State → Prop} {mc ms : Nat} {free : Addr → Prop} {cc : ByteArray} {maxL : Nat} {ret : Option FieldType}
    (hy : plainName y.cls = true) (hw : ws = Cond.code y cc maxL ret :: ws')
    (body : ∀ p e s m args below meth c s₁, BodyLoose p l y (headSpec ws rm) cc maxL ret e s m args below meth c s₁ → c.maxLocals = maxL → (∀ x ∈ c.exceptionTable.toList, False) → Pc args s →
      W p l e (headSpec ws rm).room s m args below meth c s.heap [] 0 0 (vx_MQ below Qc XC args s mc ms free) (entryFrame m args maxL)) : vx_Met l y ws rm Pc Qc XC mc ms free := by
  refine MetFree.of_bodyS (code := cc) (maxLocals := maxL) (ret := ret) hy ?_ ?_
  · intro args s m h hn
    obtain ⟨meth, c, h1, h2, h3, h4, h5, h6, -, -⟩ := Cond.code_spec hn (atoms_spec (ws := ws) h _ (by rw [hw]; exact List.mem_cons_self))
    exact ⟨meth, c, h1, h2, h3, h4, h5, h6⟩
  · intro p e s m args below meth c s₁ B hml hP _
    have hh0 : s₁.heap = s.heap := by rw [B.state]; rfl
    have ht : ∀ x ∈ c.exceptionTable.toList, False := by
      obtain ⟨meth9, c9, h1, h2, -, -, -, -, h7, -⟩ := Cond.code_spec B.named (atoms_spec (ws := ws) B.pre _ (by rw [hw]; exact List.mem_cons_self))
      cases Option.some.inj (h1.symm.trans B.method)
      cases Option.some.inj (h2.symm.trans (Stand.of_body B).code)
      intro x hx
      rw [Array.isEmpty_iff.mp h7] at hx
      cases hx
    obtain ⟨t, a1, o, b1, b2, b3⟩ := body p e s m args below meth c s₁ B hml ht hP s₁ hh0 (Stand.of_body B)
    exact ⟨t, o, a1, b1, b2, b3⟩
/-- the table of a body with handlers -/
theorem vx_table {p : Program} {x y : MethodName} {S : Spec} {cc bytes : ByteArray} {maxL maxL' : Nat} {ret ret' : Option FieldType} {e : Env} {s s₁ : State} {m : MethodId} {args : Array Value} {below : List Frame} {meth : Method} {c : Code} {hh : List (Nat × Nat × Nat × Nat)}
    (B : BodyLoose p l y S cc maxL ret e s m args below meth c s₁) (h : (Cond.codeWith y bytes maxL' ret' hh).before args s = true) : c.exceptionTable.toList = tableOf hh := by
  obtain ⟨m9, meth9, c9, hn9, h1, h2, -, -, h6, -⟩ := Cond.codeWith_spec h
  cases Option.some.inj (hn9.symm.trans B.named)
  cases Option.some.inj (h1.symm.trans B.method)
  cases Option.some.inj (h2.symm.trans (Stand.of_body B).code)
  rw [← h6, table_eq]
end Bodies
end VXA
/-! ===== END ===== -/
/-! ===== BEGIN a static call of a method with an exception table ===== -/
section VXS
variable {p : Program} {l : Launch} {e : Env} {R : Room} {s : State} {m : MethodId} {args : Array Value} {below : List Frame} {meth : Method} {c : Code} {T : State} {H : Heap} {locs : List Loc} {cells slots : Nat}
abbrev vx_CSW (R : Room) (s : State) (args : Array Value) (own : String) (index : Nat) (y : MethodName) (bytes : ByteArray) (maxL : Nat) (ret : Option FieldType) (hh : List (Nat × Nat × Nat × Nat)) (ws : List Cond) (rm : Room) (mc ms n : Nat) : Prop :=
  (rm.cells = mc ∧ rm.slots = ms ∧ rm.frames + 1 ≤ R.frames ∧ 8 + (maxL + 11) + rm.locals ≤ R.locals ∧ (∀ w ∈ ws, ∀ (a' : Array Value) (U : State), s.WarmedH U.vm → w.before a' U = true) ∧ Cond.codeWith y bytes maxL ret hh ∈ ws) ∧
  (Cond.codeWith y bytes maxL ret hh).before args s = true ∧ (Cond.initialized y.cls).before args s = true ∧ (y.cls ≠ "java/lang/invoke/MethodHandle" ∧ y.cls ≠ "java/lang/invoke/VarHandle") ∧
  (∀ sig, parseMethodDescriptor y.desc = some sig → n = sig.parameters.length) ∧ (Cond.methodLink own index y).before args s = true ∧ (Cond.static y).before args s = true
theorem vx_cwSW {own : String} {index maxL mc ms : Nat} {y : MethodName} {bytes : ByteArray} {ret : Option FieldType} {hh : List (Nat × Nat × Nat × Nat)} {Ts ws ws' : List Cond} {rm : Room} (n : Nat) (ht : ∀ w ∈ Ts, w.before args s = true) (hT : GoodIn Ts (va_wsS own index y ws)) (hw : ws = Cond.codeWith y bytes maxL ret hh :: ws') (hrc : rm.cells = mc) (hrs : rm.slots = ms)
    (hd : y.cls ≠ "java/lang/invoke/MethodHandle" ∧ y.cls ≠ "java/lang/invoke/VarHandle" ∧ (parseMethodDescriptor y.desc).map (fun d => d.parameters.length) = some n) (hR : rm.frames + 1 ≤ R.frames ∧ 8 + (maxL + 11) + rm.locals ≤ R.locals) :
    vx_CSW R s args own index y bytes maxL ret hh ws rm mc ms n := by
  have ok : ∀ w ∈ va_wsS own index y ws, w.before args s = true := fun w h => ht w (hT w h).1
  have hG : GoodIn Ts ws := fun w h => hT w (by unfold va_wsS; exact List.mem_append_right _ h)
  have hc : Cond.codeWith y bytes maxL ret hh ∈ ws := by rw [hw]; exact List.mem_cons_self
  refine ⟨⟨hrc, hrs, hR.1, hR.2, pay_in ht hG, hc⟩, ht _ (hG _ hc).1, ok _ (by simp [va_wsS]), ⟨hd.1, hd.2.1⟩, fun sig h => ?_, ok _ (by simp [va_wsS]), ok _ (by simp [va_wsS])⟩
  have h2 := hd.2.2
  rw [h] at h2
  exact (Option.some.inj h2).symm
theorem vx_callSW (X : Stand p l e R s m args below meth c T locs cells slots) (hexec : p.tables.exec = Jvm.exec) {own : String} {index : Nat} {y : MethodName} {bytes : ByteArray} {maxL : Nat} {ret : Option FieldType} {hh : List (Nat × Nat × Nat × Nat)}
    (hown : s.vm.findClass own = some m.cls) (hlink : (Cond.methodLink own index y).before args s = true) (hstat : (Cond.static y).before args s = true) (hinit : (Cond.initialized y.cls).before args s = true)
    (hcode : (Cond.codeWith y bytes maxL ret hh).before args s = true) (hy : y.cls ≠ "java/lang/invoke/MethodHandle" ∧ y.cls ≠ "java/lang/invoke/VarHandle")
    {W9 : Nat} {Pre : Pt → Array Value → Prop} {Post : Pt → Array Value → Option Value → Pt → Prop} (hK : Back l R p e below s args y 3 W9 Pre Post)
    {g : JFrame} (hg : g.method = m) (hsize : g.locals.size = c.maxLocals) {argsL rest : List Value} (hlen : ∀ sig, parseMethodDescriptor y.desc = some sig → argsL.length = sig.parameters.length)
    (hstack : g.stack = argsL.reverse ++ rest) (hW : 2 * g.monitorRoom + (rest.map fun v => v.category).sum ≤ W9) (hdg : decode c.code g.pc = .ok (.invokestatic index, 3))
    (hpre : ∀ vm₁, s.WarmedH vm₁ → Pre ⟨T.setVm vm₁, locs, cells, slots⟩ argsL.toArray) :
    ∃ (v : Option Value) (vm₁ : Vm) (B : Pt), s.WarmedH vm₁ ∧ Stand p l e R s m args below meth c B.U B.locs B.cells B.slots ∧ Post ⟨T.setVm vm₁, locs, cells, slots⟩ argsL.toArray v B ∧
      ∀ target, Steps p.tables e below (B.U.setTop { g with pc := g.pc + 3, stack := v.toList ++ rest }) target → Steps p.tables e below (T.setTop g) target := by
  obtain ⟨mk, methM, cM, hnamed, hmethM, -, -, -, -, -, -, hsigM⟩ := Cond.codeWith_spec hcode
  have hstatic : methM.isStatic = true := Cond.static_spec hnamed hmethM hstat
  obtain ⟨kP, hkP, -⟩ := className_of_methodNamed hnamed
  have hinitP : kP.init = .initialized := Cond.initialized_spec (findClass_of_methodNamed hnamed) hkP hinit
  obtain ⟨vm₁, X₁, hstep₁⟩ := X.invokestatic hexec hown hlink hnamed hmethM hstatic hkP hinitP hy (g := g) hg (argsL := argsL) (rest := rest) (hlen _ hsigM) hstack hdg
  obtain ⟨v, B, X', hpost, hsteps⟩ := hK m meth c ⟨T.setVm vm₁, locs, cells, slots⟩ { g with stack := rest } (.invokestatic index) mk argsL.toArray X₁ hg hsize hdg hW (X₁.named hnamed) (hpre vm₁ X₁.warmed)
  exact ⟨v, vm₁, B, X₁.warmed, X', hpost, fun target h => hstep₁ _ fun acts => by rw [doInvoke_state]; exact hsteps.trans h⟩
theorem vx_runSW {y : MethodName} {bytes cc : ByteArray} {maxL nL mc ms n index : Nat} {ret : Option FieldType} {hh : List (Nat × Nat × Nat × Nat)} {ws : List Cond} {rm : Room} {Pc : Array Value → State → Prop} {Qc : Array Value → State → Outcome → State → Prop} {free : Addr → Prop} {Ts : List Cond} {own : String} {As rest : List Value} {g : JFrame}
    (S : CallFix p m c cc nL s args Ts own) (hM : Met l y ws rm Pc Qc mc ms free) (cw : vx_CSW R s args own index y bytes maxL ret hh ws rm mc ms n) (hp : PreS s H Pc As)
    (hg : g.method = m) (hn : As.length = n) (hsize : g.locals.size = nL) (hstack : g.stack = As.reverse ++ rest) (hW : 2 * g.monitorRoom + (rest.map fun v => v.category).sum ≤ 8) (hdg : decode cc g.pc = .ok (.invokestatic index, 3)) (hf : cells + mc ≤ R.cells ∧ slots + ms ≤ R.slots) :
    va_Run p l e R s m args below meth c H locs cells slots mc ms g rest (Qc As.toArray) (free) := by
  obtain ⟨⟨hrc, hrs, hfr, hlo, hws, hcw⟩, hcode, hini, hy, hlen, hl, hstt⟩ := cw
  have hK : Back l R p e below s args y 3 8 (PreOf R mc ms Pc) (PostOf Qc mc ms free) := va_backW (hh := hh) (bytes := bytes) (maxL := maxL) (ret := ret) hM hp.1 hrc hrs hfr hlo hws hcw (fun a' U hW => word_at hW (Or.inl (by first | rfl | simp [Cond.onTables, Cond.keeps, Cond.steady])) hini)
  obtain ⟨hx, hb, hml, ho, -⟩ := S
  intro T hT X
  obtain ⟨v, vm₁, ⟨U', l2, c2, s2⟩, hW₁, X', ⟨g', mk, t, L, e1, e2, hq, h1, hL, h2, h3⟩, st⟩ := vx_callSW X hx (hh := hh) (bytes := bytes) (maxL := maxL) (ret := ret) ho hl hstt hini hcode hy hK hg (hsize.trans hml.symm) (argsL := As) (rest := rest) (fun sig h => hn.trans (hlen sig h)) hstack hW (by rw [hb]; exact hdg)
    (fun vm₁ hW₁ => ⟨hf.1, hf.2, hp.2 (T.setVm vm₁) hT hW₁⟩)
  dsimp only [Pt.U, Pt.locs, Pt.cells, Pt.slots] at X' e1 e2 h1 h2 h3 st
  subst h1; subst h2; subst h3
  exact ⟨v, (T.setVm vm₁).calling g' mk As.toArray, t, U', L, hT, X', hL, e1, e2, hq, st⟩
/-- not caught here, past rows that name other classes: it goes on to the caller -/
theorem vx_outP {p : Program} {l : Launch} {e : Env} {R : Room} {s : State} {m : MethodId} {args : Array Value} {below : List Frame} {meth : Method} {c : Code} {H : Heap} {locs : List Loc} {cells slots : Nat} {free : Addr → Prop} {ls : Array Slot} {rest : List Value} {Qc : Array Value → State → Outcome → State → Prop} {XC : String → State → State → Prop}
    {pc : Nat} {own E : String} {ce : Cell} {q : Addr} {mc ms : Nat} (hown : s.vm.findClass own = some m.cls) (hlocks : meth.locks = false)
    (hpass : ∀ z ∈ c.exceptionTable.toList, covers z pc = false ∨ (z.catchType ≠ 0 ∧ ∃ nm : String, (Cond.classLink own z.catchType nm).before args s = true ∧ va_Nc E nm s)) (hcell : H[q]? = some ce) (hv : ce.vm = .none) (hcl : s.vm.findClass E = some ce.cls)
    (hx : ∀ t : State, t.heap = H → s.vm.Alike t.vm → XC E s t) (hf : ∀ z ∈ locs, free z.base) (hc : cells ≤ mc) (hs : slots ≤ ms) :
    vx_W p l e R s m args below meth c H locs cells slots (vx_MQ below Qc XC args s mc ms free) (F0 m pc ls rest) q := by
  intro T hT X
  have hpl : e.platform.magicAccessors = ({} : Platform).magicAccessors := by rw [X.admits.platform]
  obtain ⟨vm', hW', X', st⟩ := X.outThrough hlocks q (g := F0 m pc ls rest) rfl rfl rfl (cell := ce) (by rw [hT]; exact hcell) (by rw [hv]; rfl)
    (by obtain ⟨k9, h9, -⟩ := Vm.findClass_spec hcl; exact ⟨k9, h9⟩) (fun z hz => by
      rcases hpass z hz with h | ⟨hz0, nm, hl1, hn1⟩
      · exact Or.inl h
      · obtain ⟨c6, hc6, hcl6⟩ := Cond.classLink_spec hown hl1 e.platform hpl
        obtain ⟨a8, b8, h1, h2, h3⟩ := hn1
        cases Option.some.inj (h1.symm.trans hcl)
        cases Option.some.inj (h2.symm.trans hc6)
        exact Or.inr ⟨hz0, _, hcl6, h3⟩)
  obtain ⟨g₀, hfr⟩ := X'.frames_eq
  have hcell9 : ((T.setVm vm').setFrames (.throwing q :: below)).heap[q]? = some ce := by
    show T.heap[q]? = some ce
    rw [hT]; exact hcell
  have hend : Ended ((T.setVm vm').setFrames (.throwing q :: below)) below (.threw q) := State.frames_setFrames _ (State.cur_lt_of_frames hfr)
  refine ⟨(T.setVm vm').setFrames (.throwing q :: below), ?_, .threw q, X'.here.running, hend, Or.inr ⟨q, rfl, E, ce, locs, hx _ hT (X'.ends _).1.alike, hcell9, hv, hcl, (X'.ends _).1, (X'.ends _).2.mono hc hs, hf⟩⟩
  rw [X.pushThrowing_eq]
  exact st
/-- a thing of a world lies in the heap -/
theorem vx_lt {D : va_G} {cl : List vw_C} {ws : va_W} {H1 : Heap} (h : va_P D cl ws H1) {k : Nat} {q : Nat × va_E} (hk : ws[k]? = some q) : q.1 < H1.size := (h k q hk).lt
end VXS
/-! ===== END ===== -/
/-! ===== BEGIN methods with a table of their own: called by a name, returning or throwing ===== -/
section VXH
/-! vx_backW, vx_callVX, vx_callSX, vx_callVW, vx_runVW, vx_runVX, vx_runSX, vx_ofWH follow the same proofs as their sisters above (Free/Laws.lean, Shelf42/LK1.lean); vx_outP calls Shelf42/NT130.lean (outThrough). -/
section
variable {l : Launch} {R : Room} {p : Program} {e : Env} {below : List Frame} {s : State} {sargs : Array Value} {y : MethodName} {len W9 : Nat}
theorem vx_backW {ws : List Cond} {rm : Room} {Pc : Array Value → State → Prop} {Qc : Array Value → State → Outcome → State → Prop} {XC : String → State → State → Prop} {mc ms : Nat} {free : Addr → Prop} {bytes : ByteArray} {maxL : Nat} {ret : Option FieldType} {hh : List (Nat × Nat × Nat × Nat)}
    (hM : vx_Met l y ws rm Pc Qc XC mc ms free) (hblind : FrameBlind Pc) (hrc : rm.cells = mc) (hrs : rm.slots = ms)
    (hframes : rm.frames + 1 ≤ R.frames) (hlocals : W9 + (maxL + 11) + rm.locals ≤ R.locals)
    (hws : ∀ w ∈ ws, ∀ a' U, s.WarmedH U.vm → w.before a' U = true) (hcode : Cond.codeWith y bytes maxL ret hh ∈ ws) (hinit : ∀ a' U, s.WarmedH U.vm → (Cond.initialized y.cls).before a' U = true) :
    vx_Back l R p e below s sargs y len W9 (PreOf R mc ms Pc) (PostOf Qc mc ms free) (vx_Post XC mc ms free) := by
  intro m meth c A g ig mk a X hg hsize hdg hW hn hp
  have h1 : (headSpec ws rm).pre.before a A.U = true := atoms_intro fun w hw => hws w hw _ _ X.warmed
  have h2 : (Cond.codeWith y bytes maxL ret hh).before a A.U = true := hws _ hcode _ _ X.warmed
  have h3 : (Cond.initialized y.cls).before a A.U = true := hinit _ _ X.warmed
  have h4 : A.cells + (headSpec ws rm).room.cells ≤ R.cells := by rw [show (headSpec ws rm).room.cells = mc from hrc]; exact hp.1
  have h5 : A.slots + (headSpec ws rm).room.slots ≤ R.slots := by rw [show (headSpec ws rm).room.slots = ms from hrs]; exact hp.2.1
  have hPc : Pc a (A.U.calling g mk a) := hblind _ _ _ _ hp.2.2
  obtain ⟨U, Ls, c0, s0⟩ := A
  dsimp only [Pt.U, Pt.locs, Pt.cells, Pt.slots] at h1 h2 h3 h4 h5 X hn hPc ⊢
  obtain ⟨m9, methY, cY, hn9, hmY, hcY, -, hlY, -⟩ := Cond.codeWith_spec h2
  cases Option.some.inj (hn9.symm.trans hn)
  obtain ⟨kY, hkY, -⟩ := className_of_methodNamed hn
  have hinitY : kY.init = .initialized := Cond.initialized_spec (findClass_of_methodNamed hn) hkY h3
  have h : At U g.method c below := by rw [hg]; exact X.here
  have hlocals9 : W9 + (maxL + 11) + (headSpec ws rm).room.locals ≤ R.locals := hlocals
  have happ : (headSpec ws rm).appliesLoose y e.platform (U.calling g mk a) = true :=
    Spec.appliesLoose_calling (g := g) h hdg hn hkY hinitY
      (X.room_calling (g := g) (R' := (headSpec ws rm).room) hsize hmY hcY hframes (by rw [hlY]; omega) h4 h5) h1
  obtain ⟨mid, hmid⟩ := h.above
  have hfr : (U.setTop g).frames = (.java g :: mid) ++ below := by rw [State.frames_setTop' g h.top, hmid]; rfl
  obtain ⟨o, s₂, hsteps, -, hend, hq⟩ := Steps.callFree hM p X.admits X.cas X.clock (acts := []) hfr happ hPc trivial
  have hq' : vx_Q Qc XC mc ms free a (U.calling g mk a) o s₂ := hq
  rw [State.frames_setTop' g h.top] at hend
  obtain ⟨g₀, hg0⟩ := Option.isSome_iff_exists.mp h.top
  obtain ⟨r, hr⟩ := State.topJava?_eq_some.mp hg0
  have hr' : (({ U with heap := s₂.heap, slotsUsed := s₂.slotsUsed } : State).setVm s₂.vm).frames = .java g₀ :: r := hr
  rcases hq' with ⟨hqc, L, hfe, hL⟩ | ⟨q, rfl, E, ce, L, hx, hce, hcv, hcl, hW₂, hsm, hL⟩
  · obtain ⟨⟨v, rfl⟩, hW₂, e2, q2, q3, q4, q5, q6⟩ := id hfe
    have e3 : s₂ = ({ (U.calling g mk a).setFrames s₂.frames with heap := s₂.heap, slotsUsed := s₂.slotsUsed } : State).setVm s₂.vm := by
      have : s₂ = ({ s₂ with vm := (U.calling g mk a).vm } : State).setVm s₂.vm := rfl
      rw [e2] at this
      exact this
    obtain ⟨c₂, i₂, len₂, hc₂, hd₂, hf₂⟩ := hend
    have hW' : U.WarmedH s₂.vm := hW₂
    have hcc : c₂ = c := by
      have h1 : s₂.code? g.method = U.code? g.method := by
        rw [State.code?_eq, State.code?_eq, hW'.alike.method?]
      exact Option.some.inj (hc₂.symm.trans (h1.trans h.code))
    subst hcc
    have hlen : len₂ = len := by rw [hdg] at hd₂; cases hd₂; rfl
    subst hlen
    have hs₂ : s₂ = (({ U with heap := s₂.heap, slotsUsed := s₂.slotsUsed } : State).setVm s₂.vm).setTop { g with pc := g.pc + len₂, stack := v.toList ++ g.stack } := by
      refine e3.trans ?_
      rw [hf₂, State.calling_eq h.top, State.setFrames_setFrames, State.setTop_of_frames _ hr', hr]
      rfl
    have hsame : U.sameButNew ({ U with heap := s₂.heap, slotsUsed := s₂.slotsUsed } : State) L mc ms := by
      refine ⟨?_, q2, q3, q4, q5, q6⟩
      obtain ⟨t, ht, -⟩ := State.frames_cons hr
      show ({ U with heap := s₂.heap, slotsUsed := s₂.slotsUsed } : State) = { U.setFrames U.frames with heap := s₂.heap, slotsUsed := s₂.slotsUsed }
      rw [State.setFrames_self ht]
    subst hg
    refine Or.inl ⟨v, ⟨(({ U with heap := s₂.heap, slotsUsed := s₂.slotsUsed } : State).setVm s₂.vm), Ls ++ L, c0 + mc, s0 + ms⟩,
      ⟨X.admits, X.cas, X.clock, X.frames, X.room, X.hears, X.method, X.code, (X.here.setHeapUsed s₂.heap s₂.slotsUsed).setVm hW'.alike, X.tail, State.WarmedH.trans X.warmed hW', X.limits, X.bytes, X.same.trans (hsame.setVm s.vm)⟩,
      ⟨g, mk, s₂, L, rfl, rfl, hqc, rfl, hL, rfl, rfl⟩, ?_⟩
    show Steps p.tables e below _ ((({ U with heap := s₂.heap, slotsUsed := s₂.slotsUsed } : State).setVm s₂.vm).setTop { g with pc := g.pc + len₂, stack := v.toList ++ g.stack })
    rw [← hs₂]
    exact hsteps
  · obtain ⟨e2, q2, q3, q4, q5, q6⟩ := id hsm
    have e3 : s₂ = ({ (U.calling g mk a).setFrames s₂.frames with heap := s₂.heap, slotsUsed := s₂.slotsUsed } : State).setVm s₂.vm := by
      have : s₂ = ({ s₂ with vm := (U.calling g mk a).vm } : State).setVm s₂.vm := rfl
      rw [e2] at this
      exact this
    have hf₂ : s₂.frames = .throwing q :: .java g :: U.frames.tail := hend
    have hW' : U.WarmedH s₂.vm := hW₂
    have hs₂ : s₂ = ((({ U with heap := s₂.heap, slotsUsed := s₂.slotsUsed } : State).setVm s₂.vm).setTop g).pushFrame (.throwing q) := by
      refine e3.trans ?_
      rw [hf₂, State.calling_eq h.top, State.setFrames_setFrames, State.pushFrame, State.frames_setTop _ hr', State.setTop_of_frames _ hr', State.setFrames_setFrames, hr]
      rfl
    have hsame : U.sameButNew ({ U with heap := s₂.heap, slotsUsed := s₂.slotsUsed } : State) L mc ms := by
      refine ⟨?_, q2, q3, q4, q5, q6⟩
      obtain ⟨t, ht, -⟩ := State.frames_cons hr
      show ({ U with heap := s₂.heap, slotsUsed := s₂.slotsUsed } : State) = { U.setFrames U.frames with heap := s₂.heap, slotsUsed := s₂.slotsUsed }
      rw [State.setFrames_self ht]
    subst hg
    refine Or.inr ⟨q, ⟨(({ U with heap := s₂.heap, slotsUsed := s₂.slotsUsed } : State).setVm s₂.vm), Ls ++ L, c0 + mc, s0 + ms⟩,
      ⟨X.admits, X.cas, X.clock, X.frames, X.room, X.hears, X.method, X.code, (X.here.setHeapUsed s₂.heap s₂.slotsUsed).setVm hW'.alike, X.tail, State.WarmedH.trans X.warmed hW', X.limits, X.bytes, X.same.trans (hsame.setVm s.vm)⟩,
      ⟨g, mk, s₂, L, E, ce, rfl, rfl, hx, hce, hcv, hcl, rfl, hL, rfl, rfl⟩, ?_⟩
    show Steps p.tables e below _ (((({ U with heap := s₂.heap, slotsUsed := s₂.slotsUsed } : State).setVm s₂.vm).setTop g).pushFrame (.throwing q))
    rw [← hs₂]
    exact hsteps
end
variable {p : Program} {l : Launch} {e : Env} {R : Room} {s : State} {m : MethodId} {args : Array Value} {below : List Frame} {meth : Method} {c : Code} {T : State} {H : Heap} {locs : List Loc} {cells slots : Nat}
theorem vx_callVX (X : Stand p l e R s m args below meth c T locs cells slots) (hexec : p.tables.exec = Jvm.exec) {own C : String} {index : Nat} {y : MethodName} {bytes : ByteArray} {maxL : Nat} {ret : Option FieldType} {hh : List (Nat × Nat × Nat × Nat)}
    (hown : s.vm.findClass own = some m.cls) (hlink : (Cond.methodLink own index y).before args s = true) (hinst : (Cond.instanceMethod y).before args s = true) (hsel : (Cond.selects C y y).before args s = true)
    (hcode : (Cond.codeWith y bytes maxL ret hh).before args s = true) (hy : y.cls ≠ "java/lang/invoke/MethodHandle" ∧ y.cls ≠ "java/lang/invoke/VarHandle")
    {W9 : Nat} {Pre : Pt → Array Value → Prop} {Post : Pt → Array Value → Option Value → Pt → Prop} {PostX : Pt → Array Value → Addr → Pt → Prop} (hK : vx_Back l R p e below s args y 3 W9 Pre Post PostX)
    {b : Addr} {cellB : Cell} (hcell : T.heap[b]? = some cellB) (hobj : cellB.vm.isStatics = false) (hcls : s.vm.findClass C = some cellB.cls)
    {g : JFrame} (hg : g.method = m) (hsize : g.locals.size = c.maxLocals) {argsL rest : List Value} (hlen : ∀ sig, parseMethodDescriptor y.desc = some sig → argsL.length = sig.parameters.length)
    (hstack : g.stack = argsL.reverse ++ .ref b :: rest) (hW : 2 * g.monitorRoom + (rest.map fun v => v.category).sum ≤ W9) (hdg : decode c.code g.pc = .ok (.invokevirtual index, 3))
    (hpre : ∀ vm₁, s.WarmedH vm₁ → Pre ⟨T.setVm vm₁, locs, cells, slots⟩ (Value.ref b :: argsL).toArray) :
    (∃ (v : Option Value) (vm₁ : Vm) (B : Pt), s.WarmedH vm₁ ∧ Stand p l e R s m args below meth c B.U B.locs B.cells B.slots ∧ Post ⟨T.setVm vm₁, locs, cells, slots⟩ (Value.ref b :: argsL).toArray v B ∧
      ∀ target, Steps p.tables e below (B.U.setTop { g with pc := g.pc + 3, stack := v.toList ++ rest }) target → Steps p.tables e below (T.setTop g) target) ∨
    (∃ (q : Addr) (vm₁ : Vm) (B : Pt), s.WarmedH vm₁ ∧ Stand p l e R s m args below meth c B.U B.locs B.cells B.slots ∧ PostX ⟨T.setVm vm₁, locs, cells, slots⟩ (Value.ref b :: argsL).toArray q B ∧
      Steps p.tables e below (T.setTop g) ((B.U.setTop { g with stack := rest }).pushFrame (.throwing q))) := by
  obtain ⟨mk, methM, hnamed, hmethM, hstM, habM⟩ := Cond.instanceMethod_spec hinst
  obtain ⟨m8, methM', cM, hn8, hmethM', -, -, -, -, -, -, hsigM⟩ := Cond.codeWith_spec hcode
  cases Option.some.inj (hn8.symm.trans hnamed)
  cases hmethM.symm.trans hmethM'
  obtain ⟨c2, r2, m2, q1, q2, q3, q4, kP, hkP, hkPi⟩ := Cond.selects_spec hsel
  cases hcls.symm.trans q1
  cases (State.methodFound?_of_named hnamed hy).symm.trans q2
  cases hnamed.symm.trans q3
  have hselP : selectMethod e.platform s.vm cellB.cls mk = .method mk := by rw [Launch.admits_selectMethod X.admits]; exact q4
  obtain ⟨vm₁, X₁, hstep₁⟩ := X.invokevirtual hexec hown hlink hnamed hmethM hstM hkP hkPi hy (a := b) (cell := cellB) hcell
    (fun z h => by rw [h] at hobj; cases hobj) hselP hmethM habM hkP hkPi (g := g) hg (argsL := argsL) (rest := rest) (hlen _ hsigM) hstack hdg
  rcases hK m meth c ⟨T.setVm vm₁, locs, cells, slots⟩ { g with stack := rest } (.invokevirtual index) mk (Value.ref b :: argsL).toArray X₁ hg hsize hdg hW (X₁.named hnamed) (hpre vm₁ X₁.warmed) with ⟨v, B, X', hpost, hsteps⟩ | ⟨q, B, X', hpost, hsteps⟩
  · exact Or.inl ⟨v, vm₁, B, X₁.warmed, X', hpost, fun target h => hstep₁ _ fun acts => by rw [doInvoke_state]; exact hsteps.trans h⟩
  · exact Or.inr ⟨q, vm₁, B, X₁.warmed, X', hpost, hstep₁ _ fun acts => by rw [doInvoke_state]; exact hsteps⟩
theorem vx_callSX (X : Stand p l e R s m args below meth c T locs cells slots) (hexec : p.tables.exec = Jvm.exec) {own : String} {index : Nat} {y : MethodName} {bytes : ByteArray} {maxL : Nat} {ret : Option FieldType} {hh : List (Nat × Nat × Nat × Nat)}
    (hown : s.vm.findClass own = some m.cls) (hlink : (Cond.methodLink own index y).before args s = true) (hstat : (Cond.static y).before args s = true) (hinit : (Cond.initialized y.cls).before args s = true)
    (hcode : (Cond.codeWith y bytes maxL ret hh).before args s = true) (hy : y.cls ≠ "java/lang/invoke/MethodHandle" ∧ y.cls ≠ "java/lang/invoke/VarHandle")
    {W9 : Nat} {Pre : Pt → Array Value → Prop} {Post : Pt → Array Value → Option Value → Pt → Prop} {PostX : Pt → Array Value → Addr → Pt → Prop} (hK : vx_Back l R p e below s args y 3 W9 Pre Post PostX)
    {g : JFrame} (hg : g.method = m) (hsize : g.locals.size = c.maxLocals) {argsL rest : List Value} (hlen : ∀ sig, parseMethodDescriptor y.desc = some sig → argsL.length = sig.parameters.length)
    (hstack : g.stack = argsL.reverse ++ rest) (hW : 2 * g.monitorRoom + (rest.map fun v => v.category).sum ≤ W9) (hdg : decode c.code g.pc = .ok (.invokestatic index, 3))
    (hpre : ∀ vm₁, s.WarmedH vm₁ → Pre ⟨T.setVm vm₁, locs, cells, slots⟩ argsL.toArray) :
    (∃ (v : Option Value) (vm₁ : Vm) (B : Pt), s.WarmedH vm₁ ∧ Stand p l e R s m args below meth c B.U B.locs B.cells B.slots ∧ Post ⟨T.setVm vm₁, locs, cells, slots⟩ argsL.toArray v B ∧
      ∀ target, Steps p.tables e below (B.U.setTop { g with pc := g.pc + 3, stack := v.toList ++ rest }) target → Steps p.tables e below (T.setTop g) target) ∨
    (∃ (q : Addr) (vm₁ : Vm) (B : Pt), s.WarmedH vm₁ ∧ Stand p l e R s m args below meth c B.U B.locs B.cells B.slots ∧ PostX ⟨T.setVm vm₁, locs, cells, slots⟩ argsL.toArray q B ∧
      Steps p.tables e below (T.setTop g) ((B.U.setTop { g with stack := rest }).pushFrame (.throwing q))) := by
  obtain ⟨mk, methM, cM, hnamed, hmethM, -, -, -, -, -, -, hsigM⟩ := Cond.codeWith_spec hcode
  have hstatic : methM.isStatic = true := Cond.static_spec hnamed hmethM hstat
  obtain ⟨kP, hkP, -⟩ := className_of_methodNamed hnamed
  have hinitP : kP.init = .initialized := Cond.initialized_spec (findClass_of_methodNamed hnamed) hkP hinit
  obtain ⟨vm₁, X₁, hstep₁⟩ := X.invokestatic hexec hown hlink hnamed hmethM hstatic hkP hinitP hy (g := g) hg (argsL := argsL) (rest := rest) (hlen _ hsigM) hstack hdg
  rcases hK m meth c ⟨T.setVm vm₁, locs, cells, slots⟩ { g with stack := rest } (.invokestatic index) mk argsL.toArray X₁ hg hsize hdg hW (X₁.named hnamed) (hpre vm₁ X₁.warmed) with ⟨v, B, X', hpost, hsteps⟩ | ⟨q, B, X', hpost, hsteps⟩
  · exact Or.inl ⟨v, vm₁, B, X₁.warmed, X', hpost, fun target h => hstep₁ _ fun acts => by rw [doInvoke_state]; exact hsteps.trans h⟩
  · exact Or.inr ⟨q, vm₁, B, X₁.warmed, X', hpost, hstep₁ _ fun acts => by rw [doInvoke_state]; exact hsteps⟩
theorem vx_callVW (X : Stand p l e R s m args below meth c T locs cells slots) (hexec : p.tables.exec = Jvm.exec) {own C : String} {index : Nat} {y : MethodName} {bytes : ByteArray} {maxL : Nat} {ret : Option FieldType} {hh : List (Nat × Nat × Nat × Nat)}
    (hown : s.vm.findClass own = some m.cls) (hlink : (Cond.methodLink own index y).before args s = true) (hinst : (Cond.instanceMethod y).before args s = true) (hsel : (Cond.selects C y y).before args s = true)
    (hcode : (Cond.codeWith y bytes maxL ret hh).before args s = true) (hy : y.cls ≠ "java/lang/invoke/MethodHandle" ∧ y.cls ≠ "java/lang/invoke/VarHandle")
    {W9 : Nat} {Pre : Pt → Array Value → Prop} {Post : Pt → Array Value → Option Value → Pt → Prop} (hK : Back l R p e below s args y 3 W9 Pre Post)
    {b : Addr} {cellB : Cell} (hcell : T.heap[b]? = some cellB) (hobj : cellB.vm.isStatics = false) (hcls : s.vm.findClass C = some cellB.cls)
    {g : JFrame} (hg : g.method = m) (hsize : g.locals.size = c.maxLocals) {argsL rest : List Value} (hlen : ∀ sig, parseMethodDescriptor y.desc = some sig → argsL.length = sig.parameters.length)
    (hstack : g.stack = argsL.reverse ++ .ref b :: rest) (hW : 2 * g.monitorRoom + (rest.map fun v => v.category).sum ≤ W9) (hdg : decode c.code g.pc = .ok (.invokevirtual index, 3))
    (hpre : ∀ vm₁, s.WarmedH vm₁ → Pre ⟨T.setVm vm₁, locs, cells, slots⟩ (Value.ref b :: argsL).toArray) :
    ∃ (v : Option Value) (vm₁ : Vm) (B : Pt), s.WarmedH vm₁ ∧ Stand p l e R s m args below meth c B.U B.locs B.cells B.slots ∧ Post ⟨T.setVm vm₁, locs, cells, slots⟩ (Value.ref b :: argsL).toArray v B ∧
      ∀ target, Steps p.tables e below (B.U.setTop { g with pc := g.pc + 3, stack := v.toList ++ rest }) target → Steps p.tables e below (T.setTop g) target := by
  obtain ⟨mk, methM, hnamed, hmethM, hstM, habM⟩ := Cond.instanceMethod_spec hinst
  obtain ⟨m8, methM', cM, hn8, hmethM', -, -, -, -, -, -, hsigM⟩ := Cond.codeWith_spec hcode
  cases Option.some.inj (hn8.symm.trans hnamed)
  cases hmethM.symm.trans hmethM'
  obtain ⟨c2, r2, m2, q1, q2, q3, q4, kP, hkP, hkPi⟩ := Cond.selects_spec hsel
  cases hcls.symm.trans q1
  cases (State.methodFound?_of_named hnamed hy).symm.trans q2
  cases hnamed.symm.trans q3
  have hselP : selectMethod e.platform s.vm cellB.cls mk = .method mk := by rw [Launch.admits_selectMethod X.admits]; exact q4
  obtain ⟨vm₁, X₁, hstep₁⟩ := X.invokevirtual hexec hown hlink hnamed hmethM hstM hkP hkPi hy (a := b) (cell := cellB) hcell
    (fun z h => by rw [h] at hobj; cases hobj) hselP hmethM habM hkP hkPi (g := g) hg (argsL := argsL) (rest := rest) (hlen _ hsigM) hstack hdg
  obtain ⟨v, B, X', hpost, hsteps⟩ := hK m meth c ⟨T.setVm vm₁, locs, cells, slots⟩ { g with stack := rest } (.invokevirtual index) mk (Value.ref b :: argsL).toArray X₁ hg hsize hdg hW (X₁.named hnamed) (hpre vm₁ X₁.warmed)
  exact ⟨v, vm₁, B, X₁.warmed, X', hpost, fun target h => hstep₁ _ fun acts => by rw [doInvoke_state]; exact hsteps.trans h⟩
abbrev vx_CVW (R : Room) (s : State) (args : Array Value) (own C : String) (index : Nat) (y : MethodName) (bytes : ByteArray) (maxL : Nat) (ret : Option FieldType) (hh : List (Nat × Nat × Nat × Nat)) (ws : List Cond) (rm : Room) (mc ms n : Nat) : Prop :=
  (rm.cells = mc ∧ rm.slots = ms ∧ rm.frames + 1 ≤ R.frames ∧ 8 + (maxL + 11) + rm.locals ≤ R.locals ∧ (∀ w ∈ ws, ∀ (a' : Array Value) (U : State), s.WarmedH U.vm → w.before a' U = true) ∧ Cond.codeWith y bytes maxL ret hh ∈ ws) ∧
  (Cond.codeWith y bytes maxL ret hh).before args s = true ∧ (Cond.initialized y.cls).before args s = true ∧ (y.cls ≠ "java/lang/invoke/MethodHandle" ∧ y.cls ≠ "java/lang/invoke/VarHandle") ∧
  (∀ sig, parseMethodDescriptor y.desc = some sig → n = sig.parameters.length) ∧ (Cond.methodLink own index y).before args s = true ∧ (Cond.instanceMethod y).before args s = true ∧ (Cond.selects C y y).before args s = true
theorem vx_cwVW {own C : String} {index maxL mc ms : Nat} {y : MethodName} {bytes : ByteArray} {ret : Option FieldType} {hh : List (Nat × Nat × Nat × Nat)} {Ts ws ws' : List Cond} {rm : Room} (n : Nat) (ht : ∀ w ∈ Ts, w.before args s = true) (hT : GoodIn Ts (wsV own index C y ws)) (hw : ws = Cond.codeWith y bytes maxL ret hh :: ws') (hrc : rm.cells = mc) (hrs : rm.slots = ms)
    (hd : y.cls = C ∧ y.cls ≠ "java/lang/invoke/MethodHandle" ∧ y.cls ≠ "java/lang/invoke/VarHandle" ∧ (parseMethodDescriptor y.desc).map (fun d => d.parameters.length) = some n) (hR : rm.frames + 1 ≤ R.frames ∧ 8 + (maxL + 11) + rm.locals ≤ R.locals) :
    vx_CVW R s args own C index y bytes maxL ret hh ws rm mc ms n := by
  obtain ⟨hC, hd⟩ := hd
  subst hC
  have ok : ∀ w ∈ wsV own index y.cls y ws, w.before args s = true := fun w h => ht w (hT w h).1
  have hG : GoodIn Ts ws := fun w h => hT w (by unfold wsV; exact List.mem_append_right _ h)
  have hc : Cond.codeWith y bytes maxL ret hh ∈ ws := by rw [hw]; exact List.mem_cons_self
  refine ⟨⟨hrc, hrs, hR.1, hR.2, pay_in ht hG, hc⟩, ht _ (hG _ hc).1, ok _ (by simp [wsV]), ⟨hd.1, hd.2.1⟩, fun sig h => ?_, ok _ (by simp [wsV]), ok _ (by simp [wsV]), ok _ (by simp [wsV])⟩
  have h2 := hd.2.2
  rw [h] at h2
  exact (Option.some.inj h2).symm
theorem vx_runVW {y : MethodName} {bytes cc : ByteArray} {maxL nL mc ms n index : Nat} {ret : Option FieldType} {hh : List (Nat × Nat × Nat × Nat)} {ws : List Cond} {rm : Room} {Pc : Array Value → State → Prop} {Qc : Array Value → State → Outcome → State → Prop} {free : Addr → Prop} {Ts : List Cond} {own C : String} {b : Addr} {As rest : List Value} {g : JFrame}
    (S : CallFix p m c cc nL s args Ts own) (hM : Met l y ws rm Pc Qc mc ms free) (cw : vx_CVW R s args own C index y bytes maxL ret hh ws rm mc ms n) (hp : PreV s H C b Pc As)
    (hg : g.method = m) (hn : As.length = n) (hsize : g.locals.size = nL) (hstack : g.stack = As.reverse ++ .ref b :: rest) (hW : 2 * g.monitorRoom + (rest.map fun v => v.category).sum ≤ 8) (hdg : decode cc g.pc = .ok (.invokevirtual index, 3)) (hf : cells + mc ≤ R.cells ∧ slots + ms ≤ R.slots) :
    va_Run p l e R s m args below meth c H locs cells slots mc ms g rest (Qc (Value.ref b :: As).toArray) free := by
  obtain ⟨⟨hrc, hrs, hfr, hlo, hws, hcw⟩, hcode, hini, hy, hlen, hl, hin, hse⟩ := cw
  have hK : Back l R p e below s args y 3 8 (PreOf R mc ms Pc) (PostOf Qc mc ms free) := va_backW (hh := hh) (bytes := bytes) (maxL := maxL) (ret := ret) hM hp.1 hrc hrs hfr hlo hws hcw (fun a' U hW => word_at hW (Or.inl (by first | rfl | simp [Cond.onTables, Cond.keeps, Cond.steady])) hini)
  obtain ⟨hx, hb, hml, ho, -⟩ := S
  obtain ⟨-, ⟨cellB, hcB, hoB, hclB⟩, hPc⟩ := hp
  intro T hT X
  obtain ⟨v, vm₁, ⟨U', l2, c2, s2⟩, hW₁, X', ⟨g', mk, t, L, e1, e2, hq, h1, hL, h2, h3⟩, st⟩ := vx_callVW X hx (C := C) (hh := hh) (bytes := bytes) (maxL := maxL) (ret := ret) ho hl hin hse hcode hy hK (by rw [hT]; exact hcB) hoB hclB hg (hsize.trans hml.symm) (argsL := As) (rest := rest) (fun sig h => hn.trans (hlen sig h)) hstack hW (by rw [hb]; exact hdg)
    (fun vm₁ hW₁ => ⟨hf.1, hf.2, hPc (T.setVm vm₁) hT hW₁⟩)
  dsimp only [Pt.U, Pt.locs, Pt.cells, Pt.slots] at X' e1 e2 h1 h2 h3 st
  subst h1; subst h2; subst h3
  exact ⟨v, (T.setVm vm₁).calling g' mk (Value.ref b :: As).toArray, t, U', L, hT, X', hL, e1, e2, hq, st⟩
section
variable {y : MethodName} {bytes cc : ByteArray} {maxL nL mc ms n index : Nat} {ret : Option FieldType} {ws : List Cond} {rm : Room} {Pc : Array Value → State → Prop} {Qc : Array Value → State → Outcome → State → Prop} {XC : String → State → State → Prop} {free : Addr → Prop} {Ts : List Cond} {own C : String} {b : Addr} {As rest : List Value} {g : JFrame}
theorem vx_runVX {hh : List (Nat × Nat × Nat × Nat)} (S : CallFix p m c cc nL s args Ts own) (hM : vx_Met l y ws rm Pc Qc XC mc ms free) (cw : vx_CVW R s args own C index y bytes maxL ret hh ws rm mc ms n) (hp : PreV s H C b Pc As)
    (hg : g.method = m) (hn : As.length = n) (hsize : g.locals.size = nL) (hstack : g.stack = As.reverse ++ .ref b :: rest) (hW : 2 * g.monitorRoom + (rest.map fun v => v.category).sum ≤ 8) (hdg : decode cc g.pc = .ok (.invokevirtual index, 3)) (hf : cells + mc ≤ R.cells ∧ slots + ms ≤ R.slots) :
    vx_Run p l e R s m args below meth c H locs cells slots mc ms g rest (Qc (Value.ref b :: As).toArray) XC free := by
  obtain ⟨⟨hrc, hrs, hfr, hlo, hws, hcw⟩, hcode, hini, hy, hlen, hl, hin, hse⟩ := cw
  have hK : vx_Back l R p e below s args y 3 8 (PreOf R mc ms Pc) (PostOf Qc mc ms free) (vx_Post XC mc ms free) := vx_backW (hh := hh) (bytes := bytes) (maxL := maxL) (ret := ret) hM hp.1 hrc hrs hfr hlo hws hcw (fun a' U hW => word_at hW (Or.inl (by first | rfl | simp [Cond.onTables, Cond.keeps, Cond.steady])) hini)
  obtain ⟨hx, hb, hml, ho, -⟩ := S
  obtain ⟨-, ⟨cellB, hcB, hoB, hclB⟩, hPc⟩ := hp
  intro T hT X
  rcases vx_callVX X hx (C := C) (hh := hh) (bytes := bytes) (maxL := maxL) (ret := ret) ho hl hin hse hcode hy hK (by rw [hT]; exact hcB) hoB hclB hg (hsize.trans hml.symm) (argsL := As) (rest := rest) (fun sig h => hn.trans (hlen sig h)) hstack hW (by rw [hb]; exact hdg)
    (fun vm₁ hW₁ => ⟨hf.1, hf.2, hPc (T.setVm vm₁) hT hW₁⟩) with ⟨v, vm₁, ⟨U', l2, c2, s2⟩, hW₁, X', ⟨g', mk, t, L, e1, e2, hq, h1, hL, h2, h3⟩, st⟩ | ⟨q, vm₁, ⟨U', l2, c2, s2⟩, hW₁, X', ⟨g', mk, t, L, E, ce, e1, e2, hq, hce, hcv, hcl, h1, hL, h2, h3⟩, st⟩
  · dsimp only [Pt.U, Pt.locs, Pt.cells, Pt.slots] at X' e1 e2 h1 h2 h3 st
    subst h1; subst h2; subst h3
    exact Or.inl ⟨v, (T.setVm vm₁).calling g' mk (Value.ref b :: As).toArray, t, U', L, hT, X', hL, e1, e2, hq, st⟩
  · dsimp only [Pt.U, Pt.locs, Pt.cells, Pt.slots] at X' e1 e2 h1 h2 h3 st hcl
    subst h1; subst h2; subst h3
    exact Or.inr ⟨q, (T.setVm vm₁).calling g' mk (Value.ref b :: As).toArray, t, U', L, E, ce, hT, X', hL, e1, e2, hq, hce, hcv, vx_cls hW₁ hcl, st⟩
theorem vx_runSX {hh : List (Nat × Nat × Nat × Nat)} (S : CallFix p m c cc nL s args Ts own) (hM : vx_Met l y ws rm Pc Qc XC mc ms free) (cw : vx_CSW R s args own index y bytes maxL ret hh ws rm mc ms n) (hp : PreS s H Pc As)
    (hg : g.method = m) (hn : As.length = n) (hsize : g.locals.size = nL) (hstack : g.stack = As.reverse ++ rest) (hW : 2 * g.monitorRoom + (rest.map fun v => v.category).sum ≤ 8) (hdg : decode cc g.pc = .ok (.invokestatic index, 3)) (hf : cells + mc ≤ R.cells ∧ slots + ms ≤ R.slots) :
    vx_Run p l e R s m args below meth c H locs cells slots mc ms g rest (Qc As.toArray) XC free := by
  obtain ⟨⟨hrc, hrs, hfr, hlo, hws, hcw⟩, hcode, hini, hy, hlen, hl, hstt⟩ := cw
  have hK : vx_Back l R p e below s args y 3 8 (PreOf R mc ms Pc) (PostOf Qc mc ms free) (vx_Post XC mc ms free) := vx_backW (hh := hh) (bytes := bytes) (maxL := maxL) (ret := ret) hM hp.1 hrc hrs hfr hlo hws hcw (fun a' U hW => word_at hW (Or.inl (by first | rfl | simp [Cond.onTables, Cond.keeps, Cond.steady])) hini)
  obtain ⟨hx, hb, hml, ho, -⟩ := S
  intro T hT X
  rcases vx_callSX X hx (hh := hh) (bytes := bytes) (maxL := maxL) (ret := ret) ho hl hstt hini hcode hy hK hg (hsize.trans hml.symm) (argsL := As) (rest := rest) (fun sig h => hn.trans (hlen sig h)) hstack hW (by rw [hb]; exact hdg)
    (fun vm₁ hW₁ => ⟨hf.1, hf.2, hp.2 (T.setVm vm₁) hT hW₁⟩) with ⟨v, vm₁, ⟨U', l2, c2, s2⟩, hW₁, X', ⟨g', mk, t, L, e1, e2, hq, h1, hL, h2, h3⟩, st⟩ | ⟨q, vm₁, ⟨U', l2, c2, s2⟩, hW₁, X', ⟨g', mk, t, L, E, ce, e1, e2, hq, hce, hcv, hcl, h1, hL, h2, h3⟩, st⟩
  · dsimp only [Pt.U, Pt.locs, Pt.cells, Pt.slots] at X' e1 e2 h1 h2 h3 st
    subst h1; subst h2; subst h3
    exact Or.inl ⟨v, (T.setVm vm₁).calling g' mk As.toArray, t, U', L, hT, X', hL, e1, e2, hq, st⟩
  · dsimp only [Pt.U, Pt.locs, Pt.cells, Pt.slots] at X' e1 e2 h1 h2 h3 st hcl
    subst h1; subst h2; subst h3
    exact Or.inr ⟨q, (T.setVm vm₁).calling g' mk As.toArray, t, U', L, E, ce, hT, X', hL, e1, e2, hq, hce, hcv, vx_cls hW₁ hcl, st⟩
end
end VXH
theorem vx_ofWH {l : Launch} {y : MethodName} {ws ws' : List Cond} {rm : Room} {Pc : Array Value → State → Prop} {Qc : Array Value → State → Outcome → State → Prop} {XC : String → State → State → Prop} {mc ms : Nat} {free : Addr → Prop} {cc : ByteArray} {maxL : Nat} {ret : Option FieldType} {hh : List (Nat × Nat × Nat × Nat)}
    (hy : plainName y.cls = true) (hw : ws = Cond.codeWith y cc maxL ret hh :: ws')
    (body : ∀ p e s m args below meth c s₁, BodyLoose p l y (headSpec ws rm) cc maxL ret e s m args below meth c s₁ → c.maxLocals = maxL → Pc args s →
      W p l e (headSpec ws rm).room s m args below meth c s.heap [] 0 0 (vx_MQ below Qc XC args s mc ms free) (entryFrame m args maxL)) : vx_Met l y ws rm Pc Qc XC mc ms free := by
  refine MetFree.of_bodyS (code := cc) (maxLocals := maxL) (ret := ret) hy ?_ ?_
  · intro args s m h hn
    obtain ⟨m9, meth, c, hn9, h1, h2, h3, h4, -, h5, h6, -⟩ := Cond.codeWith_spec (atoms_spec (ws := ws) h _ (by rw [hw]; exact List.mem_cons_self))
    cases hn.symm.trans hn9
    exact ⟨meth, c, h1, h2, h3, h4, h5, h6⟩
  · intro p e s m args below meth c s₁ B hml hP _
    have hh0 : s₁.heap = s.heap := by rw [B.state]; rfl
    obtain ⟨t, a1, o, b1, b2, b3⟩ := body p e s m args below meth c s₁ B hml hP s₁ hh0 (Stand.of_body B)
    exact ⟨t, o, a1, b1, b2, b3⟩
/-! ===== END ===== -/
/-! ===== BEGIN a constructor that throws (launches without stack traces) ===== -/
section VXIA
variable {p : Program} {l : Launch} {e : Env} {R : Room} {s : State} {m : MethodId} {args : Array Value} {below : List Frame} {meth : Method} {c : Code} {T : State} {locs : List Loc} {cells slots : Nat}
theorem vx_callI (X : Stand p l e R s m args below meth c T locs cells slots) (hexec : p.tables.exec = Jvm.exec) {own : String} {index : Nat} {y : MethodName} {bytes : ByteArray} {maxL : Nat}
    (hown : s.vm.findClass own = some m.cls) (hy1 : y.name = "<init>") (hlink : (Cond.methodLink own index y).before args s = true) (hinst : (Cond.instanceMethod y).before args s = true)
    (hcode : (Cond.code y bytes maxL none).before args s = true) (hy : y.cls ≠ "java/lang/invoke/MethodHandle" ∧ y.cls ≠ "java/lang/invoke/VarHandle")
    {W9 : Nat} {Pre : Pt → Array Value → Prop} {Post : Pt → Array Value → Option Value → Pt → Prop} {PostX : Pt → Array Value → Addr → Pt → Prop} (hK : vx_Back l R p e below s args y 3 W9 Pre Post PostX)
    {g : JFrame} (hg : g.method = m) (hsize : g.locals.size = c.maxLocals) {a : Addr} {argsL rest : List Value} (hlen : ∀ sig, parseMethodDescriptor y.desc = some sig → argsL.length = sig.parameters.length)
    (hstack : g.stack = argsL.reverse ++ .ref a :: rest) (hW : 2 * g.monitorRoom + (rest.map fun v => v.category).sum ≤ W9) (hdg : decode c.code g.pc = .ok (.invokespecial index, 3))
    (hpre : ∀ vm₁, s.WarmedH vm₁ → Pre ⟨T.setVm vm₁, locs, cells, slots⟩ (Value.ref a :: argsL).toArray) :
    (∃ (v : Option Value) (vm₁ : Vm) (B : Pt), s.WarmedH vm₁ ∧ Stand p l e R s m args below meth c B.U B.locs B.cells B.slots ∧ Post ⟨T.setVm vm₁, locs, cells, slots⟩ (Value.ref a :: argsL).toArray v B ∧
      ∀ target, Steps p.tables e below (B.U.setTop { g with pc := g.pc + 3, stack := v.toList ++ rest }) target → Steps p.tables e below (T.setTop g) target) ∨
    (∃ (q : Addr) (vm₁ : Vm) (B : Pt), s.WarmedH vm₁ ∧ Stand p l e R s m args below meth c B.U B.locs B.cells B.slots ∧ PostX ⟨T.setVm vm₁, locs, cells, slots⟩ (Value.ref a :: argsL).toArray q B ∧
      Steps p.tables e below (T.setTop g) ((B.U.setTop { g with stack := rest }).pushFrame (.throwing q))) := by
  subst hg
  have hpl : e.platform.magicAccessors = ({} : Platform).magicAccessors := by rw [X.admits.platform]
  obtain ⟨mk, methM, cM, kP, vm₁, hnamed, hmethM, hcodeM, -, hlocalsM, -, hkP, -, hW₁, hstep₁⟩ := Steps.initColdArgs (e := e) X.here hexec X.warmed hpl hown hy1 hy hlink hinst hcode (f := g) rfl hlen hstack hdg
  have X₁ := X.noted hW₁
  rcases hK g.method meth c ⟨T.setVm vm₁, locs, cells, slots⟩ { g with stack := rest } (.invokespecial index) mk (Value.ref a :: argsL).toArray X₁ rfl hsize hdg hW (X₁.named hnamed) (hpre vm₁ X₁.warmed) with ⟨v, B, X', hpost, hsteps⟩ | ⟨q, B, X', hpost, hsteps⟩
  · exact Or.inl ⟨v, vm₁, B, X₁.warmed, X', hpost, fun target h => hstep₁ _ fun acts => by rw [doInvoke_state]; exact hsteps.trans h⟩
  · exact Or.inr ⟨q, vm₁, B, X₁.warmed, X', hpost, hstep₁ _ fun acts => by rw [doInvoke_state]; exact hsteps⟩
end VXIA
section VXIB
variable {p : Program} {l : Launch} {e : Env} {R : Room} {s : State} {m : MethodId} {args : Array Value} {below : List Frame} {meth : Method} {c : Code} {H : Heap} {locs : List Loc} {cells slots : Nat}
variable {y : MethodName} {bytes cc : ByteArray} {maxL nL mc ms n index : Nat} {ret : Option FieldType} {ws : List Cond} {rm : Room} {Pc : Array Value → State → Prop} {Qc : Array Value → State → Outcome → State → Prop} {XC : String → State → State → Prop} {free : Addr → Prop} {Ts : List Cond} {own C : String} {b : Addr} {As rest : List Value} {g : JFrame}
theorem vx_runI (S : CallFix p m c cc nL s args Ts own) (hM : vx_Met l y ws rm Pc Qc XC mc ms free) (cw : CallB R s args own index y bytes maxL none ws rm mc ms n ∧ y.name = "<init>" ∧ (Cond.instanceMethod y).before args s = true) (hp : PreS s H Pc (.ref b :: As))
    (hg : g.method = m) (hn : As.length = n) (hsize : g.locals.size = nL) (hstack : g.stack = As.reverse ++ .ref b :: rest) (hW : 2 * g.monitorRoom + (rest.map fun v => v.category).sum ≤ 8) (hdg : decode cc g.pc = .ok (.invokespecial index, 3)) (hf : cells + mc ≤ R.cells ∧ slots + ms ≤ R.slots) :
    vx_Run p l e R s m args below meth c H locs cells slots mc ms g rest (Qc (Value.ref b :: As).toArray) XC free := by
  have hK : vx_Back l R p e below s args y 3 8 (PreOf R mc ms Pc) (PostOf Qc mc ms free) (vx_Post XC mc ms free) := vx_callBack cw.1 hM hp.1
  obtain ⟨⟨-, -, -, -, -, -, hcode, -, hy, hlen, hl⟩, hy1, hin⟩ := cw
  obtain ⟨hx, hb, hml, ho, -⟩ := S
  have hPc := hp.2
  intro T hT X
  rcases vx_callI X hx (bytes := bytes) (maxL := maxL) ho hy1 hl hin hcode hy hK hg (hsize.trans hml.symm) (a := b) (argsL := As) (rest := rest) (fun sig h => hn.trans (hlen sig h)) hstack hW (by rw [hb]; exact hdg)
    (fun vm₁ hW₁ => ⟨hf.1, hf.2, hPc (T.setVm vm₁) hT hW₁⟩) with ⟨v, vm₁, ⟨U', l2, c2, s2⟩, hW₁, X', ⟨g', mk, t, L, e1, e2, hq, h1, hL, h2, h3⟩, st⟩ | ⟨q, vm₁, ⟨U', l2, c2, s2⟩, hW₁, X', ⟨g', mk, t, L, E, ce, e1, e2, hq, hce, hcv, hcl, h1, hL, h2, h3⟩, st⟩
  · dsimp only [Pt.U, Pt.locs, Pt.cells, Pt.slots] at X' e1 e2 h1 h2 h3 st
    subst h1; subst h2; subst h3
    exact Or.inl ⟨v, (T.setVm vm₁).calling g' mk (Value.ref b :: As).toArray, t, U', L, hT, X', hL, e1, e2, hq, st⟩
  · dsimp only [Pt.U, Pt.locs, Pt.cells, Pt.slots] at X' e1 e2 h1 h2 h3 st hcl
    subst h1; subst h2; subst h3
    exact Or.inr ⟨q, (T.setVm vm₁).calling g' mk (Value.ref b :: As).toArray, t, U', L, E, ce, hT, X', hL, e1, e2, hq, hce, hcv, vx_cls hW₁ hcl, st⟩
end VXIB
/-! ===== END ===== -/
/-! ===== BEGIN a private constructor of a nest mate that throws ===== -/
section VXIC
variable {p : Program} {l : Launch} {e : Env} {R : Room} {s : State} {m : MethodId} {args : Array Value} {below : List Frame} {meth : Method} {c : Code} {T : State} {locs : List Loc} {cells slots : Nat}
theorem vx_callIN (X : Stand p l e R s m args below meth c T locs cells slots) (hexec : p.tables.exec = Jvm.exec) {own : String} {index : Nat} {host : String} {y : MethodName} {bytes : ByteArray} {maxL : Nat}
    (hown : s.vm.findClass own = some m.cls) (hy1 : y.name = "<init>") (hlink : (Cond.methodLinkNest own index y host).before args s = true) (hinst : (Cond.instanceMethod y).before args s = true)
    (hcode : (Cond.code y bytes maxL none).before args s = true) (hy : y.cls ≠ "java/lang/invoke/MethodHandle" ∧ y.cls ≠ "java/lang/invoke/VarHandle")
    {W9 : Nat} {Pre : Pt → Array Value → Prop} {Post : Pt → Array Value → Option Value → Pt → Prop} {PostX : Pt → Array Value → Addr → Pt → Prop} (hK : vx_Back l R p e below s args y 3 W9 Pre Post PostX)
    {g : JFrame} (hg : g.method = m) (hsize : g.locals.size = c.maxLocals) {a : Addr} {argsL rest : List Value} (hlen : ∀ sig, parseMethodDescriptor y.desc = some sig → argsL.length = sig.parameters.length)
    (hstack : g.stack = argsL.reverse ++ .ref a :: rest) (hW : 2 * g.monitorRoom + (rest.map fun v => v.category).sum ≤ W9) (hdg : decode c.code g.pc = .ok (.invokespecial index, 3))
    (hpre : ∀ vm₁, s.WarmedH vm₁ → Pre ⟨T.setVm vm₁, locs, cells, slots⟩ (Value.ref a :: argsL).toArray) :
    (∃ (v : Option Value) (vm₁ : Vm) (B : Pt), s.WarmedH vm₁ ∧ Stand p l e R s m args below meth c B.U B.locs B.cells B.slots ∧ Post ⟨T.setVm vm₁, locs, cells, slots⟩ (Value.ref a :: argsL).toArray v B ∧
      ∀ target, Steps p.tables e below (B.U.setTop { g with pc := g.pc + 3, stack := v.toList ++ rest }) target → Steps p.tables e below (T.setTop g) target) ∨
    (∃ (q : Addr) (vm₁ : Vm) (B : Pt), s.WarmedH vm₁ ∧ Stand p l e R s m args below meth c B.U B.locs B.cells B.slots ∧ PostX ⟨T.setVm vm₁, locs, cells, slots⟩ (Value.ref a :: argsL).toArray q B ∧
      Steps p.tables e below (T.setTop g) ((B.U.setTop { g with stack := rest }).pushFrame (.throwing q))) := by
  subst hg
  have hpl : e.platform.magicAccessors = ({} : Platform).magicAccessors := by rw [X.admits.platform]
  obtain ⟨mk, methM, cM, kP, vm₁, hnamed, hmethM, hcodeM, -, hlocalsM, -, hkP, -, hW₁, hstep₁⟩ := Steps.initColdArgsNest (e := e) X.here hexec X.warmed hpl hown hy1 hy hlink hinst hcode (f := g) rfl hlen hstack hdg
  have X₁ := X.noted hW₁
  rcases hK g.method meth c ⟨T.setVm vm₁, locs, cells, slots⟩ { g with stack := rest } (.invokespecial index) mk (Value.ref a :: argsL).toArray X₁ rfl hsize hdg hW (X₁.named hnamed) (hpre vm₁ X₁.warmed) with ⟨v, B, X', hpost, hsteps⟩ | ⟨q, B, X', hpost, hsteps⟩
  · exact Or.inl ⟨v, vm₁, B, X₁.warmed, X', hpost, fun target h => hstep₁ _ fun acts => by rw [doInvoke_state]; exact hsteps.trans h⟩
  · exact Or.inr ⟨q, vm₁, B, X₁.warmed, X', hpost, hstep₁ _ fun acts => by rw [doInvoke_state]; exact hsteps⟩
end VXIC
section VXID
variable {p : Program} {l : Launch} {e : Env} {R : Room} {s : State} {m : MethodId} {args : Array Value} {below : List Frame} {meth : Method} {c : Code} {H : Heap} {locs : List Loc} {cells slots : Nat}
theorem vx_runIN {y : MethodName} {bytes cc : ByteArray} {maxL nL mc ms n index : Nat} {ws : List Cond} {rm : Room} {Pc : Array Value → State → Prop} {Qc : Array Value → State → Outcome → State → Prop} {XC : String → State → State → Prop} {free : Addr → Prop} {Ts : List Cond} {own host : String} {b : Addr} {As rest : List Value} {g : JFrame}
    (S : CallFix p m c cc nL s args Ts own) (hM : vx_Met l y ws rm Pc Qc XC mc ms free) (cw : va_CN R s args own index y host bytes maxL none ws rm mc ms n ∧ y.name = "<init>" ∧ (Cond.instanceMethod y).before args s = true) (hp : PreS s H Pc (.ref b :: As))
    (hg : g.method = m) (hn : As.length = n) (hsize : g.locals.size = nL) (hstack : g.stack = As.reverse ++ .ref b :: rest) (hW : 2 * g.monitorRoom + (rest.map fun v => v.category).sum ≤ 8) (hdg : decode cc g.pc = .ok (.invokespecial index, 3)) (hf : cells + mc ≤ R.cells ∧ slots + ms ≤ R.slots) :
    vx_Run p l e R s m args below meth c H locs cells slots mc ms g rest (Qc (Value.ref b :: As).toArray) XC free := by
  obtain ⟨⟨⟨hrc, hrs, hfr, hlo, hws, hcw⟩, hcode, hini, hy, hlen, hl⟩, hx1, hx2⟩ := cw
  have hK : vx_Back l R p e below s args y 3 8 (PreOf R mc ms Pc) (PostOf Qc mc ms free) (vx_Post XC mc ms free) := vx_back (bytes := bytes) (maxL := maxL) (ret := none) hM hp.1 hrc hrs hfr hlo hws hcw (fun a' U hW => word_at hW (Or.inl (by first | rfl | simp [Cond.onTables, Cond.keeps, Cond.steady])) hini)
  obtain ⟨hx, hb, hml, ho, -⟩ := S
  have hPc := hp.2
  intro T hT X
  rcases vx_callIN X hx (bytes := bytes) (maxL := maxL) ho hx1 hl hx2 hcode hy hK hg (hsize.trans hml.symm) (a := b) (argsL := As) (rest := rest) (fun sig h => hn.trans (hlen sig h)) hstack hW (by rw [hb]; exact hdg)
    (fun vm₁ hW₁ => ⟨hf.1, hf.2, hPc (T.setVm vm₁) hT hW₁⟩) with ⟨v, vm₁, ⟨U', l2, c2, s2⟩, hW₁, X', ⟨g', mk, t, L, e1, e2, hq, h1, hL, h2, h3⟩, st⟩ | ⟨q, vm₁, ⟨U', l2, c2, s2⟩, hW₁, X', ⟨g', mk, t, L, E, ce, e1, e2, hq, hce, hcv, hcl, h1, hL, h2, h3⟩, st⟩
  · dsimp only [Pt.U, Pt.locs, Pt.cells, Pt.slots] at X' e1 e2 h1 h2 h3 st
    subst h1; subst h2; subst h3
    exact Or.inl ⟨v, (T.setVm vm₁).calling g' mk (Value.ref b :: As).toArray, t, U', L, hT, X', hL, e1, e2, hq, st⟩
  · dsimp only [Pt.U, Pt.locs, Pt.cells, Pt.slots] at X' e1 e2 h1 h2 h3 st hcl
    subst h1; subst h2; subst h3
    exact Or.inr ⟨q, (T.setVm vm₁).calling g' mk (Value.ref b :: As).toArray, t, U', L, E, ce, hT, X', hL, e1, e2, hq, hce, hcv, vx_cls hW₁ hcl, st⟩
end VXID
/-! ===== END ===== -/
/-! ===== BEGIN a method of a class above, found by the receiver, that may throw (follows va_callVU, va_runU of this kit) ===== -/
section
variable {p : Program} {l : Launch} {e : Env} {R : Room} {s : State} {m : MethodId} {args : Array Value} {below : List Frame} {meth : Method} {c : Code} {H : Heap} {locs : List Loc} {cells slots : Nat}
theorem vx_callVU {T : State} {locs : List Loc} {cells slots : Nat} (X : Stand p l e R s m args below meth c T locs cells slots) (hexec : p.tables.exec = Jvm.exec) {own C owner : String} {index : Nat} {x y : MethodName} {bytes : ByteArray} {maxL : Nat} {ret : Option FieldType}
    (hown : s.vm.findClass own = some m.cls) (hlink : (Cond.methodLink own index x).before args s = true) (hsame : (Cond.sameMethod x.cls owner x.name x.desc).before args s = true)
    (hd0 : va_Decl s ⟨owner, x.name, x.desc⟩) (howner : owner ≠ "java/lang/invoke/MethodHandle" ∧ owner ≠ "java/lang/invoke/VarHandle")
    (hsel : (Cond.selects C x y).before args s = true) (hinst : (Cond.instanceMethod y).before args s = true) (hcode : (Cond.code y bytes maxL ret).before args s = true)
    {W : Nat} {Pre : Pt → Array Value → Prop} {Post : Pt → Array Value → Option Value → Pt → Prop} {PostX : Pt → Array Value → Addr → Pt → Prop} (hK : vx_Back l R p e below s args y 3 W Pre Post PostX)
    {b : Addr} {cellB : Cell} (hcell : T.heap[b]? = some cellB) (hobj : cellB.vm.isStatics = false) (hcls : s.vm.findClass C = some cellB.cls)
    {g : JFrame} (hg : g.method = m) (hsize : g.locals.size = c.maxLocals) {argsL rest : List Value} (hlen : ∀ sig, parseMethodDescriptor x.desc = some sig → argsL.length = sig.parameters.length)
    (hstack : g.stack = argsL.reverse ++ .ref b :: rest) (hW : 2 * g.monitorRoom + (rest.map fun v => v.category).sum ≤ W) (hdg : decode c.code g.pc = .ok (.invokevirtual index, 3))
    (hpre : ∀ vm₁, s.WarmedH vm₁ → Pre ⟨T.setVm vm₁, locs, cells, slots⟩ (Value.ref b :: argsL).toArray) :
    (∃ (v : Option Value) (vm₁ : Vm) (B : Pt), s.WarmedH vm₁ ∧ Stand p l e R s m args below meth c B.U B.locs B.cells B.slots ∧ Post ⟨T.setVm vm₁, locs, cells, slots⟩ (Value.ref b :: argsL).toArray v B ∧
      ∀ target, Steps p.tables e below (B.U.setTop { g with pc := g.pc + 3, stack := v.toList ++ rest }) target → Steps p.tables e below (T.setTop g) target) ∨
    (∃ (q : Addr) (vm₁ : Vm) (B : Pt), s.WarmedH vm₁ ∧ Stand p l e R s m args below meth c B.U B.locs B.cells B.slots ∧ PostX ⟨T.setVm vm₁, locs, cells, slots⟩ (Value.ref b :: argsL).toArray q B ∧
      Steps p.tables e below (T.setTop g) ((B.U.setTop { g with stack := rest }).pushFrame (.throwing q))) := by
  obtain ⟨r0, r, hn, hrm, hstR, hsigR⟩ := hd0
  obtain ⟨cn, ck, r1, hcn, hck, hni, hf, hn1⟩ := Cond.sameMethod_found hsame
  cases hn.symm.trans hn1
  obtain ⟨mk, methM, hnamed, hmethM, -, habM⟩ := Cond.instanceMethod_spec hinst
  obtain ⟨c2, r2, m2, q1, q2, q3, q4, kP, hkP, hkPi⟩ := Cond.selects_spec hsel
  cases hcls.symm.trans q1
  cases hf.symm.trans q2
  cases hnamed.symm.trans q3
  have hselP : selectMethod e.platform s.vm cellB.cls r0 = .method mk := by rw [Launch.admits_selectMethod X.admits]; exact q4
  obtain ⟨vm₁, X₁, hstep₁⟩ := X.invokevirtualUp hexec hown hlink hsame howner hn hrm hstR (a := b) (cell := cellB) hcell
    (fun z h => by rw [h] at hobj; cases hobj) hselP hmethM habM hkP hkPi (g := g) hg (argsL := argsL) (rest := rest) (hlen _ hsigR) hstack hdg
  rcases hK m meth c ⟨T.setVm vm₁, locs, cells, slots⟩ { g with stack := rest } (.invokevirtual index) mk (Value.ref b :: argsL).toArray X₁ hg hsize hdg hW (X₁.named hnamed) (hpre vm₁ X₁.warmed) with ⟨v, B, X', hpost, hsteps⟩ | ⟨q, B, X', hpost, hsteps⟩
  · exact Or.inl ⟨v, vm₁, B, X₁.warmed, X', hpost, fun target h => hstep₁ _ fun acts => by rw [doInvoke_state]; exact hsteps.trans h⟩
  · exact Or.inr ⟨q, vm₁, B, X₁.warmed, X', hpost, hstep₁ _ fun acts => by rw [doInvoke_state]; exact hsteps⟩
theorem vx_runU {x y : MethodName} {bytes cc : ByteArray} {maxL nL mc ms n index : Nat} {ret : Option FieldType} {ws : List Cond} {rm : Room} {Pc : Array Value → State → Prop} {Qc : Array Value → State → Outcome → State → Prop} {XC : String → State → State → Prop} {free : Addr → Prop} {Ts : List Cond} {own C owner : String} {b : Addr} {As rest : List Value} {g : JFrame}
    (S : CallFix p m c cc nL s args Ts own) (hM : vx_Met l y ws rm Pc Qc XC mc ms free) (cw : va_CU R s args own C owner index x y bytes maxL ret ws rm mc ms n) (hp : PreV s H C b Pc As)
    (hg : g.method = m) (hn : As.length = n) (hsize : g.locals.size = nL) (hstack : g.stack = As.reverse ++ .ref b :: rest) (hW : 2 * g.monitorRoom + (rest.map fun v => v.category).sum ≤ 8) (hdg : decode cc g.pc = .ok (.invokevirtual index, 3)) (hf : cells + mc ≤ R.cells ∧ slots + ms ≤ R.slots) :
    vx_Run p l e R s m args below meth c H locs cells slots mc ms g rest (Qc (Value.ref b :: As).toArray) XC free := by
  obtain ⟨hrc, hrs, hfr, hlo, hws, hcw⟩ := cw.back
  have hini := cw.init
  have hK : vx_Back l R p e below s args y 3 8 (PreOf R mc ms Pc) (PostOf Qc mc ms free) (vx_Post XC mc ms free) := vx_back (bytes := bytes) (maxL := maxL) (ret := ret) hM hp.1 hrc hrs hfr hlo hws hcw (fun a' U hW => word_at hW (Or.inl (by first | rfl | simp [Cond.onTables, Cond.keeps, Cond.steady])) hini)
  obtain ⟨hx, hb, hml, ho, -⟩ := S
  obtain ⟨-, ⟨cellB, hcB, hoB, hclB⟩, hPc⟩ := hp
  intro T hT X
  rcases vx_callVU X hx (C := C) (owner := owner) (bytes := bytes) (maxL := maxL) (ret := ret) ho cw.link cw.same cw.decl cw.notMH cw.sel cw.inst cw.code hK (by rw [hT]; exact hcB) hoB hclB hg (hsize.trans hml.symm) (argsL := As) (rest := rest) (fun sig h => hn.trans (cw.len sig h)) hstack hW (by rw [hb]; exact hdg)
    (fun vm₁ hW₁ => ⟨hf.1, hf.2, hPc (T.setVm vm₁) hT hW₁⟩) with ⟨v, vm₁, ⟨U', l2, c2, s2⟩, hW₁, X', ⟨g', mk, t, L, e1, e2, hq, h1, hL, h2, h3⟩, st⟩ | ⟨q, vm₁, ⟨U', l2, c2, s2⟩, hW₁, X', ⟨g', mk, t, L, E, ce, e1, e2, hq, hce, hcv, hcl, h1, hL, h2, h3⟩, st⟩
  · dsimp only [Pt.U, Pt.locs, Pt.cells, Pt.slots] at X' e1 e2 h1 h2 h3 st
    subst h1; subst h2; subst h3
    exact Or.inl ⟨v, (T.setVm vm₁).calling g' mk (Value.ref b :: As).toArray, t, U', L, hT, X', hL, e1, e2, hq, st⟩
  · dsimp only [Pt.U, Pt.locs, Pt.cells, Pt.slots] at X' e1 e2 h1 h2 h3 st hcl
    subst h1; subst h2; subst h3
    exact Or.inr ⟨q, (T.setVm vm₁).calling g' mk (Value.ref b :: As).toArray, t, U', L, E, ce, hT, X', hL, e1, e2, hq, hce, hcv, vx_cls hW₁ hcl, st⟩
end
/-! ===== END ===== -/
/-! ===== BEGIN super.m(..) that may throw (follows va_callSU, va_runSU) ===== -/
section
variable {p : Program} {l : Launch} {e : Env} {R : Room} {s : State} {m : MethodId} {args : Array Value} {below : List Frame} {meth : Method} {c : Code} {H : Heap} {locs : List Loc} {cells slots : Nat}
theorem vx_callSU {T : State} {locs : List Loc} {cells slots : Nat} (X : Stand p l e R s m args below meth c T locs cells slots) (hexec : p.tables.exec = Jvm.exec) {own : String} {index : Nat} {y : MethodName} {bytes : ByteArray} {maxL : Nat} {ret : Option FieldType}
    (hown : s.vm.findClass own = some m.cls) (hlink : (Cond.methodLink own index y).before args s = true) (hsame : (Cond.sameMethod y.cls y.cls y.name y.desc).before args s = true) (hsup : (Cond.superclass own y.cls).before args s = true)
    (hinst : (Cond.instanceMethod y).before args s = true) (hcode : (Cond.code y bytes maxL ret).before args s = true) (hno : y.name ≠ "<init>")
    {W : Nat} {Pre : Pt → Array Value → Prop} {Post : Pt → Array Value → Option Value → Pt → Prop} {PostX : Pt → Array Value → Addr → Pt → Prop} (hK : vx_Back l R p e below s args y 3 W Pre Post PostX)
    {b : Addr} {cellB : Cell} {kB : Class} (hcell : T.heap[b]? = some cellB) (hobj : cellB.vm.isStatics = false) (hkB : s.vm.classes[cellB.cls]? = some kB)
    {g : JFrame} (hg : g.method = m) (hsize : g.locals.size = c.maxLocals) {argsL rest : List Value} (hlen : ∀ sig, parseMethodDescriptor y.desc = some sig → argsL.length = sig.parameters.length)
    (hstack : g.stack = argsL.reverse ++ .ref b :: rest) (hW : 2 * g.monitorRoom + (rest.map fun v => v.category).sum ≤ W) (hdg : decode c.code g.pc = .ok (.invokespecial index, 3))
    (hpre : ∀ vm₁, s.WarmedH vm₁ → Pre ⟨T.setVm vm₁, locs, cells, slots⟩ (Value.ref b :: argsL).toArray) :
    (∃ (v : Option Value) (vm₁ : Vm) (B : Pt), s.WarmedH vm₁ ∧ Stand p l e R s m args below meth c B.U B.locs B.cells B.slots ∧ Post ⟨T.setVm vm₁, locs, cells, slots⟩ (Value.ref b :: argsL).toArray v B ∧
      ∀ target, Steps p.tables e below (B.U.setTop { g with pc := g.pc + 3, stack := v.toList ++ rest }) target → Steps p.tables e below (T.setTop g) target) ∨
    (∃ (q : Addr) (vm₁ : Vm) (B : Pt), s.WarmedH vm₁ ∧ Stand p l e R s m args below meth c B.U B.locs B.cells B.slots ∧ PostX ⟨T.setVm vm₁, locs, cells, slots⟩ (Value.ref b :: argsL).toArray q B ∧
      Steps p.tables e below (T.setTop g) ((B.U.setTop { g with stack := rest }).pushFrame (.throwing q))) := by
  obtain ⟨mk, methM, hnamed, hmethM, hstM, habM⟩ := Cond.instanceMethod_spec hinst
  obtain ⟨methM', cM, hmethM', -, -, -, -, -, -, hsigM⟩ := Cond.code_spec hnamed hcode
  cases hmethM.symm.trans hmethM'
  obtain ⟨ps, dk, kp, hps, hdk, hkp, hsuper, -, -, hnid⟩ := Cond.superclass_spec hown hsup
  have hn : s.methodNamed? ⟨y.cls, y.name, y.desc⟩ = some mk := hnamed
  have hpm : ps = mk.cls := Option.some.inj (hps.symm.trans (findClass_of_methodNamed hnamed))
  have hsub : s.vm.isSubclass ps mk.cls = true := by rw [hpm]; simp [Vm.isSubclass, Vm.isSubclassAux]
  obtain ⟨vm₁, X₁, hstep₁⟩ := X.invokespecialUp hexec hown hlink hsame hn hmethM hstM habM hno hdk hnid hps hsuper hsub (a := b) (cell := cellB) hcell
    (fun z h => by rw [h] at hobj; cases hobj) hkB (g := g) hg (argsL := argsL) (rest := rest) (hlen _ hsigM) hstack hdg
  rcases hK m meth c ⟨T.setVm vm₁, locs, cells, slots⟩ { g with stack := rest } (.invokespecial index) mk (Value.ref b :: argsL).toArray X₁ hg hsize hdg hW (X₁.named hnamed) (hpre vm₁ X₁.warmed) with ⟨v, B, X', hpost, hsteps⟩ | ⟨q, B, X', hpost, hsteps⟩
  · exact Or.inl ⟨v, vm₁, B, X₁.warmed, X', hpost, fun target h => hstep₁ _ (by rw [doInvoke_state]; exact hsteps.trans h)⟩
  · exact Or.inr ⟨q, vm₁, B, X₁.warmed, X', hpost, hstep₁ _ (by rw [doInvoke_state]; exact hsteps)⟩
theorem vx_runSU {y : MethodName} {bytes cc : ByteArray} {maxL nL mc ms n index : Nat} {ret : Option FieldType} {ws : List Cond} {rm : Room} {Pc : Array Value → State → Prop} {Qc : Array Value → State → Outcome → State → Prop} {XC : String → State → State → Prop} {free : Addr → Prop} {Ts : List Cond} {own C : String} {cC : ClassId} {b : Addr} {As rest : List Value} {g : JFrame}
    (hat : ClassAt s C cC) (S : CallFix p m c cc nL s args Ts own) (hM : vx_Met l y ws rm Pc Qc XC mc ms free) (cw : va_CS R s args own index y bytes maxL ret ws rm mc ms n) (hp : PreV s H C b Pc As)
    (hg : g.method = m) (hn : As.length = n) (hsize : g.locals.size = nL) (hstack : g.stack = As.reverse ++ .ref b :: rest) (hW : 2 * g.monitorRoom + (rest.map fun v => v.category).sum ≤ 8) (hdg : decode cc g.pc = .ok (.invokespecial index, 3)) (hf : cells + mc ≤ R.cells ∧ slots + ms ≤ R.slots) :
    vx_Run p l e R s m args below meth c H locs cells slots mc ms g rest (Qc (Value.ref b :: As).toArray) XC free := by
  obtain ⟨⟨hrc, hrs, hfr, hlo, hws, hcw⟩, hl1, hl2, hl3, hl4, hini, hcode, hno, hlen⟩ := cw
  have hK : vx_Back l R p e below s args y 3 8 (PreOf R mc ms Pc) (PostOf Qc mc ms free) (vx_Post XC mc ms free) := vx_back (bytes := bytes) (maxL := maxL) (ret := ret) hM hp.1 hrc hrs hfr hlo hws hcw (fun a' U hW => word_at hW (Or.inl (by first | rfl | simp [Cond.onTables, Cond.keeps, Cond.steady])) hini)
  obtain ⟨hx, hb, hml, ho, -⟩ := S
  obtain ⟨-, ⟨cellB, hcB, hoB, hclB⟩, hPc⟩ := hp
  obtain ⟨hfc, kB, hkB, -⟩ := hat
  cases hfc.symm.trans hclB
  intro T hT X
  rcases vx_callSU X hx (bytes := bytes) (maxL := maxL) (ret := ret) ho hl1 hl2 hl3 hl4 hcode hno hK (by rw [hT]; exact hcB) hoB hkB hg (hsize.trans hml.symm) (argsL := As) (rest := rest) (fun sig h => hn.trans (hlen sig h)) hstack hW (by rw [hb]; exact hdg)
    (fun vm₁ hW₁ => ⟨hf.1, hf.2, hPc (T.setVm vm₁) hT hW₁⟩) with ⟨v, vm₁, ⟨U', l2, c2, s2⟩, hW₁, X', ⟨g', mk, t, L, e1, e2, hq, h1, hL, h2, h3⟩, st⟩ | ⟨q, vm₁, ⟨U', l2, c2, s2⟩, hW₁, X', ⟨g', mk, t, L, E, ce, e1, e2, hq, hce, hcv, hcl, h1, hL, h2, h3⟩, st⟩
  · dsimp only [Pt.U, Pt.locs, Pt.cells, Pt.slots] at X' e1 e2 h1 h2 h3 st
    subst h1; subst h2; subst h3
    exact Or.inl ⟨v, (T.setVm vm₁).calling g' mk (Value.ref b :: As).toArray, t, U', L, hT, X', hL, e1, e2, hq, st⟩
  · dsimp only [Pt.U, Pt.locs, Pt.cells, Pt.slots] at X' e1 e2 h1 h2 h3 st hcl
    subst h1; subst h2; subst h3
    exact Or.inr ⟨q, (T.setVm vm₁).calling g' mk (Value.ref b :: As).toArray, t, U', L, E, ce, hT, X', hL, e1, e2, hq, hce, hcv, vx_cls hW₁ hcl, st⟩
end
/-! ===== END ===== -/
/-! ===== BEGIN a private method of a nest mate that may throw (follows va_callVN, va_callSN, va_runVN, va_runSN) ===== -/
section
variable {p : Program} {l : Launch} {e : Env} {R : Room} {s : State} {m : MethodId} {args : Array Value} {below : List Frame} {meth : Method} {c : Code} {H : Heap} {locs : List Loc} {cells slots : Nat}
variable {T : State}
theorem vx_callVN (X : Stand p l e R s m args below meth c T locs cells slots) (hexec : p.tables.exec = Jvm.exec) {own C : String} {index : Nat} {host : String} {y : MethodName} {bytes : ByteArray} {maxL : Nat} {ret : Option FieldType}
    (hown : s.vm.findClass own = some m.cls) (hlink : (Cond.methodLinkNest own index y host).before args s = true) (hinst : (Cond.instanceMethod y).before args s = true) (hsel : (Cond.selects C y y).before args s = true)
    (hcode : (Cond.code y bytes maxL ret).before args s = true) (hy : y.cls ≠ "java/lang/invoke/MethodHandle" ∧ y.cls ≠ "java/lang/invoke/VarHandle")
    {W : Nat} {Pre : Pt → Array Value → Prop} {Post : Pt → Array Value → Option Value → Pt → Prop} {PostX : Pt → Array Value → Addr → Pt → Prop} (hK : vx_Back l R p e below s args y 3 W Pre Post PostX)
    {b : Addr} {cellB : Cell} (hcell : T.heap[b]? = some cellB) (hobj : cellB.vm.isStatics = false) (hcls : s.vm.findClass C = some cellB.cls)
    {g : JFrame} (hg : g.method = m) (hsize : g.locals.size = c.maxLocals) {argsL rest : List Value} (hlen : ∀ sig, parseMethodDescriptor y.desc = some sig → argsL.length = sig.parameters.length)
    (hstack : g.stack = argsL.reverse ++ .ref b :: rest) (hW : 2 * g.monitorRoom + (rest.map fun v => v.category).sum ≤ W) (hdg : decode c.code g.pc = .ok (.invokevirtual index, 3))
    (hpre : ∀ vm₁, s.WarmedH vm₁ → Pre ⟨T.setVm vm₁, locs, cells, slots⟩ (Value.ref b :: argsL).toArray) :
    (∃ (v : Option Value) (vm₁ : Vm) (B : Pt), s.WarmedH vm₁ ∧ Stand p l e R s m args below meth c B.U B.locs B.cells B.slots ∧ Post ⟨T.setVm vm₁, locs, cells, slots⟩ (Value.ref b :: argsL).toArray v B ∧
      ∀ target, Steps p.tables e below (B.U.setTop { g with pc := g.pc + 3, stack := v.toList ++ rest }) target → Steps p.tables e below (T.setTop g) target) ∨
    (∃ (q : Addr) (vm₁ : Vm) (B : Pt), s.WarmedH vm₁ ∧ Stand p l e R s m args below meth c B.U B.locs B.cells B.slots ∧ PostX ⟨T.setVm vm₁, locs, cells, slots⟩ (Value.ref b :: argsL).toArray q B ∧
      Steps p.tables e below (T.setTop g) ((B.U.setTop { g with stack := rest }).pushFrame (.throwing q))) := by
  obtain ⟨mk, methM, hnamed, hmethM, hstM, habM⟩ := Cond.instanceMethod_spec hinst
  obtain ⟨methM', cM, hmethM', -, -, -, -, -, -, hsigM⟩ := Cond.code_spec hnamed hcode
  cases hmethM.symm.trans hmethM'
  obtain ⟨c2, r2, m2, q1, q2, q3, q4, kP, hkP, hkPi⟩ := Cond.selects_spec hsel
  cases hcls.symm.trans q1
  cases (State.methodFound?_of_named hnamed hy).symm.trans q2
  cases hnamed.symm.trans q3
  have hselP : selectMethod e.platform s.vm cellB.cls mk = .method mk := by rw [Launch.admits_selectMethod X.admits]; exact q4
  obtain ⟨vm₁, X₁, hstep₁⟩ := X.invokevirtualNest hexec hown hlink hnamed hmethM hstM hkP hkPi hy (a := b) (cell := cellB) hcell
    (fun z h => by rw [h] at hobj; cases hobj) hselP hmethM habM hkP hkPi (g := g) hg (argsL := argsL) (rest := rest) (hlen _ hsigM) hstack hdg
  rcases hK m meth c ⟨T.setVm vm₁, locs, cells, slots⟩ { g with stack := rest } (.invokevirtual index) mk (Value.ref b :: argsL).toArray X₁ hg hsize hdg hW (X₁.named hnamed) (hpre vm₁ X₁.warmed) with ⟨v, B, X', hpost, hsteps⟩ | ⟨q, B, X', hpost, hsteps⟩
  · exact Or.inl ⟨v, vm₁, B, X₁.warmed, X', hpost, fun target h => hstep₁ _ fun acts => by rw [doInvoke_state]; exact hsteps.trans h⟩
  · exact Or.inr ⟨q, vm₁, B, X₁.warmed, X', hpost, hstep₁ _ fun acts => by rw [doInvoke_state]; exact hsteps⟩
theorem vx_callSN (X : Stand p l e R s m args below meth c T locs cells slots) (hexec : p.tables.exec = Jvm.exec) {own : String} {index : Nat} {host : String} {y : MethodName} {bytes : ByteArray} {maxL : Nat} {ret : Option FieldType}
    (hown : s.vm.findClass own = some m.cls) (hlink : (Cond.methodLinkNest own index y host).before args s = true) (hstat : (Cond.static y).before args s = true) (hinit : (Cond.initialized y.cls).before args s = true)
    (hcode : (Cond.code y bytes maxL ret).before args s = true) (hy : y.cls ≠ "java/lang/invoke/MethodHandle" ∧ y.cls ≠ "java/lang/invoke/VarHandle")
    {W : Nat} {Pre : Pt → Array Value → Prop} {Post : Pt → Array Value → Option Value → Pt → Prop} {PostX : Pt → Array Value → Addr → Pt → Prop} (hK : vx_Back l R p e below s args y 3 W Pre Post PostX)
    {g : JFrame} (hg : g.method = m) (hsize : g.locals.size = c.maxLocals) {argsL rest : List Value} (hlen : ∀ sig, parseMethodDescriptor y.desc = some sig → argsL.length = sig.parameters.length)
    (hstack : g.stack = argsL.reverse ++ rest) (hW : 2 * g.monitorRoom + (rest.map fun v => v.category).sum ≤ W) (hdg : decode c.code g.pc = .ok (.invokestatic index, 3))
    (hpre : ∀ vm₁, s.WarmedH vm₁ → Pre ⟨T.setVm vm₁, locs, cells, slots⟩ argsL.toArray) :
    (∃ (v : Option Value) (vm₁ : Vm) (B : Pt), s.WarmedH vm₁ ∧ Stand p l e R s m args below meth c B.U B.locs B.cells B.slots ∧ Post ⟨T.setVm vm₁, locs, cells, slots⟩ argsL.toArray v B ∧
      ∀ target, Steps p.tables e below (B.U.setTop { g with pc := g.pc + 3, stack := v.toList ++ rest }) target → Steps p.tables e below (T.setTop g) target) ∨
    (∃ (q : Addr) (vm₁ : Vm) (B : Pt), s.WarmedH vm₁ ∧ Stand p l e R s m args below meth c B.U B.locs B.cells B.slots ∧ PostX ⟨T.setVm vm₁, locs, cells, slots⟩ argsL.toArray q B ∧
      Steps p.tables e below (T.setTop g) ((B.U.setTop { g with stack := rest }).pushFrame (.throwing q))) := by
  obtain ⟨mk, hnamed⟩ := Cond.code_named hcode
  obtain ⟨methM, cM, hmethM, -, -, -, -, -, -, hsigM⟩ := Cond.code_spec hnamed hcode
  have hstatic : methM.isStatic = true := Cond.static_spec hnamed hmethM hstat
  obtain ⟨kP, hkP, -⟩ := className_of_methodNamed hnamed
  have hinitP : kP.init = .initialized := Cond.initialized_spec (findClass_of_methodNamed hnamed) hkP hinit
  obtain ⟨vm₁, X₁, hstep₁⟩ := X.invokestaticNest hexec hown hlink hnamed hmethM hstatic hkP hinitP hy (g := g) hg (argsL := argsL) (rest := rest) (hlen _ hsigM) hstack hdg
  rcases hK m meth c ⟨T.setVm vm₁, locs, cells, slots⟩ { g with stack := rest } (.invokestatic index) mk argsL.toArray X₁ hg hsize hdg hW (X₁.named hnamed) (hpre vm₁ X₁.warmed) with ⟨v, B, X', hpost, hsteps⟩ | ⟨q, B, X', hpost, hsteps⟩
  · exact Or.inl ⟨v, vm₁, B, X₁.warmed, X', hpost, fun target h => hstep₁ _ fun acts => by rw [doInvoke_state]; exact hsteps.trans h⟩
  · exact Or.inr ⟨q, vm₁, B, X₁.warmed, X', hpost, hstep₁ _ fun acts => by rw [doInvoke_state]; exact hsteps⟩
theorem vx_runVN {y : MethodName} {bytes cc : ByteArray} {maxL nL mc ms n index : Nat} {ret : Option FieldType} {ws : List Cond} {rm : Room} {Pc : Array Value → State → Prop} {Qc : Array Value → State → Outcome → State → Prop} {XC : String → State → State → Prop} {free : Addr → Prop} {Ts : List Cond} {own C host : String} {b : Addr} {As rest : List Value} {g : JFrame}
    (S : CallFix p m c cc nL s args Ts own) (hM : vx_Met l y ws rm Pc Qc XC mc ms free) (cw : va_CN R s args own index y host bytes maxL ret ws rm mc ms n ∧ (Cond.instanceMethod y).before args s = true ∧ (Cond.selects C y y).before args s = true) (hp : PreV s H C b Pc As)
    (hg : g.method = m) (hn : As.length = n) (hsize : g.locals.size = nL) (hstack : g.stack = As.reverse ++ .ref b :: rest) (hW : 2 * g.monitorRoom + (rest.map fun v => v.category).sum ≤ 8) (hdg : decode cc g.pc = .ok (.invokevirtual index, 3)) (hf : cells + mc ≤ R.cells ∧ slots + ms ≤ R.slots) :
    vx_Run p l e R s m args below meth c H locs cells slots mc ms g rest (Qc (Value.ref b :: As).toArray) XC free := by
  obtain ⟨⟨⟨hrc, hrs, hfr, hlo, hws, hcw⟩, hcode, hini, hy, hlen, hl⟩, hx1, hx2⟩ := cw
  have hK : vx_Back l R p e below s args y 3 8 (PreOf R mc ms Pc) (PostOf Qc mc ms free) (vx_Post XC mc ms free) := vx_back (bytes := bytes) (maxL := maxL) (ret := ret) hM hp.1 hrc hrs hfr hlo hws hcw (fun a' U hW => word_at hW (Or.inl (by first | rfl | simp [Cond.onTables, Cond.keeps, Cond.steady])) hini)
  obtain ⟨hx, hb, hml, ho, -⟩ := S
  obtain ⟨-, ⟨cellB, hcB, hoB, hclB⟩, hPc⟩ := hp
  intro T hT X
  rcases vx_callVN X hx (C := C) (bytes := bytes) (maxL := maxL) (ret := ret) ho hl hx1 hx2 hcode hy hK (by rw [hT]; exact hcB) hoB hclB hg (hsize.trans hml.symm) (argsL := As) (rest := rest) (fun sig h => hn.trans (hlen sig h)) hstack hW (by rw [hb]; exact hdg)
    (fun vm₁ hW₁ => ⟨hf.1, hf.2, hPc (T.setVm vm₁) hT hW₁⟩) with ⟨v, vm₁, ⟨U', l2, c2, s2⟩, hW₁, X', ⟨g', mk, t, L, e1, e2, hq, h1, hL, h2, h3⟩, st⟩ | ⟨q, vm₁, ⟨U', l2, c2, s2⟩, hW₁, X', ⟨g', mk, t, L, E, ce, e1, e2, hq, hce, hcv, hcl, h1, hL, h2, h3⟩, st⟩
  · dsimp only [Pt.U, Pt.locs, Pt.cells, Pt.slots] at X' e1 e2 h1 h2 h3 st
    subst h1; subst h2; subst h3
    exact Or.inl ⟨v, (T.setVm vm₁).calling g' mk (Value.ref b :: As).toArray, t, U', L, hT, X', hL, e1, e2, hq, st⟩
  · dsimp only [Pt.U, Pt.locs, Pt.cells, Pt.slots] at X' e1 e2 h1 h2 h3 st hcl
    subst h1; subst h2; subst h3
    exact Or.inr ⟨q, (T.setVm vm₁).calling g' mk (Value.ref b :: As).toArray, t, U', L, E, ce, hT, X', hL, e1, e2, hq, hce, hcv, vx_cls hW₁ hcl, st⟩
theorem vx_runSN {y : MethodName} {bytes cc : ByteArray} {maxL nL mc ms n index : Nat} {ret : Option FieldType} {ws : List Cond} {rm : Room} {Pc : Array Value → State → Prop} {Qc : Array Value → State → Outcome → State → Prop} {XC : String → State → State → Prop} {free : Addr → Prop} {Ts : List Cond} {own host : String} {As rest : List Value} {g : JFrame}
    (S : CallFix p m c cc nL s args Ts own) (hM : vx_Met l y ws rm Pc Qc XC mc ms free) (cw : va_CN R s args own index y host bytes maxL ret ws rm mc ms n ∧ (Cond.static y).before args s = true ∧ True) (hp : PreS s H Pc As)
    (hg : g.method = m) (hn : As.length = n) (hsize : g.locals.size = nL) (hstack : g.stack = As.reverse ++ rest) (hW : 2 * g.monitorRoom + (rest.map fun v => v.category).sum ≤ 8) (hdg : decode cc g.pc = .ok (.invokestatic index, 3)) (hf : cells + mc ≤ R.cells ∧ slots + ms ≤ R.slots) :
    vx_Run p l e R s m args below meth c H locs cells slots mc ms g rest (Qc As.toArray) XC free := by
  obtain ⟨⟨⟨hrc, hrs, hfr, hlo, hws, hcw⟩, hcode, hini, hy, hlen, hl⟩, hx1, hx2⟩ := cw
  have hK : vx_Back l R p e below s args y 3 8 (PreOf R mc ms Pc) (PostOf Qc mc ms free) (vx_Post XC mc ms free) := vx_back (bytes := bytes) (maxL := maxL) (ret := ret) hM hp.1 hrc hrs hfr hlo hws hcw (fun a' U hW => word_at hW (Or.inl (by first | rfl | simp [Cond.onTables, Cond.keeps, Cond.steady])) hini)
  obtain ⟨hx, hb, hml, ho, -⟩ := S
  have hPc := hp.2
  intro T hT X
  rcases vx_callSN X hx (bytes := bytes) (maxL := maxL) (ret := ret) ho hl hx1 hini hcode hy hK hg (hsize.trans hml.symm) (argsL := As) (rest := rest) (fun sig h => hn.trans (hlen sig h)) hstack hW (by rw [hb]; exact hdg)
    (fun vm₁ hW₁ => ⟨hf.1, hf.2, hPc (T.setVm vm₁) hT hW₁⟩) with ⟨v, vm₁, ⟨U', l2, c2, s2⟩, hW₁, X', ⟨g', mk, t, L, e1, e2, hq, h1, hL, h2, h3⟩, st⟩ | ⟨q, vm₁, ⟨U', l2, c2, s2⟩, hW₁, X', ⟨g', mk, t, L, E, ce, e1, e2, hq, hce, hcv, hcl, h1, hL, h2, h3⟩, st⟩
  · dsimp only [Pt.U, Pt.locs, Pt.cells, Pt.slots] at X' e1 e2 h1 h2 h3 st
    subst h1; subst h2; subst h3
    exact Or.inl ⟨v, (T.setVm vm₁).calling g' mk As.toArray, t, U', L, hT, X', hL, e1, e2, hq, st⟩
  · dsimp only [Pt.U, Pt.locs, Pt.cells, Pt.slots] at X' e1 e2 h1 h2 h3 st hcl
    subst h1; subst h2; subst h3
    exact Or.inr ⟨q, (T.setVm vm₁).calling g' mk As.toArray, t, U', L, E, ce, hT, X', hL, e1, e2, hq, hce, hcv, vx_cls hW₁ hcl, st⟩
end
/-! ===== END ===== -/
end
section
-- names, printed by program out of claim/NAMES.whole.lean.txt
def RX0 : String := "DeedProtocol$Deed"
def TX0 : u_T := fun k => match k with
  | 0 => ("DeedProtocol$Deed", "number", "I", true)
  | 1 => ("DeedProtocol$Deed", "kind", "I", true)
  | 2 => ("DeedProtocol$Deed", "giver", "LDeedProtocol$Person;", true)
  | 3 => ("DeedProtocol$Deed", "taker", "LDeedProtocol$Person;", true)
  | 4 => ("DeedProtocol$Deed", "thing", "LDeedProtocol$Thing;", true)
  | 5 => ("DeedProtocol$Deed", "above", "I", true)
  | 6 => ("DeedProtocol$Deed", "below", "I", true)
  | 7 => ("DeedProtocol$Deed", "papers", "LDeedProtocol$Papers;", true)
  | 8 => ("DeedProtocol$Deed", "mandate", "LDeedProtocol$Mandate;", false)
  | 9 => ("DeedProtocol$Deed", "parts", "I", false)
  | 10 => ("DeedProtocol$Deed", "witnesses", "I", false)
  | 11 => ("DeedProtocol$Deed", "state", "I", false)
  | 12 => ("DeedProtocol$Deed", "protocolNumber", "I", false)
  | 13 => ("DeedProtocol$Deed", "closingDay", "I", false)
  | _ => ("DeedProtocol$Deed", "entryNumber", "I", false)
def tyX0 : Nat → FieldType := fun k => match k with
  | 0 => .int
  | 1 => .int
  | 2 => .object "DeedProtocol$Person"
  | 3 => .object "DeedProtocol$Person"
  | 4 => .object "DeedProtocol$Thing"
  | 5 => .int
  | 6 => .int
  | 7 => .object "DeedProtocol$Papers"
  | 8 => .object "DeedProtocol$Mandate"
  | 9 => .int
  | 10 => .int
  | 11 => .int
  | 12 => .int
  | 13 => .int
  | _ => .int
abbrev wsX00 : List Cond := u_ws RX0 TX0 15
theorem nmX0 : ∀ a, a < 15 → ∀ b, b < 15 → a ≠ b → (TX0 a).2.1 ≠ (TX0 b).2.1 := by decide +kernel
theorem tyX0_ok : ∀ k, k < 15 → parseFieldDescriptor (TX0 k).2.2.1 = some (tyX0 k) := by decide +kernel
abbrev cX0_init : ByteArray := prog_2_method_1_code
def yX0_init : MethodName := ⟨RX0, "<init>", "(IILDeedProtocol$Person;LDeedProtocol$Person;LDeedProtocol$Thing;II)V"⟩
abbrev cX0_isClosed : ByteArray := prog_2_method_2_code
def yX0_isClosed : MethodName := ⟨RX0, "isClosed", "()Z"⟩
abbrev cX0_hasAll : ByteArray := prog_2_method_3_code
def yX0_hasAll : MethodName := ⟨RX0, "hasAll", "(I)Z"⟩
abbrev cX0_side : ByteArray := prog_2_method_4_code
def yX0_side : MethodName := ⟨RX0, "side", "(Z)LDeedProtocol$Person;"⟩
abbrev cX0_hasWitness : ByteArray := prog_2_method_5_code
def yX0_hasWitness : MethodName := ⟨RX0, "hasWitness", "(LDeedProtocol$Person;)Z"⟩
abbrev cX0_addWitness : ByteArray := prog_2_method_6_code
def yX0_addWitness : MethodName := ⟨RX0, "addWitness", "(LDeedProtocol$Person;)V"⟩
def RX1 : String := "DeedProtocol$Entry"
def TX1 : u_T := fun k => match k with
  | 0 => ("DeedProtocol$Entry", "kind", "I", true)
  | 1 => ("DeedProtocol$Entry", "about", "I", true)
  | 2 => ("DeedProtocol$Entry", "thing", "LDeedProtocol$Thing;", true)
  | 3 => ("DeedProtocol$Entry", "day", "I", true)
  | _ => ("DeedProtocol$Entry", "move", "LDeedProtocol$Move;", true)
def tyX1 : Nat → FieldType := fun k => match k with
  | 0 => .int
  | 1 => .int
  | 2 => .object "DeedProtocol$Thing"
  | 3 => .int
  | _ => .object "DeedProtocol$Move"
abbrev wsX10 : List Cond := u_ws RX1 TX1 5
theorem nmX1 : ∀ a, a < 5 → ∀ b, b < 5 → a ≠ b → (TX1 a).2.1 ≠ (TX1 b).2.1 := by decide +kernel
theorem tyX1_ok : ∀ k, k < 5 → parseFieldDescriptor (TX1 k).2.2.1 = some (tyX1 k) := by decide +kernel
abbrev cX1_init : ByteArray := prog_3_method_1_code
def yX1_init : MethodName := ⟨RX1, "<init>", "(IILDeedProtocol$Thing;ILDeedProtocol$Move;)V"⟩
def RX2 : String := "DeedProtocol$Mandate"
def TX2 : u_T := fun k => match k with
  | 0 => ("DeedProtocol$Mandate", "lastDay", "I", true)
  | 1 => ("DeedProtocol$Mandate", "goesOn", "Z", true)
  | 2 => ("DeedProtocol$Mandate", "isRevoked", "Z", false)
  | 3 => ("DeedProtocol$Mandate", "isRevocationKnown", "Z", false)
  | _ => ("DeedProtocol$Mandate", "source", "LDeedProtocol$Deed;", false)
def tyX2 : Nat → FieldType := fun k => match k with
  | 0 => .int
  | 1 => .boolean
  | 2 => .boolean
  | 3 => .boolean
  | _ => .object "DeedProtocol$Deed"
abbrev wsX20 : List Cond := u_ws RX2 TX2 5
theorem nmX2 : ∀ a, a < 5 → ∀ b, b < 5 → a ≠ b → (TX2 a).2.1 ≠ (TX2 b).2.1 := by decide +kernel
theorem tyX2_ok : ∀ k, k < 5 → parseFieldDescriptor (TX2 k).2.2.1 = some (tyX2 k) := by decide +kernel
abbrev cX2_init : ByteArray := prog_4_method_1_code
def yX2_init : MethodName := ⟨RX2, "<init>", "(IZ)V"⟩
def RX3 : String := "DeedProtocol$Move"
def TX3 : u_T := fun k => match k with
  | 0 => ("DeedProtocol$Move", "giver", "I", true)
  | 1 => ("DeedProtocol$Move", "taker", "I", true)
  | 2 => ("DeedProtocol$Move", "above", "I", true)
  | 3 => ("DeedProtocol$Move", "below", "I", true)
  | _ => ("DeedProtocol$Move", "heirs", "I", true)
def tyX3 : Nat → FieldType := fun k => match k with
  | 0 => .int
  | 1 => .int
  | 2 => .int
  | 3 => .int
  | _ => .int
abbrev wsX30 : List Cond := u_ws RX3 TX3 5
theorem nmX3 : ∀ a, a < 5 → ∀ b, b < 5 → a ≠ b → (TX3 a).2.1 ≠ (TX3 b).2.1 := by decide +kernel
theorem tyX3_ok : ∀ k, k < 5 → parseFieldDescriptor (TX3 k).2.2.1 = some (tyX3 k) := by decide +kernel
abbrev cX3_init : ByteArray := prog_5_method_1_code
def yX3_init : MethodName := ⟨RX3, "<init>", "(IIIII)V"⟩
def RX4 : String := "DeedProtocol$Papers"
def TX4 : u_T := fun k => match k with
  | 0 => ("DeedProtocol$Papers", "grades", "[I", true)
  | _ => ("DeedProtocol$Papers", "count", "I", false)
def tyX4 : Nat → FieldType := fun k => match k with
  | 0 => .array .int
  | _ => .int
abbrev wsX40 : List Cond := u_ws RX4 TX4 2
theorem nmX4 : ∀ a, a < 2 → ∀ b, b < 2 → a ≠ b → (TX4 a).2.1 ≠ (TX4 b).2.1 := by decide +kernel
theorem tyX4_ok : ∀ k, k < 2 → parseFieldDescriptor (TX4 k).2.2.1 = some (tyX4 k) := by decide +kernel
abbrev cX4_init : ByteArray := prog_6_method_1_code
def yX4_init : MethodName := ⟨RX4, "<init>", "()V"⟩
abbrev cX4_leastGrade : ByteArray := prog_6_method_2_code
def yX4_leastGrade : MethodName := ⟨RX4, "leastGrade", "()I"⟩
abbrev cX4_append : ByteArray := prog_6_method_3_code
def yX4_append : MethodName := ⟨RX4, "append", "(I)V"⟩
abbrev cX4_dropFirst : ByteArray := prog_6_method_4_code
def yX4_dropFirst : MethodName := ⟨RX4, "dropFirst", "()V"⟩
def RX5 : String := "DeedProtocol$Person"
def TX5 : u_T := fun k => match k with
  | 0 => ("DeedProtocol$Person", "number", "I", true)
  | 1 => ("DeedProtocol$Person", "ageWhenTold", "I", true)
  | 2 => ("DeedProtocol$Person", "dayTold", "I", true)
  | 3 => ("DeedProtocol$Person", "isForeign", "Z", true)
  | 4 => ("DeedProtocol$Person", "isAlive", "Z", false)
  | 5 => ("DeedProtocol$Person", "guardian", "LDeedProtocol$Person;", false)
  | _ => ("DeedProtocol$Person", "parents", "I", false)
def tyX5 : Nat → FieldType := fun k => match k with
  | 0 => .int
  | 1 => .int
  | 2 => .int
  | 3 => .boolean
  | 4 => .boolean
  | 5 => .object "DeedProtocol$Person"
  | _ => .int
abbrev wsX50 : List Cond := u_ws RX5 TX5 7
theorem nmX5 : ∀ a, a < 7 → ∀ b, b < 7 → a ≠ b → (TX5 a).2.1 ≠ (TX5 b).2.1 := by decide +kernel
theorem tyX5_ok : ∀ k, k < 7 → parseFieldDescriptor (TX5 k).2.2.1 = some (tyX5 k) := by decide +kernel
abbrev cX5_init : ByteArray := prog_7_method_1_code
def yX5_init : MethodName := ⟨RX5, "<init>", "(IIIZ)V"⟩
abbrev cX5_isAbleOn : ByteArray := prog_7_method_2_code
def yX5_isAbleOn : MethodName := ⟨RX5, "isAbleOn", "(I)Z"⟩
abbrev cX5_isChildOf : ByteArray := prog_7_method_3_code
def yX5_isChildOf : MethodName := ⟨RX5, "isChildOf", "(LDeedProtocol$Person;)Z"⟩
abbrev cX5_parentCount : ByteArray := prog_7_method_4_code
def yX5_parentCount : MethodName := ⟨RX5, "parentCount", "()I"⟩
abbrev cX5_addParent : ByteArray := prog_7_method_5_code
def yX5_addParent : MethodName := ⟨RX5, "addParent", "(LDeedProtocol$Person;)V"⟩
def RX6 : String := "DeedProtocol$Shares"
def TX6 : u_T := fun k => match k with
  | 0 => ("DeedProtocol$Shares", "above", "[J", true)
  | _ => ("DeedProtocol$Shares", "below", "[J", true)
def tyX6 : Nat → FieldType := fun k => match k with
  | 0 => .array .long
  | _ => .array .long
abbrev wsX60 : List Cond := u_ws RX6 TX6 2
theorem nmX6 : ∀ a, a < 2 → ∀ b, b < 2 → a ≠ b → (TX6 a).2.1 ≠ (TX6 b).2.1 := by decide +kernel
theorem tyX6_ok : ∀ k, k < 2 → parseFieldDescriptor (TX6 k).2.2.1 = some (tyX6 k) := by decide +kernel
abbrev cX6_init : ByteArray := prog_8_method_1_code
def yX6_init : MethodName := ⟨RX6, "<init>", "()V"⟩
abbrev cX6_isHolder : ByteArray := prog_8_method_2_code
def yX6_isHolder : MethodName := ⟨RX6, "isHolder", "(I)Z"⟩
abbrev cX6_startWith : ByteArray := prog_8_method_3_code
def yX6_startWith : MethodName := ⟨RX6, "startWith", "(I)V"⟩
abbrev cX6_copyFrom : ByteArray := prog_8_method_4_code
def yX6_copyFrom : MethodName := ⟨RX6, "copyFrom", "(LDeedProtocol$Shares;)V"⟩
abbrev cX6_isEmptyOf : ByteArray := prog_8_method_5_code
def yX6_isEmptyOf : MethodName := ⟨RX6, "isEmptyOf", "(I)Z"⟩
abbrev cX6_has : ByteArray := prog_8_method_6_code
def yX6_has : MethodName := ⟨RX6, "has", "(III)Z"⟩
abbrev cX6_areSmall : ByteArray := prog_8_method_7_code
def yX6_areSmall : MethodName := ⟨RX6, "areSmall", "()Z"⟩
abbrev cX6_termOf : ByteArray := prog_8_method_8_code
def yX6_termOf : MethodName := ⟨RX6, "termOf", "(IZ)I"⟩
abbrev cX6_carryOut : ByteArray := prog_8_method_9_code
def yX6_carryOut : MethodName := ⟨RX6, "carryOut", "(LDeedProtocol$Move;)V"⟩
abbrev cX6_bequeath : ByteArray := prog_8_method_10_code
def yX6_bequeath : MethodName := ⟨RX6, "bequeath", "(LDeedProtocol$Move;JJ)V"⟩
abbrev cX6_change : ByteArray := prog_8_method_11_code
def yX6_change : MethodName := ⟨RX6, "change", "(IJJ)V"⟩
abbrev cX6_commonDivisor : ByteArray := prog_8_method_12_code
def yX6_commonDivisor : MethodName := ⟨RX6, "commonDivisor", "(JJ)J"⟩
def RX7 : String := "DeedProtocol$Thing"
def TX7 : u_T := fun k => match k with
  | 0 => ("DeedProtocol$Thing", "number", "I", true)
  | 1 => ("DeedProtocol$Thing", "firstOwner", "I", true)
  | 2 => ("DeedProtocol$Thing", "value", "I", true)
  | _ => ("DeedProtocol$Thing", "shares", "LDeedProtocol$Shares;", true)
def tyX7 : Nat → FieldType := fun k => match k with
  | 0 => .int
  | 1 => .int
  | 2 => .int
  | _ => .object "DeedProtocol$Shares"
abbrev wsX70 : List Cond := u_ws RX7 TX7 4
theorem nmX7 : ∀ a, a < 4 → ∀ b, b < 4 → a ≠ b → (TX7 a).2.1 ≠ (TX7 b).2.1 := by decide +kernel
theorem tyX7_ok : ∀ k, k < 4 → parseFieldDescriptor (TX7 k).2.2.1 = some (tyX7 k) := by decide +kernel
abbrev cX7_init : ByteArray := prog_9_method_1_code
def yX7_init : MethodName := ⟨RX7, "<init>", "(III)V"⟩
def RX8 : String := "DeedProtocol"
def TX8 : u_T := fun k => match k with
  | 0 => ("DeedProtocol", "persons", "Ljava/util/ArrayList;", true)
  | 1 => ("DeedProtocol", "things", "Ljava/util/ArrayList;", true)
  | 2 => ("DeedProtocol", "deeds", "Ljava/util/ArrayList;", true)
  | 3 => ("DeedProtocol", "register", "Ljava/util/ArrayList;", true)
  | 4 => ("DeedProtocol", "trial", "LDeedProtocol$Shares;", true)
  | 5 => ("DeedProtocol", "today", "I", false)
  | 6 => ("DeedProtocol", "closedDeeds", "I", false)
  | _ => ("DeedProtocol", "dutySum", "J", false)
def tyX8 : Nat → FieldType := fun k => match k with
  | 0 => .object "java/util/ArrayList"
  | 1 => .object "java/util/ArrayList"
  | 2 => .object "java/util/ArrayList"
  | 3 => .object "java/util/ArrayList"
  | 4 => .object "DeedProtocol$Shares"
  | 5 => .int
  | 6 => .int
  | _ => .long
abbrev wsX80 : List Cond := u_ws RX8 TX8 8
theorem nmX8 : ∀ a, a < 8 → ∀ b, b < 8 → a ≠ b → (TX8 a).2.1 ≠ (TX8 b).2.1 := by decide +kernel
theorem tyX8_ok : ∀ k, k < 8 → parseFieldDescriptor (TX8 k).2.2.1 = some (tyX8 k) := by decide +kernel
abbrev cX8_init : ByteArray := prog_1_method_1_code
def yX8_init : MethodName := ⟨RX8, "<init>", "()V"⟩
abbrev cX8_person : ByteArray := prog_1_method_2_code
def yX8_person : MethodName := ⟨RX8, "person", "(IZ)I"⟩
abbrev cX8_child : ByteArray := prog_1_method_3_code
def yX8_child : MethodName := ⟨RX8, "child", "(II)I"⟩
abbrev cX8_guard : ByteArray := prog_1_method_4_code
def yX8_guard : MethodName := ⟨RX8, "guard", "(II)I"⟩
abbrev cX8_thing : ByteArray := prog_1_method_5_code
def yX8_thing : MethodName := ⟨RX8, "thing", "(II)I"⟩
abbrev cX8_isAble : ByteArray := prog_1_method_6_code
def yX8_isAble : MethodName := ⟨RX8, "isAble", "(I)Z"⟩
abbrev cX8_draft : ByteArray := prog_1_method_7_code
def yX8_draft : MethodName := ⟨RX8, "draft", "(IIIIII)I"⟩
abbrev cX8_power : ByteArray := prog_1_method_8_code
def yX8_power : MethodName := ⟨RX8, "power", "(IIIIZ)I"⟩
abbrev cX8_will : ByteArray := prog_1_method_9_code
def yX8_will : MethodName := ⟨RX8, "will", "(IIII)I"⟩
abbrev cX8_sign : ByteArray := prog_1_method_10_code
def yX8_sign : MethodName := ⟨RX8, "sign", "(IIZI)I"⟩
abbrev cX8_add : ByteArray := prog_1_method_11_code
def yX8_add : MethodName := ⟨RX8, "add", "(II)I"⟩
abbrev cX8_witness : ByteArray := prog_1_method_12_code
def yX8_witness : MethodName := ⟨RX8, "witness", "(II)I"⟩
abbrev cX8_close : ByteArray := prog_1_method_13_code
def yX8_close : MethodName := ⟨RX8, "close", "(I)I"⟩
abbrev cX8_deed : ByteArray := prog_1_method_14_code
def yX8_deed : MethodName := ⟨RX8, "deed", "(II)I"⟩
abbrev cX8_label : ByteArray := prog_1_method_15_code
def yX8_label : MethodName := ⟨RX8, "label", "(II)C"⟩
abbrev cX8_revoke : ByteArray := prog_1_method_16_code
def yX8_revoke : MethodName := ⟨RX8, "revoke", "(IZ)Z"⟩
abbrev cX8_isGood : ByteArray := prog_1_method_17_code
def yX8_isGood : MethodName := ⟨RX8, "isGood", "(I)Z"⟩
abbrev cX8_copy : ByteArray := prog_1_method_18_code
def yX8_copy : MethodName := ⟨RX8, "copy", "(I)I"⟩
abbrev cX8_lose : ByteArray := prog_1_method_19_code
def yX8_lose : MethodName := ⟨RX8, "lose", "(I)I"⟩
abbrev cX8_proof : ByteArray := prog_1_method_20_code
def yX8_proof : MethodName := ⟨RX8, "proof", "(I)I"⟩
abbrev cX8_enter : ByteArray := prog_1_method_21_code
def yX8_enter : MethodName := ⟨RX8, "enter", "(I)I"⟩
abbrev cX8_die : ByteArray := prog_1_method_22_code
def yX8_die : MethodName := ⟨RX8, "die", "(I)I"⟩
abbrev cX8_entry : ByteArray := prog_1_method_23_code
def yX8_entry : MethodName := ⟨RX8, "entry", "(II)I"⟩
abbrev cX8_entries : ByteArray := prog_1_method_24_code
def yX8_entries : MethodName := ⟨RX8, "entries", "()I"⟩
abbrev cX8_search : ByteArray := prog_1_method_25_code
def yX8_search : MethodName := ⟨RX8, "search", "(III)I"⟩
abbrev cX8_pledge : ByteArray := prog_1_method_26_code
def yX8_pledge : MethodName := ⟨RX8, "pledge", "(II)I"⟩
abbrev cX8_share : ByteArray := prog_1_method_27_code
def yX8_share : MethodName := ⟨RX8, "share", "(IIZ)I"⟩
abbrev cX8_shareAnew : ByteArray := prog_1_method_28_code
def yX8_shareAnew : MethodName := ⟨RX8, "shareAnew", "(IIZ)I"⟩
abbrev cX8_duties : ByteArray := prog_1_method_29_code
def yX8_duties : MethodName := ⟨RX8, "duties", "()J"⟩
abbrev cX8_pass : ByteArray := prog_1_method_30_code
def yX8_pass : MethodName := ⟨RX8, "pass", "(I)I"⟩
abbrev cX8_personAt : ByteArray := prog_1_method_31_code
def yX8_personAt : MethodName := ⟨RX8, "personAt", "(I)LDeedProtocol$Person;"⟩
abbrev cX8_thingAt : ByteArray := prog_1_method_32_code
def yX8_thingAt : MethodName := ⟨RX8, "thingAt", "(I)LDeedProtocol$Thing;"⟩
abbrev cX8_deedAt : ByteArray := prog_1_method_33_code
def yX8_deedAt : MethodName := ⟨RX8, "deedAt", "(I)LDeedProtocol$Deed;"⟩
abbrev cX8_holderAt : ByteArray := prog_1_method_34_code
def yX8_holderAt : MethodName := ⟨RX8, "holderAt", "(I)I"⟩
abbrev cX8_refuseDead : ByteArray := prog_1_method_35_code
def yX8_refuseDead : MethodName := ⟨RX8, "refuseDead", "(LDeedProtocol$Person;LDeedProtocol$Person;)V"⟩
abbrev cX8_refuseNewDeed : ByteArray := prog_1_method_36_code
def yX8_refuseNewDeed : MethodName := ⟨RX8, "refuseNewDeed", "(LDeedProtocol$Person;LDeedProtocol$Person;)V"⟩
abbrev cX8_refuseClosedOrHaving : ByteArray := prog_1_method_37_code
def yX8_refuseClosedOrHaving : MethodName := ⟨RX8, "refuseClosedOrHaving", "(LDeedProtocol$Deed;I)V"⟩
abbrev cX8_isOfThing : ByteArray := prog_1_method_38_code
def yX8_isOfThing : MethodName := ⟨RX8, "isOfThing", "(I)Z"⟩
abbrev cX8_isPart : ByteArray := prog_1_method_39_code
def yX8_isPart : MethodName := ⟨RX8, "isPart", "(II)Z"⟩
abbrev cX8_keepDeed : ByteArray := prog_1_method_40_code
def yX8_keepDeed : MethodName := ⟨RX8, "keepDeed", "(LDeedProtocol$Deed;)I"⟩
abbrev cX8_signsWithoutPower : ByteArray := prog_1_method_41_code
def yX8_signsWithoutPower : MethodName := ⟨RX8, "signsWithoutPower", "(LDeedProtocol$Deed;LDeedProtocol$Person;Z)Z"⟩
abbrev cX8_signsAsGuardian : ByteArray := prog_1_method_42_code
def yX8_signsAsGuardian : MethodName := ⟨RX8, "signsAsGuardian", "(LDeedProtocol$Deed;LDeedProtocol$Person;Z)Z"⟩
abbrev cX8_signsByPower : ByteArray := prog_1_method_43_code
def yX8_signsByPower : MethodName := ⟨RX8, "signsByPower", "(LDeedProtocol$Deed;LDeedProtocol$Person;ZLDeedProtocol$Deed;)Z"⟩
abbrev cX8_canWitness : ByteArray := prog_1_method_44_code
def yX8_canWitness : MethodName := ⟨RX8, "canWitness", "(LDeedProtocol$Deed;LDeedProtocol$Person;)Z"⟩
abbrev cX8_areParentAndChild : ByteArray := prog_1_method_45_code
def yX8_areParentAndChild : MethodName := ⟨RX8, "areParentAndChild", "(LDeedProtocol$Person;LDeedProtocol$Person;)Z"⟩
abbrev cX8_stateByParts : ByteArray := prog_1_method_46_code
def yX8_stateByParts : MethodName := ⟨RX8, "stateByParts", "(LDeedProtocol$Deed;)I"⟩
abbrev cX8_neededParts : ByteArray := prog_1_method_47_code
def yX8_neededParts : MethodName := ⟨RX8, "neededParts", "(LDeedProtocol$Deed;)I"⟩
abbrev cX8_kindLetter : ByteArray := prog_1_method_48_code
def yX8_kindLetter : MethodName := ⟨RX8, "kindLetter", "(I)C"⟩
abbrev cX8_stateLetter : ByteArray := prog_1_method_49_code
def yX8_stateLetter : MethodName := ⟨RX8, "stateLetter", "(I)C"⟩
abbrev cX8_isGoodPower : ByteArray := prog_1_method_50_code
def yX8_isGoodPower : MethodName := ⟨RX8, "isGoodPower", "(LDeedProtocol$Deed;)Z"⟩
abbrev cX8_isGoodByItself : ByteArray := prog_1_method_51_code
def yX8_isGoodByItself : MethodName := ⟨RX8, "isGoodByItself", "(LDeedProtocol$Deed;LDeedProtocol$Mandate;)Z"⟩
abbrev cX8_isReadyToEnter : ByteArray := prog_1_method_52_code
def yX8_isReadyToEnter : MethodName := ⟨RX8, "isReadyToEnter", "(LDeedProtocol$Deed;)Z"⟩
abbrev cX8_moveOf : ByteArray := prog_1_method_53_code
def yX8_moveOf : MethodName := ⟨RX8, "moveOf", "(LDeedProtocol$Deed;)LDeedProtocol$Move;"⟩
abbrev cX8_leavesSmallShares : ByteArray := prog_1_method_54_code
def yX8_leavesSmallShares : MethodName := ⟨RX8, "leavesSmallShares", "(LDeedProtocol$Thing;LDeedProtocol$Move;)Z"⟩
abbrev cX8_keepEntry : ByteArray := prog_1_method_55_code
def yX8_keepEntry : MethodName := ⟨RX8, "keepEntry", "(LDeedProtocol$Entry;)V"⟩
abbrev cX8_dutyOf : ByteArray := prog_1_method_56_code
def yX8_dutyOf : MethodName := ⟨RX8, "dutyOf", "(LDeedProtocol$Deed;LDeedProtocol$Thing;)J"⟩
abbrev cX8_countEstateThings : ByteArray := prog_1_method_57_code
def yX8_countEstateThings : MethodName := ⟨RX8, "countEstateThings", "(LDeedProtocol$Person;LDeedProtocol$Move;)I"⟩
abbrev cX8_endGuardianships : ByteArray := prog_1_method_58_code
def yX8_endGuardianships : MethodName := ⟨RX8, "endGuardianships", "(LDeedProtocol$Person;)V"⟩
abbrev cX8_successionOf : ByteArray := prog_1_method_59_code
def yX8_successionOf : MethodName := ⟨RX8, "successionOf", "(LDeedProtocol$Person;)LDeedProtocol$Move;"⟩
abbrev cX8_heirsOf : ByteArray := prog_1_method_60_code
def yX8_heirsOf : MethodName := ⟨RX8, "heirsOf", "(LDeedProtocol$Person;I)I"⟩
abbrev cX8_livingChildren : ByteArray := prog_1_method_61_code
def yX8_livingChildren : MethodName := ⟨RX8, "livingChildren", "(LDeedProtocol$Person;)I"⟩
abbrev cX8_livingParents : ByteArray := prog_1_method_62_code
def yX8_livingParents : MethodName := ⟨RX8, "livingParents", "(LDeedProtocol$Person;)I"⟩
abbrev cX8_countingWill : ByteArray := prog_1_method_63_code
def yX8_countingWill : MethodName := ⟨RX8, "countingWill", "(LDeedProtocol$Person;)LDeedProtocol$Deed;"⟩
abbrev cX8_isStandingWillOf : ByteArray := prog_1_method_64_code
def yX8_isStandingWillOf : MethodName := ⟨RX8, "isStandingWillOf", "(LDeedProtocol$Deed;LDeedProtocol$Person;)Z"⟩
abbrev cX8_goesBefore : ByteArray := prog_1_method_65_code
def yX8_goesBefore : MethodName := ⟨RX8, "goesBefore", "(LDeedProtocol$Deed;LDeedProtocol$Deed;)Z"⟩
def RX9 : String := "DeedProtocolModel"
def TX9 : u_T := fun k => match k with
  | 0 => ("DeedProtocolModel", "thrown", "I", false)
  | 1 => ("DeedProtocolModel", "day", "I", false)
  | 2 => ("DeedProtocolModel", "persons", "I", false)
  | 3 => ("DeedProtocolModel", "age", "[I", true)
  | 4 => ("DeedProtocolModel", "since", "[I", true)
  | 5 => ("DeedProtocolModel", "isForeign", "[Z", true)
  | 6 => ("DeedProtocolModel", "isDead", "[Z", true)
  | 7 => ("DeedProtocolModel", "parents", "[I", true)
  | 8 => ("DeedProtocolModel", "parentsMany", "[I", true)
  | 9 => ("DeedProtocolModel", "guardian", "[I", true)
  | 10 => ("DeedProtocolModel", "deeds", "I", false)
  | 11 => ("DeedProtocolModel", "kind", "[I", true)
  | 12 => ("DeedProtocolModel", "giver", "[I", true)
  | 13 => ("DeedProtocolModel", "taker", "[I", true)
  | 14 => ("DeedProtocolModel", "its", "[I", true)
  | 15 => ("DeedProtocolModel", "above", "[I", true)
  | 16 => ("DeedProtocolModel", "below", "[I", true)
  | 17 => ("DeedProtocolModel", "last", "[I", true)
  | 18 => ("DeedProtocolModel", "goesOn", "[Z", true)
  | 19 => ("DeedProtocolModel", "by", "[I", true)
  | 20 => ("DeedProtocolModel", "parts", "[I", true)
  | 21 => ("DeedProtocolModel", "witnesses", "[I", true)
  | 22 => ("DeedProtocolModel", "state", "[I", true)
  | 23 => ("DeedProtocolModel", "number", "[I", true)
  | 24 => ("DeedProtocolModel", "closed", "[I", true)
  | 25 => ("DeedProtocolModel", "entered", "[I", true)
  | 26 => ("DeedProtocolModel", "isRevoked", "[Z", true)
  | 27 => ("DeedProtocolModel", "isKnown", "[Z", true)
  | 28 => ("DeedProtocolModel", "grades", "[I", true)
  | 29 => ("DeedProtocolModel", "papers", "[I", true)
  | 30 => ("DeedProtocolModel", "protocol", "I", false)
  | 31 => ("DeedProtocolModel", "things", "I", false)
  | 32 => ("DeedProtocolModel", "value", "[I", true)
  | 33 => ("DeedProtocolModel", "top", "[J", true)
  | 34 => ("DeedProtocolModel", "bottom", "[J", true)
  | 35 => ("DeedProtocolModel", "entries", "I", false)
  | 36 => ("DeedProtocolModel", "sort", "[I", true)
  | 37 => ("DeedProtocolModel", "what", "[I", true)
  | 38 => ("DeedProtocolModel", "of", "[I", true)
  | 39 => ("DeedProtocolModel", "when", "[I", true)
  | 40 => ("DeedProtocolModel", "duties", "J", false)
  | 41 => ("DeedProtocolModel", "newTop", "[J", true)
  | _ => ("DeedProtocolModel", "newBottom", "[J", true)
def tyX9 : Nat → FieldType := fun k => match k with
  | 0 => .int
  | 1 => .int
  | 2 => .int
  | 3 => .array .int
  | 4 => .array .int
  | 5 => .array .boolean
  | 6 => .array .boolean
  | 7 => .array .int
  | 8 => .array .int
  | 9 => .array .int
  | 10 => .int
  | 11 => .array .int
  | 12 => .array .int
  | 13 => .array .int
  | 14 => .array .int
  | 15 => .array .int
  | 16 => .array .int
  | 17 => .array .int
  | 18 => .array .boolean
  | 19 => .array .int
  | 20 => .array .int
  | 21 => .array .int
  | 22 => .array .int
  | 23 => .array .int
  | 24 => .array .int
  | 25 => .array .int
  | 26 => .array .boolean
  | 27 => .array .boolean
  | 28 => .array .int
  | 29 => .array .int
  | 30 => .int
  | 31 => .int
  | 32 => .array .int
  | 33 => .array .long
  | 34 => .array .long
  | 35 => .int
  | 36 => .array .int
  | 37 => .array .int
  | 38 => .array .int
  | 39 => .array .int
  | 40 => .long
  | 41 => .array .long
  | _ => .array .long
abbrev wsX90 : List Cond := u_ws RX9 TX9 43
theorem nmX9 : ∀ a, a < 43 → ∀ b, b < 43 → a ≠ b → (TX9 a).2.1 ≠ (TX9 b).2.1 := by decide +kernel
theorem tyX9_ok : ∀ k, k < 43 → parseFieldDescriptor (TX9 k).2.2.1 = some (tyX9 k) := by decide +kernel
abbrev cX9_init : ByteArray := prog_11_method_1_code
def yX9_init : MethodName := ⟨RX9, "<init>", "()V"⟩
abbrev cX9_thrown : ByteArray := prog_11_method_2_code
def yX9_thrown : MethodName := ⟨RX9, "thrown", "()I"⟩
abbrev cX9_in : ByteArray := prog_11_method_3_code
def yX9_in : MethodName := ⟨RX9, "in", "(III)Z"⟩
abbrev cX9_isPerson : ByteArray := prog_11_method_4_code
def yX9_isPerson : MethodName := ⟨RX9, "isPerson", "(I)Z"⟩
abbrev cX9_isDeed : ByteArray := prog_11_method_5_code
def yX9_isDeed : MethodName := ⟨RX9, "isDeed", "(I)Z"⟩
abbrev cX9_isThing : ByteArray := prog_11_method_6_code
def yX9_isThing : MethodName := ⟨RX9, "isThing", "(I)Z"⟩
abbrev cX9_person : ByteArray := prog_11_method_7_code
def yX9_person : MethodName := ⟨RX9, "person", "(IZ)I"⟩
abbrev cX9_isChild : ByteArray := prog_11_method_8_code
def yX9_isChild : MethodName := ⟨RX9, "isChild", "(II)Z"⟩
abbrev cX9_child : ByteArray := prog_11_method_9_code
def yX9_child : MethodName := ⟨RX9, "child", "(II)I"⟩
abbrev cX9_guard : ByteArray := prog_11_method_10_code
def yX9_guard : MethodName := ⟨RX9, "guard", "(II)I"⟩
abbrev cX9_thing : ByteArray := prog_11_method_11_code
def yX9_thing : MethodName := ⟨RX9, "thing", "(II)I"⟩
abbrev cX9_able : ByteArray := prog_11_method_12_code
def yX9_able : MethodName := ⟨RX9, "able", "(I)Z"⟩
abbrev cX9_isAble : ByteArray := prog_11_method_13_code
def yX9_isAble : MethodName := ⟨RX9, "isAble", "(I)Z"⟩
abbrev cX9_drafts : ByteArray := prog_11_method_14_code
def yX9_drafts : MethodName := ⟨RX9, "drafts", "(III)I"⟩
abbrev cX9_hasRoom : ByteArray := prog_11_method_15_code
def yX9_hasRoom : MethodName := ⟨RX9, "hasRoom", "(II)Z"⟩
abbrev cX9_draft : ByteArray := prog_11_method_16_code
def yX9_draft : MethodName := ⟨RX9, "draft", "(IIIIII)I"⟩
abbrev cX9_power : ByteArray := prog_11_method_17_code
def yX9_power : MethodName := ⟨RX9, "power", "(IIIIZ)I"⟩
abbrev cX9_will : ByteArray := prog_11_method_18_code
def yX9_will : MethodName := ⟨RX9, "will", "(IIII)I"⟩
abbrev cX9_isGoodAlone : ByteArray := prog_11_method_19_code
def yX9_isGoodAlone : MethodName := ⟨RX9, "isGoodAlone", "(I)Z"⟩
abbrev cX9_good : ByteArray := prog_11_method_20_code
def yX9_good : MethodName := ⟨RX9, "good", "(I)Z"⟩
abbrev cX9_isGuardian : ByteArray := prog_11_method_21_code
def yX9_isGuardian : MethodName := ⟨RX9, "isGuardian", "(II)Z"⟩
abbrev cX9_signsBy : ByteArray := prog_11_method_22_code
def yX9_signsBy : MethodName := ⟨RX9, "signsBy", "(IIII)Z"⟩
abbrev cX9_sign : ByteArray := prog_11_method_23_code
def yX9_sign : MethodName := ⟨RX9, "sign", "(IIZI)I"⟩
abbrev cX9_add : ByteArray := prog_11_method_24_code
def yX9_add : MethodName := ⟨RX9, "add", "(II)I"⟩
abbrev cX9_isKin : ByteArray := prog_11_method_25_code
def yX9_isKin : MethodName := ⟨RX9, "isKin", "(II)Z"⟩
abbrev cX9_witness : ByteArray := prog_11_method_26_code
def yX9_witness : MethodName := ⟨RX9, "witness", "(II)I"⟩
abbrev cX9_isOfThing : ByteArray := prog_11_method_27_code
def yX9_isOfThing : MethodName := ⟨RX9, "isOfThing", "(I)Z"⟩
abbrev cX9_needs : ByteArray := prog_11_method_28_code
def yX9_needs : MethodName := ⟨RX9, "needs", "(I)I"⟩
abbrev cX9_close : ByteArray := prog_11_method_29_code
def yX9_close : MethodName := ⟨RX9, "close", "(I)I"⟩
abbrev cX9_deed : ByteArray := prog_11_method_30_code
def yX9_deed : MethodName := ⟨RX9, "deed", "(II)I"⟩
abbrev cX9_letter : ByteArray := prog_11_method_31_code
def yX9_letter : MethodName := ⟨RX9, "letter", "(I)C"⟩
abbrev cX9_label : ByteArray := prog_11_method_32_code
def yX9_label : MethodName := ⟨RX9, "label", "(II)C"⟩
abbrev cX9_revoke : ByteArray := prog_11_method_33_code
def yX9_revoke : MethodName := ⟨RX9, "revoke", "(IZ)Z"⟩
abbrev cX9_isGood : ByteArray := prog_11_method_34_code
def yX9_isGood : MethodName := ⟨RX9, "isGood", "(I)Z"⟩
abbrev cX9_copy : ByteArray := prog_11_method_35_code
def yX9_copy : MethodName := ⟨RX9, "copy", "(I)I"⟩
abbrev cX9_lose : ByteArray := prog_11_method_36_code
def yX9_lose : MethodName := ⟨RX9, "lose", "(I)I"⟩
abbrev cX9_least : ByteArray := prog_11_method_37_code
def yX9_least : MethodName := ⟨RX9, "least", "(I)I"⟩
abbrev cX9_proof : ByteArray := prog_11_method_38_code
def yX9_proof : MethodName := ⟨RX9, "proof", "(I)I"⟩
abbrev cX9_common : ByteArray := prog_11_method_39_code
def yX9_common : MethodName := ⟨RX9, "common", "(JJ)J"⟩
abbrev cX9_laysNew : ByteArray := prog_11_method_40_code
def yX9_laysNew : MethodName := ⟨RX9, "laysNew", "()V"⟩
abbrev cX9_takesNew : ByteArray := prog_11_method_41_code
def yX9_takesNew : MethodName := ⟨RX9, "takesNew", "()V"⟩
abbrev cX9_adds : ByteArray := prog_11_method_42_code
def yX9_adds : MethodName := ⟨RX9, "adds", "(IJJ)Z"⟩
abbrev cX9_comes : ByteArray := prog_11_method_43_code
def yX9_comes : MethodName := ⟨RX9, "comes", "(III)I"⟩
abbrev cX9_canEnter : ByteArray := prog_11_method_44_code
def yX9_canEnter : MethodName := ⟨RX9, "canEnter", "(I)Z"⟩
abbrev cX9_enter : ByteArray := prog_11_method_45_code
def yX9_enter : MethodName := ⟨RX9, "enter", "(I)I"⟩
abbrev cX9_willOf : ByteArray := prog_11_method_46_code
def yX9_willOf : MethodName := ⟨RX9, "willOf", "(I)I"⟩
abbrev cX9_isHeir : ByteArray := prog_11_method_47_code
def yX9_isHeir : MethodName := ⟨RX9, "isHeir", "(IIZ)Z"⟩
abbrev cX9_heirs : ByteArray := prog_11_method_48_code
def yX9_heirs : MethodName := ⟨RX9, "heirs", "(IZ)I"⟩
abbrev cX9_leaves : ByteArray := prog_11_method_49_code
def yX9_leaves : MethodName := ⟨RX9, "leaves", "(II)Z"⟩
abbrev cX9_die : ByteArray := prog_11_method_50_code
def yX9_die : MethodName := ⟨RX9, "die", "(I)I"⟩
abbrev cX9_entry : ByteArray := prog_11_method_51_code
def yX9_entry : MethodName := ⟨RX9, "entry", "(II)I"⟩
abbrev cX9_entries : ByteArray := prog_11_method_52_code
def yX9_entries : MethodName := ⟨RX9, "entries", "()I"⟩
abbrev cX9_search : ByteArray := prog_11_method_53_code
def yX9_search : MethodName := ⟨RX9, "search", "(III)I"⟩
abbrev cX9_pledge : ByteArray := prog_11_method_54_code
def yX9_pledge : MethodName := ⟨RX9, "pledge", "(II)I"⟩
abbrev cX9_share : ByteArray := prog_11_method_55_code
def yX9_share : MethodName := ⟨RX9, "share", "(IIZ)I"⟩
abbrev cX9_shareAnew : ByteArray := prog_11_method_56_code
def yX9_shareAnew : MethodName := ⟨RX9, "shareAnew", "(IIZ)I"⟩
abbrev cX9_duties : ByteArray := prog_11_method_57_code
def yX9_duties : MethodName := ⟨RX9, "duties", "()J"⟩
abbrev cX9_pass : ByteArray := prog_11_method_58_code
def yX9_pass : MethodName := ⟨RX9, "pass", "(I)I"⟩
def RJx145de : String := "java/io/Serializable"
def TJx145de : u_T := fun k => match k with
  | _ => ("", "", "", false)
def tyJx145de : Nat → FieldType := fun k => match k with
  | _ => .int
abbrev wsJx145de0 : List Cond := u_ws RJx145de TJx145de 0
theorem nmJx145de : ∀ a, a < 0 → ∀ b, b < 0 → a ≠ b → (TJx145de a).2.1 ≠ (TJx145de b).2.1 := by decide +kernel
theorem tyJx145de_ok : ∀ k, k < 0 → parseFieldDescriptor (TJx145de k).2.2.1 = some (tyJx145de k) := by decide +kernel
def RJ5 : String := "java/lang/AbstractStringBuilder"
def TJ5 : u_T := fun k => match k with
  | _ => ("", "", "", false)
def tyJ5 : Nat → FieldType := fun k => match k with
  | _ => .int
abbrev wsJ50 : List Cond := u_ws RJ5 TJ5 0
theorem nmJ5 : ∀ a, a < 0 → ∀ b, b < 0 → a ≠ b → (TJ5 a).2.1 ≠ (TJ5 b).2.1 := by decide +kernel
theorem tyJ5_ok : ∀ k, k < 0 → parseFieldDescriptor (TJ5 k).2.2.1 = some (tyJ5 k) := by decide +kernel
abbrev cJ5_init_d00df : ByteArray := prog_13_method_2_code
def yJ5_init_d00df : MethodName := ⟨RJ5, "<init>", "(I)V"⟩
abbrev cJ5_length_8abf5 : ByteArray := prog_13_method_6_code
def yJ5_length_8abf5 : MethodName := ⟨RJ5, "length", "()I"⟩
abbrev cJ5_ensureCapacityInternal_d00df : ByteArray := prog_13_method_9_code
def yJ5_ensureCapacityInternal_d00df : MethodName := ⟨RJ5, "ensureCapacityInternal", "(I)V"⟩
abbrev cJ5_newCapacity_0f7a4 : ByteArray := prog_13_method_10_code
def yJ5_newCapacity_0f7a4 : MethodName := ⟨RJ5, "newCapacity", "(I)I"⟩
abbrev cJ5_inflate_da8c8 : ByteArray := prog_13_method_11_code
def yJ5_inflate_da8c8 : MethodName := ⟨RJ5, "inflate", "()V"⟩
abbrev cJ5_charAt_5068e : ByteArray := prog_13_method_14_code
def yJ5_charAt_5068e : MethodName := ⟨RJ5, "charAt", "(I)C"⟩
abbrev cJ5_append_3fe6f : ByteArray := prog_13_method_31_code
def yJ5_append_3fe6f : MethodName := ⟨RJ5, "append", "(C)Ljava/lang/AbstractStringBuilder;"⟩
abbrev cJ5_append_c97b9 : ByteArray := prog_13_method_32_code
def yJ5_append_c97b9 : MethodName := ⟨RJ5, "append", "(I)Ljava/lang/AbstractStringBuilder;"⟩
abbrev cJ5_isLatin1_aae02 : ByteArray := prog_13_method_68_code
def yJ5_isLatin1_aae02 : MethodName := ⟨RJ5, "isLatin1", "()Z"⟩
def RJx2cfe8 : String := "java/lang/Appendable"
def TJx2cfe8 : u_T := fun k => match k with
  | _ => ("", "", "", false)
def tyJx2cfe8 : Nat → FieldType := fun k => match k with
  | _ => .int
abbrev wsJx2cfe80 : List Cond := u_ws RJx2cfe8 TJx2cfe8 0
theorem nmJx2cfe8 : ∀ a, a < 0 → ∀ b, b < 0 → a ≠ b → (TJx2cfe8 a).2.1 ≠ (TJx2cfe8 b).2.1 := by decide +kernel
theorem tyJx2cfe8_ok : ∀ k, k < 0 → parseFieldDescriptor (TJx2cfe8 k).2.2.1 = some (tyJx2cfe8 k) := by decide +kernel
def RJx9f9b0 : String := "java/lang/CharSequence"
def TJx9f9b0 : u_T := fun k => match k with
  | _ => ("", "", "", false)
def tyJx9f9b0 : Nat → FieldType := fun k => match k with
  | _ => .int
abbrev wsJx9f9b00 : List Cond := u_ws RJx9f9b0 TJx9f9b0 0
theorem nmJx9f9b0 : ∀ a, a < 0 → ∀ b, b < 0 → a ≠ b → (TJx9f9b0 a).2.1 ≠ (TJx9f9b0 b).2.1 := by decide +kernel
theorem tyJx9f9b0_ok : ∀ k, k < 0 → parseFieldDescriptor (TJx9f9b0 k).2.2.1 = some (tyJx9f9b0 k) := by decide +kernel
def RJx8e188 : String := "java/lang/Cloneable"
def TJx8e188 : u_T := fun k => match k with
  | _ => ("", "", "", false)
def tyJx8e188 : Nat → FieldType := fun k => match k with
  | _ => .int
abbrev wsJx8e1880 : List Cond := u_ws RJx8e188 TJx8e188 0
theorem nmJx8e188 : ∀ a, a < 0 → ∀ b, b < 0 → a ≠ b → (TJx8e188 a).2.1 ≠ (TJx8e188 b).2.1 := by decide +kernel
theorem tyJx8e188_ok : ∀ k, k < 0 → parseFieldDescriptor (TJx8e188 k).2.2.1 = some (tyJx8e188 k) := by decide +kernel
def RJxb160c : String := "java/lang/Comparable"
def TJxb160c : u_T := fun k => match k with
  | _ => ("", "", "", false)
def tyJxb160c : Nat → FieldType := fun k => match k with
  | _ => .int
abbrev wsJxb160c0 : List Cond := u_ws RJxb160c TJxb160c 0
theorem nmJxb160c : ∀ a, a < 0 → ∀ b, b < 0 → a ≠ b → (TJxb160c a).2.1 ≠ (TJxb160c b).2.1 := by decide +kernel
theorem tyJxb160c_ok : ∀ k, k < 0 → parseFieldDescriptor (TJxb160c k).2.2.1 = some (tyJxb160c k) := by decide +kernel
def RJ6 : String := "java/lang/Integer"
def TJ6 : u_T := fun k => match k with
  | _ => ("", "", "", false)
def tyJ6 : Nat → FieldType := fun k => match k with
  | _ => .int
abbrev wsJ60 : List Cond := u_ws RJ6 TJ6 0
theorem nmJ6 : ∀ a, a < 0 → ∀ b, b < 0 → a ≠ b → (TJ6 a).2.1 ≠ (TJ6 b).2.1 := by decide +kernel
theorem tyJ6_ok : ∀ k, k < 0 → parseFieldDescriptor (TJ6 k).2.2.1 = some (tyJ6 k) := by decide +kernel
abbrev cJ6_getChars_ba4f3 : ByteArray := prog_22_method_12_code
def yJ6_getChars_ba4f3 : MethodName := ⟨RJ6, "getChars", "(II[B)I"⟩
abbrev cJ6_stringSize_0f7a4 : ByteArray := prog_22_method_13_code
def yJ6_stringSize_0f7a4 : MethodName := ⟨RJ6, "stringSize", "(I)I"⟩
abbrev cJ6_bitCount_0f7a4 : ByteArray := prog_22_method_49_code
def yJ6_bitCount_0f7a4 : MethodName := ⟨RJ6, "bitCount", "(I)I"⟩
def RJxab1ab : String := "java/lang/Iterable"
def TJxab1ab : u_T := fun k => match k with
  | _ => ("", "", "", false)
def tyJxab1ab : Nat → FieldType := fun k => match k with
  | _ => .int
abbrev wsJxab1ab0 : List Cond := u_ws RJxab1ab TJxab1ab 0
theorem nmJxab1ab : ∀ a, a < 0 → ∀ b, b < 0 → a ≠ b → (TJxab1ab a).2.1 ≠ (TJxab1ab b).2.1 := by decide +kernel
theorem tyJxab1ab_ok : ∀ k, k < 0 → parseFieldDescriptor (TJxab1ab k).2.2.1 = some (tyJxab1ab k) := by decide +kernel
def RJ9 : String := "java/lang/Math"
def TJ9 : u_T := fun k => match k with
  | _ => ("", "", "", false)
def tyJ9 : Nat → FieldType := fun k => match k with
  | _ => .int
abbrev wsJ90 : List Cond := u_ws RJ9 TJ9 0
theorem nmJ9 : ∀ a, a < 0 → ∀ b, b < 0 → a ≠ b → (TJ9 a).2.1 ≠ (TJ9 b).2.1 := by decide +kernel
theorem tyJ9_ok : ∀ k, k < 0 → parseFieldDescriptor (TJ9 k).2.2.1 = some (tyJ9 k) := by decide +kernel
abbrev cJ9_max_7cf53 : ByteArray := prog_24_method_65_code
def yJ9_max_7cf53 : MethodName := ⟨RJ9, "max", "(II)I"⟩
abbrev cJ9_min_7cf53 : ByteArray := prog_24_method_69_code
def yJ9_min_7cf53 : MethodName := ⟨RJ9, "min", "(II)I"⟩
def RJxd2413 : String := "java/lang/Number"
def TJxd2413 : u_T := fun k => match k with
  | _ => ("", "", "", false)
def tyJxd2413 : Nat → FieldType := fun k => match k with
  | _ => .int
abbrev wsJxd24130 : List Cond := u_ws RJxd2413 TJxd2413 0
theorem nmJxd2413 : ∀ a, a < 0 → ∀ b, b < 0 → a ≠ b → (TJxd2413 a).2.1 ≠ (TJxd2413 b).2.1 := by decide +kernel
theorem tyJxd2413_ok : ∀ k, k < 0 → parseFieldDescriptor (TJxd2413 k).2.2.1 = some (tyJxd2413 k) := by decide +kernel
def RJ0 : String := "java/lang/String"
def TJ0 : u_T := fun k => match k with
  | _ => ("", "", "", false)
def tyJ0 : Nat → FieldType := fun k => match k with
  | _ => .int
abbrev wsJ00 : List Cond := u_ws RJ0 TJ0 0
theorem nmJ0 : ∀ a, a < 0 → ∀ b, b < 0 → a ≠ b → (TJ0 a).2.1 ≠ (TJ0 b).2.1 := by decide +kernel
theorem tyJ0_ok : ∀ k, k < 0 → parseFieldDescriptor (TJ0 k).2.2.1 = some (tyJ0 k) := by decide +kernel
abbrev cJ0_checkIndex_df160 : ByteArray := prog_27_method_155_code
def yJ0_checkIndex_df160 : MethodName := ⟨RJ0, "checkIndex", "(II)V"⟩
abbrev cJ0_checkBoundsOffCount_cabcc : ByteArray := prog_27_method_157_code
def yJ0_checkBoundsOffCount_cabcc : MethodName := ⟨RJ0, "checkBoundsOffCount", "(III)I"⟩
abbrev cJ0_checkBoundsBeginEnd_23922 : ByteArray := prog_27_method_158_code
def yJ0_checkBoundsBeginEnd_23922 : MethodName := ⟨RJ0, "checkBoundsBeginEnd", "(III)V"⟩
def RJ4 : String := "java/lang/StringBuilder"
def TJ4 : u_T := fun k => match k with
  | 0 => ("java/lang/AbstractStringBuilder", "value", "[B", false)
  | 1 => ("java/lang/AbstractStringBuilder", "coder", "B", false)
  | 2 => ("java/lang/AbstractStringBuilder", "maybeLatin1", "Z", false)
  | _ => ("java/lang/AbstractStringBuilder", "count", "I", false)
def tyJ4 : Nat → FieldType := fun k => match k with
  | 0 => .array .byte
  | 1 => .byte
  | 2 => .boolean
  | _ => .int
abbrev wsJ40 : List Cond := u_ws RJ4 TJ4 4
theorem nmJ4 : ∀ a, a < 4 → ∀ b, b < 4 → a ≠ b → (TJ4 a).2.1 ≠ (TJ4 b).2.1 := by decide +kernel
theorem tyJ4_ok : ∀ k, k < 4 → parseFieldDescriptor (TJ4 k).2.2.1 = some (tyJ4 k) := by decide +kernel
abbrev cJ4_init_da8c8 : ByteArray := prog_28_method_1_code
def yJ4_init_da8c8 : MethodName := ⟨RJ4, "<init>", "()V"⟩
abbrev cJ4_append_cf468 : ByteArray := prog_28_method_14_code
def yJ4_append_cf468 : MethodName := ⟨RJ4, "append", "(C)Ljava/lang/StringBuilder;"⟩
abbrev cJ4_append_bf812 : ByteArray := prog_28_method_15_code
def yJ4_append_bf812 : MethodName := ⟨RJ4, "append", "(I)Ljava/lang/StringBuilder;"⟩
abbrev cJ4_charAt_5068e : ByteArray := prog_28_method_88_code
def yJ4_charAt_5068e : MethodName := ⟨RJ4, "charAt", "(I)C"⟩
abbrev cJ4_length_8abf5 : ByteArray := prog_28_method_93_code
def yJ4_length_8abf5 : MethodName := ⟨RJ4, "length", "()I"⟩
def RJ1 : String := "java/lang/StringLatin1"
def TJ1 : u_T := fun k => match k with
  | _ => ("", "", "", false)
def tyJ1 : Nat → FieldType := fun k => match k with
  | _ => .int
abbrev wsJ10 : List Cond := u_ws RJ1 TJ1 0
theorem nmJ1 : ∀ a, a < 0 → ∀ b, b < 0 → a ≠ b → (TJ1 a).2.1 ≠ (TJ1 b).2.1 := by decide +kernel
theorem tyJ1_ok : ∀ k, k < 0 → parseFieldDescriptor (TJ1 k).2.2.1 = some (tyJ1 k) := by decide +kernel
abbrev cJ1_canEncode_fc78d : ByteArray := prog_29_method_3_code
def yJ1_canEncode_fc78d : MethodName := ⟨RJ1, "canEncode", "(C)Z"⟩
abbrev cJ1_inflate_0e8fd : ByteArray := prog_29_method_50_code
def yJ1_inflate_0e8fd : MethodName := ⟨RJ1, "inflate", "([BI[BII)V"⟩
def RJ2 : String := "java/lang/StringUTF16"
def TJ2 : u_T := fun k => match k with
  | _ => ("", "", "", false)
def tyJ2 : Nat → FieldType := fun k => match k with
  | _ => .int
abbrev wsJ20 : List Cond := u_ws RJ2 TJ2 0
theorem nmJ2 : ∀ a, a < 0 → ∀ b, b < 0 → a ≠ b → (TJ2 a).2.1 ≠ (TJ2 b).2.1 := by decide +kernel
theorem tyJ2_ok : ∀ k, k < 0 → parseFieldDescriptor (TJ2 k).2.2.1 = some (tyJ2 k) := by decide +kernel
abbrev cJ2_newBytesFor_77867 : ByteArray := prog_30_method_2_code
def yJ2_newBytesFor_77867 : MethodName := ⟨RJ2, "newBytesFor", "(I)[B"⟩
abbrev cJ2_newBytesLength_0f7a4 : ByteArray := prog_30_method_3_code
def yJ2_newBytesLength_0f7a4 : MethodName := ⟨RJ2, "newBytesLength", "(I)I"⟩
abbrev cJ2_putChar_b72d1 : ByteArray := prog_30_method_4_code
def yJ2_putChar_b72d1 : MethodName := ⟨RJ2, "putChar", "([BII)V"⟩
abbrev cJ2_getChar_3b067 : ByteArray := prog_30_method_5_code
def yJ2_getChar_3b067 : MethodName := ⟨RJ2, "getChar", "([BI)C"⟩
abbrev cJ2_length_9d52b : ByteArray := prog_30_method_6_code
def yJ2_length_9d52b : MethodName := ⟨RJ2, "length", "([B)I"⟩
abbrev cJ2_putCharSB_b72d1 : ByteArray := prog_30_method_71_code
def yJ2_putCharSB_b72d1 : MethodName := ⟨RJ2, "putCharSB", "([BII)V"⟩
abbrev cJ2_getChars_46870 : ByteArray := prog_30_method_77_code
def yJ2_getChars_46870 : MethodName := ⟨RJ2, "getChars", "(III[B)I"⟩
abbrev cJ2_inflate_0e8fd : ByteArray := prog_30_method_86_code
def yJ2_inflate_0e8fd : MethodName := ⟨RJ2, "inflate", "([BI[BII)V"⟩
abbrev cJ2_getChars_ba4f3 : ByteArray := prog_30_method_89_code
def yJ2_getChars_ba4f3 : MethodName := ⟨RJ2, "getChars", "(II[B)I"⟩
abbrev cJ2_checkIndex_2214a : ByteArray := prog_30_method_91_code
def yJ2_checkIndex_2214a : MethodName := ⟨RJ2, "checkIndex", "(I[B)V"⟩
abbrev cJ2_checkBoundsBeginEnd_d044e : ByteArray := prog_30_method_93_code
def yJ2_checkBoundsBeginEnd_d044e : MethodName := ⟨RJ2, "checkBoundsBeginEnd", "(II[B)V"⟩
abbrev cJ2_checkBoundsOffCount_d044e : ByteArray := prog_30_method_94_code
def yJ2_checkBoundsOffCount_d044e : MethodName := ⟨RJ2, "checkBoundsOffCount", "(II[B)V"⟩
def RJ10 : String := "java/lang/System"
def TJ10 : u_T := fun k => match k with
  | _ => ("", "", "", false)
def tyJ10 : Nat → FieldType := fun k => match k with
  | _ => .int
abbrev wsJ100 : List Cond := u_ws RJ10 TJ10 0
theorem nmJ10 : ∀ a, a < 0 → ∀ b, b < 0 → a ≠ b → (TJ10 a).2.1 ≠ (TJ10 b).2.1 := by decide +kernel
theorem tyJ10_ok : ∀ k, k < 0 → parseFieldDescriptor (TJ10 k).2.2.1 = some (tyJ10 k) := by decide +kernel
def RJxfd54e : String := "java/lang/constant/Constable"
def TJxfd54e : u_T := fun k => match k with
  | _ => ("", "", "", false)
def tyJxfd54e : Nat → FieldType := fun k => match k with
  | _ => .int
abbrev wsJxfd54e0 : List Cond := u_ws RJxfd54e TJxfd54e 0
theorem nmJxfd54e : ∀ a, a < 0 → ∀ b, b < 0 → a ≠ b → (TJxfd54e a).2.1 ≠ (TJxfd54e b).2.1 := by decide +kernel
theorem tyJxfd54e_ok : ∀ k, k < 0 → parseFieldDescriptor (TJxfd54e k).2.2.1 = some (tyJxfd54e k) := by decide +kernel
def RJx3cf43 : String := "java/lang/constant/ConstantDesc"
def TJx3cf43 : u_T := fun k => match k with
  | _ => ("", "", "", false)
def tyJx3cf43 : Nat → FieldType := fun k => match k with
  | _ => .int
abbrev wsJx3cf430 : List Cond := u_ws RJx3cf43 TJx3cf43 0
theorem nmJx3cf43 : ∀ a, a < 0 → ∀ b, b < 0 → a ≠ b → (TJx3cf43 a).2.1 ≠ (TJx3cf43 b).2.1 := by decide +kernel
theorem tyJx3cf43_ok : ∀ k, k < 0 → parseFieldDescriptor (TJx3cf43 k).2.2.1 = some (tyJx3cf43 k) := by decide +kernel
def RJxa1e45 : String := "java/util/AbstractCollection"
def TJxa1e45 : u_T := fun k => match k with
  | _ => ("", "", "", false)
def tyJxa1e45 : Nat → FieldType := fun k => match k with
  | _ => .int
abbrev wsJxa1e450 : List Cond := u_ws RJxa1e45 TJxa1e45 0
theorem nmJxa1e45 : ∀ a, a < 0 → ∀ b, b < 0 → a ≠ b → (TJxa1e45 a).2.1 ≠ (TJxa1e45 b).2.1 := by decide +kernel
theorem tyJxa1e45_ok : ∀ k, k < 0 → parseFieldDescriptor (TJxa1e45 k).2.2.1 = some (tyJxa1e45 k) := by decide +kernel
abbrev cJxa1e45_init_da8c8 : ByteArray := prog_35_method_1_code
def yJxa1e45_init_da8c8 : MethodName := ⟨RJxa1e45, "<init>", "()V"⟩
def RJxc12de : String := "java/util/AbstractList"
def TJxc12de : u_T := fun k => match k with
  | _ => ("", "", "", false)
def tyJxc12de : Nat → FieldType := fun k => match k with
  | _ => .int
abbrev wsJxc12de0 : List Cond := u_ws RJxc12de TJxc12de 0
theorem nmJxc12de : ∀ a, a < 0 → ∀ b, b < 0 → a ≠ b → (TJxc12de a).2.1 ≠ (TJxc12de b).2.1 := by decide +kernel
theorem tyJxc12de_ok : ∀ k, k < 0 → parseFieldDescriptor (TJxc12de k).2.2.1 = some (tyJxc12de k) := by decide +kernel
abbrev cJxc12de_init_da8c8 : ByteArray := prog_36_method_1_code
def yJxc12de_init_da8c8 : MethodName := ⟨RJxc12de, "<init>", "()V"⟩
def RJx4a65c : String := "java/util/ArrayList"
def TJx4a65c : u_T := fun k => match k with
  | 0 => ("java/util/AbstractList", "modCount", "I", false)
  | 1 => ("java/util/ArrayList", "elementData", "[Ljava/lang/Object;", false)
  | _ => ("java/util/ArrayList", "size", "I", false)
def tyJx4a65c : Nat → FieldType := fun k => match k with
  | 0 => .int
  | 1 => .array (.object "java/lang/Object")
  | _ => .int
abbrev wsJx4a65c0 : List Cond := u_ws RJx4a65c TJx4a65c 3
theorem nmJx4a65c : ∀ a, a < 3 → ∀ b, b < 3 → a ≠ b → (TJx4a65c a).2.1 ≠ (TJx4a65c b).2.1 := by decide +kernel
theorem tyJx4a65c_ok : ∀ k, k < 3 → parseFieldDescriptor (TJx4a65c k).2.2.1 = some (tyJx4a65c k) := by decide +kernel
abbrev cJx4a65c_init_da8c8 : ByteArray := prog_37_method_2_code
def yJx4a65c_init_da8c8 : MethodName := ⟨RJx4a65c, "<init>", "()V"⟩
abbrev cJx4a65c_grow_92f84 : ByteArray := prog_37_method_6_code
def yJx4a65c_grow_92f84 : MethodName := ⟨RJx4a65c, "grow", "(I)[Ljava/lang/Object;"⟩
abbrev cJx4a65c_grow_d5877 : ByteArray := prog_37_method_7_code
def yJx4a65c_grow_d5877 : MethodName := ⟨RJx4a65c, "grow", "()[Ljava/lang/Object;"⟩
abbrev cJx4a65c_size_8abf5 : ByteArray := prog_37_method_8_code
def yJx4a65c_size_8abf5 : MethodName := ⟨RJx4a65c, "size", "()I"⟩
abbrev cJx4a65c_elementData_915e3 : ByteArray := prog_37_method_18_code
def yJx4a65c_elementData_915e3 : MethodName := ⟨RJx4a65c, "elementData", "(I)Ljava/lang/Object;"⟩
abbrev cJx4a65c_get_915e3 : ByteArray := prog_37_method_20_code
def yJx4a65c_get_915e3 : MethodName := ⟨RJx4a65c, "get", "(I)Ljava/lang/Object;"⟩
abbrev cJx4a65c_add_72be8 : ByteArray := prog_37_method_24_code
def yJx4a65c_add_72be8 : MethodName := ⟨RJx4a65c, "add", "(Ljava/lang/Object;[Ljava/lang/Object;I)V"⟩
abbrev cJx4a65c_add_9ea2d : ByteArray := prog_37_method_25_code
def yJx4a65c_add_9ea2d : MethodName := ⟨RJx4a65c, "add", "(Ljava/lang/Object;)Z"⟩
def RJ7 : String := "java/util/Arrays"
def TJ7 : u_T := fun k => match k with
  | _ => ("", "", "", false)
def tyJ7 : Nat → FieldType := fun k => match k with
  | _ => .int
abbrev wsJ70 : List Cond := u_ws RJ7 TJ7 0
theorem nmJ7 : ∀ a, a < 0 → ∀ b, b < 0 → a ≠ b → (TJ7 a).2.1 ≠ (TJ7 b).2.1 := by decide +kernel
theorem tyJ7_ok : ∀ k, k < 0 → parseFieldDescriptor (TJ7 k).2.2.1 = some (tyJ7 k) := by decide +kernel
abbrev cJ7_copyOf_1904c : ByteArray := prog_38_method_119_code
def yJ7_copyOf_1904c : MethodName := ⟨RJ7, "copyOf", "([Ljava/lang/Object;I)[Ljava/lang/Object;"⟩
abbrev cJ7_copyOf_6403c : ByteArray := prog_38_method_120_code
def yJ7_copyOf_6403c : MethodName := ⟨RJ7, "copyOf", "([Ljava/lang/Object;ILjava/lang/Class;)[Ljava/lang/Object;"⟩
abbrev cJ7_copyOf_9075b : ByteArray := prog_38_method_121_code
def yJ7_copyOf_9075b : MethodName := ⟨RJ7, "copyOf", "([BI)[B"⟩
def RJx5ef63 : String := "java/util/Collection"
def TJx5ef63 : u_T := fun k => match k with
  | _ => ("", "", "", false)
def tyJx5ef63 : Nat → FieldType := fun k => match k with
  | _ => .int
abbrev wsJx5ef630 : List Cond := u_ws RJx5ef63 TJx5ef63 0
theorem nmJx5ef63 : ∀ a, a < 0 → ∀ b, b < 0 → a ≠ b → (TJx5ef63 a).2.1 ≠ (TJx5ef63 b).2.1 := by decide +kernel
theorem tyJx5ef63_ok : ∀ k, k < 0 → parseFieldDescriptor (TJx5ef63 k).2.2.1 = some (tyJx5ef63 k) := by decide +kernel
def RJxbd725 : String := "java/util/List"
def TJxbd725 : u_T := fun k => match k with
  | _ => ("", "", "", false)
def tyJxbd725 : Nat → FieldType := fun k => match k with
  | _ => .int
abbrev wsJxbd7250 : List Cond := u_ws RJxbd725 TJxbd725 0
theorem nmJxbd725 : ∀ a, a < 0 → ∀ b, b < 0 → a ≠ b → (TJxbd725 a).2.1 ≠ (TJxbd725 b).2.1 := by decide +kernel
theorem tyJxbd725_ok : ∀ k, k < 0 → parseFieldDescriptor (TJxbd725 k).2.2.1 = some (tyJxbd725 k) := by decide +kernel
def RJ15 : String := "java/util/Objects"
def TJ15 : u_T := fun k => match k with
  | _ => ("", "", "", false)
def tyJ15 : Nat → FieldType := fun k => match k with
  | _ => .int
abbrev wsJ150 : List Cond := u_ws RJ15 TJ15 0
theorem nmJ15 : ∀ a, a < 0 → ∀ b, b < 0 → a ≠ b → (TJ15 a).2.1 ≠ (TJ15 b).2.1 := by decide +kernel
theorem tyJ15_ok : ∀ k, k < 0 → parseFieldDescriptor (TJ15 k).2.2.1 = some (tyJ15 k) := by decide +kernel
abbrev cJ15_checkIndex_7cf53 : ByteArray := prog_41_method_17_code
def yJ15_checkIndex_7cf53 : MethodName := ⟨RJ15, "checkIndex", "(II)I"⟩
def RJxf0a74 : String := "java/util/RandomAccess"
def TJxf0a74 : u_T := fun k => match k with
  | _ => ("", "", "", false)
def tyJxf0a74 : Nat → FieldType := fun k => match k with
  | _ => .int
abbrev wsJxf0a740 : List Cond := u_ws RJxf0a74 TJxf0a74 0
theorem nmJxf0a74 : ∀ a, a < 0 → ∀ b, b < 0 → a ≠ b → (TJxf0a74 a).2.1 ≠ (TJxf0a74 b).2.1 := by decide +kernel
theorem tyJxf0a74_ok : ∀ k, k < 0 → parseFieldDescriptor (TJxf0a74 k).2.2.1 = some (tyJxf0a74 k) := by decide +kernel
def RJxa66e6 : String := "java/util/SequencedCollection"
def TJxa66e6 : u_T := fun k => match k with
  | _ => ("", "", "", false)
def tyJxa66e6 : Nat → FieldType := fun k => match k with
  | _ => .int
abbrev wsJxa66e60 : List Cond := u_ws RJxa66e6 TJxa66e6 0
theorem nmJxa66e6 : ∀ a, a < 0 → ∀ b, b < 0 → a ≠ b → (TJxa66e6 a).2.1 ≠ (TJxa66e6 b).2.1 := by decide +kernel
theorem tyJxa66e6_ok : ∀ k, k < 0 → parseFieldDescriptor (TJxa66e6 k).2.2.1 = some (tyJxa66e6 k) := by decide +kernel
def RJ8 : String := "jdk/internal/util/ArraysSupport"
def TJ8 : u_T := fun k => match k with
  | _ => ("", "", "", false)
def tyJ8 : Nat → FieldType := fun k => match k with
  | _ => .int
abbrev wsJ80 : List Cond := u_ws RJ8 TJ8 0
theorem nmJ8 : ∀ a, a < 0 → ∀ b, b < 0 → a ≠ b → (TJ8 a).2.1 ≠ (TJ8 b).2.1 := by decide +kernel
theorem tyJ8_ok : ∀ k, k < 0 → parseFieldDescriptor (TJ8 k).2.2.1 = some (tyJ8 k) := by decide +kernel
abbrev cJ8_newLength_cabcc : ByteArray := prog_44_method_27_code
def yJ8_newLength_cabcc : MethodName := ⟨RJ8, "newLength", "(III)I"⟩
abbrev cJ8_hugeLength_7cf53 : ByteArray := prog_44_method_28_code
def yJ8_hugeLength_7cf53 : MethodName := ⟨RJ8, "hugeLength", "(II)I"⟩
def RJ3 : String := "jdk/internal/util/Preconditions"
def TJ3 : u_T := fun k => match k with
  | _ => ("", "", "", false)
def tyJ3 : Nat → FieldType := fun k => match k with
  | _ => .int
abbrev wsJ30 : List Cond := u_ws RJ3 TJ3 0
theorem nmJ3 : ∀ a, a < 0 → ∀ b, b < 0 → a ≠ b → (TJ3 a).2.1 ≠ (TJ3 b).2.1 := by decide +kernel
theorem tyJ3_ok : ∀ k, k < 0 → parseFieldDescriptor (TJ3 k).2.2.1 = some (tyJ3 k) := by decide +kernel
abbrev cJ3_checkIndex_8e157 : ByteArray := prog_45_method_11_code
def yJ3_checkIndex_8e157 : MethodName := ⟨RJ3, "checkIndex", "(IILjava/util/function/BiFunction;)I"⟩
abbrev cJ3_checkFromToIndex_8c36e : ByteArray := prog_45_method_12_code
def yJ3_checkFromToIndex_8c36e : MethodName := ⟨RJ3, "checkFromToIndex", "(IIILjava/util/function/BiFunction;)I"⟩
abbrev cJ3_checkFromIndexSize_8c36e : ByteArray := prog_45_method_13_code
def yJ3_checkFromIndexSize_8c36e : MethodName := ⟨RJ3, "checkFromIndexSize", "(IIILjava/util/function/BiFunction;)I"⟩
def RL : String := "DeedProtocolLaw"
abbrev cL_person : ByteArray := method_3_code
def yL_person : MethodName := ⟨RL, "person", "(LDeedProtocol;IZ[J)I"⟩
abbrev cL_child : ByteArray := method_4_code
def yL_child : MethodName := ⟨RL, "child", "(LDeedProtocol;II[J)I"⟩
abbrev cL_guard : ByteArray := method_5_code
def yL_guard : MethodName := ⟨RL, "guard", "(LDeedProtocol;II[J)I"⟩
abbrev cL_thing : ByteArray := method_6_code
def yL_thing : MethodName := ⟨RL, "thing", "(LDeedProtocol;II[J)I"⟩
abbrev cL_isAble : ByteArray := method_7_code
def yL_isAble : MethodName := ⟨RL, "isAble", "(LDeedProtocol;I[J)I"⟩
abbrev cL_draft : ByteArray := method_8_code
def yL_draft : MethodName := ⟨RL, "draft", "(LDeedProtocol;IIIIII[J)I"⟩
abbrev cL_power : ByteArray := method_9_code
def yL_power : MethodName := ⟨RL, "power", "(LDeedProtocol;IIIIZ[J)I"⟩
abbrev cL_will : ByteArray := method_10_code
def yL_will : MethodName := ⟨RL, "will", "(LDeedProtocol;IIII[J)I"⟩
abbrev cL_sign : ByteArray := method_11_code
def yL_sign : MethodName := ⟨RL, "sign", "(LDeedProtocol;IIZI[J)I"⟩
abbrev cL_add : ByteArray := method_12_code
def yL_add : MethodName := ⟨RL, "add", "(LDeedProtocol;II[J)I"⟩
abbrev cL_witness : ByteArray := method_13_code
def yL_witness : MethodName := ⟨RL, "witness", "(LDeedProtocol;II[J)I"⟩
abbrev cL_close : ByteArray := method_14_code
def yL_close : MethodName := ⟨RL, "close", "(LDeedProtocol;I[J)I"⟩
abbrev cL_deed : ByteArray := method_15_code
def yL_deed : MethodName := ⟨RL, "deed", "(LDeedProtocol;II[J)I"⟩
abbrev cL_label : ByteArray := method_16_code
def yL_label : MethodName := ⟨RL, "label", "(LDeedProtocol;II[J)I"⟩
abbrev cL_revoke : ByteArray := method_17_code
def yL_revoke : MethodName := ⟨RL, "revoke", "(LDeedProtocol;IZ[J)I"⟩
abbrev cL_isGood : ByteArray := method_18_code
def yL_isGood : MethodName := ⟨RL, "isGood", "(LDeedProtocol;I[J)I"⟩
abbrev cL_copy : ByteArray := method_19_code
def yL_copy : MethodName := ⟨RL, "copy", "(LDeedProtocol;I[J)I"⟩
abbrev cL_lose : ByteArray := method_20_code
def yL_lose : MethodName := ⟨RL, "lose", "(LDeedProtocol;I[J)I"⟩
abbrev cL_proof : ByteArray := method_21_code
def yL_proof : MethodName := ⟨RL, "proof", "(LDeedProtocol;I[J)I"⟩
abbrev cL_enter : ByteArray := method_22_code
def yL_enter : MethodName := ⟨RL, "enter", "(LDeedProtocol;I[J)I"⟩
abbrev cL_die : ByteArray := method_23_code
def yL_die : MethodName := ⟨RL, "die", "(LDeedProtocol;I[J)I"⟩
abbrev cL_entry : ByteArray := method_24_code
def yL_entry : MethodName := ⟨RL, "entry", "(LDeedProtocol;II[J)I"⟩
abbrev cL_search : ByteArray := method_25_code
def yL_search : MethodName := ⟨RL, "search", "(LDeedProtocol;III[J)I"⟩
abbrev cL_pledge : ByteArray := method_26_code
def yL_pledge : MethodName := ⟨RL, "pledge", "(LDeedProtocol;II[J)I"⟩
abbrev cL_share : ByteArray := method_27_code
def yL_share : MethodName := ⟨RL, "share", "(LDeedProtocol;IIZ[J)I"⟩
abbrev cL_shareAnew : ByteArray := method_28_code
def yL_shareAnew : MethodName := ⟨RL, "shareAnew", "(LDeedProtocol;IIZ[J)I"⟩
abbrev cL_pass : ByteArray := method_29_code
def yL_pass : MethodName := ⟨RL, "pass", "(LDeedProtocol;I[J)I"⟩
abbrev cL_law : ByteArray := code
def yL_law : MethodName := ⟨RL, "law", "([I)Z"⟩
abbrev vwCl : List vw_C := [(RJ4, TJ4, 4), (RJx4a65c, TJx4a65c, 3), (RX0, TX0, 15), (RX1, TX1, 5), (RX2, TX2, 5), (RX3, TX3, 5), (RX4, TX4, 2), (RX5, TX5, 7), (RX6, TX6, 2), (RX7, TX7, 4), (RX8, TX8, 8), (RX9, TX9, 43)]
end
section
/-! AW: the machine at pc, the locals ls, the stack st, over a store sg of named cells, all at base or above -/
def goodW (w : Cond) : Bool := goodWord w || (match w with
  | .fieldLinkNest _ _ _ _ _ _ => true
  | .methodLinkNest _ _ _ _ => true
  | .castable _ _ => true
  | .declares _ => true
  | _ => false)
/-- the tables' words that a warmer machine keeps -/
def WS : List Cond := lw_tbl.filter goodW
theorem aw_mem_ws {w : Cond} {i : Nat} (h : lw_tbl[i]? = some w) (g : goodW w = true) : w ∈ WS := List.mem_filter.mpr ⟨List.mem_of_getElem? h, g⟩
theorem ws_of {w : Cond} (i : Nat) (h : (lw_tbl[i]?).any (fun v => decide (v = w) && goodW w) = true) : w ∈ WS := by
  cases hv : lw_tbl[i]? with
  | none => rw [hv] at h; cases h
  | some v =>
    rw [hv] at h
    simp only [Option.any_some, Bool.and_eq_true, decide_eq_true_eq] at h
    obtain ⟨rfl, h2⟩ := h
    exact aw_mem_ws hv h2
theorem ws_all {L : List Cond} (ps : List Nat) (h : L = ps.filterMap (fun i => lw_tbl[i]?)) (g : L.all goodW = true) : ∀ w ∈ L, w ∈ WS := by
  intro w hw
  have h1 := List.all_eq_true.mp g w hw
  rw [h] at hw
  obtain ⟨i, -, hi⟩ := List.mem_filterMap.mp hw
  exact aw_mem_ws hi h1
theorem ws_stab {w : Cond} (h : w ∈ WS) {s U : State} {args a' : Array Value} (hW : s.WarmedH U.vm) (hb : w.before args s = true) : w.before a' U = true := by
  have hg := (List.mem_filter.mp h).2
  simp only [goodW, Bool.or_eq_true] at hg
  rcases hg with hg | hg
  · exact word_at hW (good_of_word hg) hb
  · cases w <;> first | exact va_Nw.use rfl (va_Nw.warmF hW (va_Nw.of rfl hb)) | exact va_Nw.use rfl (va_Nw.warmM hW (va_Nw.of rfl hb)) | exact va_Nw.use rfl (va_Nw.warmC hW (va_Nw.of rfl hb)) | exact va_Nw.use rfl (va_Nw.warmD hW (va_Nw.of rfl hb)) | exact absurd hg Bool.false_ne_true
theorem ws_pay {s : State} {args : Array Value} (hts : ∀ w ∈ WS, w.before args s = true) {w0 : Cond} (h0 : w0 ∈ WS) : ∀ w ∈ w0 :: WS, ∀ (a' : Array Value) (U : State), s.WarmedH U.vm → w.before a' U = true := by
  intro w h a' U hW
  rcases List.mem_cons.mp h with rfl | h
  · exact ws_stab h0 hW (hts _ h0)
  · exact ws_stab h hW (hts _ h)
abbrev Sg : Type := Nat → Option va_E
abbrev Gx : Type := va_G × (Nat → ClassId) × Nat × (State → Prop)
abbrev Gx.D (g : Gx) : va_G := g.1
abbrev Gx.ca (g : Gx) : Nat → ClassId := g.2.1
abbrev Gx.base (g : Gx) : Nat := g.2.2.1
abbrev Gx.X (g : Gx) : State → Prop := g.2.2.2
abbrev Gx.tys (g : Gx) : List (ClassId × FieldType) := [(g.ca 0, .int), (g.ca 1, .boolean), (g.ca 2, .long), (g.ca 3, .object "java/lang/Object"), (g.ca 4, .byte)]
abbrev Gx.A (g : Gx) : Nat → Prop := fun q => g.base ≤ q
/-- the launch's own facts last: below base nothing is written -/
def Gx.Stable (g : Gx) : Prop := ∀ u U : State, u.WarmedH U.vm → (∀ q, q < g.base → U.heap[q]? = u.heap[q]?) → g.base ≤ u.heap.size → g.base ≤ U.heap.size → g.X u → g.X U
abbrev Cx : Type := Gx × Program × Launch × Env × Room × State × MethodId × Array Value × List Frame × Method × Code
abbrev Cx.g (x : Cx) : Gx := x.1
abbrev Cx.p (x : Cx) : Program := x.2.1
abbrev Cx.l (x : Cx) : Launch := x.2.2.1
abbrev Cx.e (x : Cx) : Env := x.2.2.2.1
abbrev Cx.R (x : Cx) : Room := x.2.2.2.2.1
abbrev Cx.s (x : Cx) : State := x.2.2.2.2.2.1
abbrev Cx.m (x : Cx) : MethodId := x.2.2.2.2.2.2.1
abbrev Cx.args (x : Cx) : Array Value := x.2.2.2.2.2.2.2.1
abbrev Cx.below (x : Cx) : List Frame := x.2.2.2.2.2.2.2.2.1
abbrev Cx.meth (x : Cx) : Method := x.2.2.2.2.2.2.2.2.2.1
abbrev Cx.c (x : Cx) : Code := x.2.2.2.2.2.2.2.2.2.2
abbrev arI (g : Gx) (n : Nat) (f : Nat → Int32) : va_E := .inl (g.ca 0, n, .inl f)
abbrev arZ (g : Gx) (n : Nat) (f : Nat → Int32) : va_E := .inl (g.ca 1, n, .inl f)
abbrev arJ (g : Gx) (n : Nat) (f : Nat → Int64) : va_E := .inl (g.ca 2, n, .inr (.inl f))
abbrev arO (g : Gx) (n : Nat) (f : Nat → Option Nat) : va_E := .inl (g.ca 3, n, .inr (.inr (.inr (.inr f))))
abbrev arB (g : Gx) (n : Nat) (f : Nat → Int32) : va_E := .inl (g.ca 4, n, .inl f)
abbrev ob (ci : Nat) (fs : List Value) : va_E := .inr (ci, fs)
def sgu (sg : Sg) (a : Nat) (e : va_E) : Sg := fun q => if q = a then some e else sg q
theorem sgu_s {sg : Sg} {a : Nat} {e : va_E} : sgu sg a e a = some e := if_pos rfl
theorem sgu_n {sg : Sg} {a b : Nat} {e : va_E} (h : b ≠ a) : sgu sg a e b = sg b := if_neg h
def Sat (g : Gx) (sg : Sg) (H : Heap) (ws : va_W) : Prop := va_P g.D vwCl ws H ∧ va_D g.A ws ∧ ∀ a e, sg a = some e → (a, e) ∈ ws
def Sats (g : Gx) (sg : Sg) (U : State) : Prop := ∃ ws, Sat g sg U.heap ws
def Env0 (g : Gx) (U : State) : Prop := va_K g.D vwCl g.tys U ∧ g.base ≤ U.heap.size ∧ g.X U
/-- the frame's facts -/
def AWC (x : Cx) (cc : ByteArray) (nL : Nat) (own : String) (R : Room) (ret : Option FieldType) : Prop :=
  x.p.tables.exec = Jvm.exec ∧ x.c.code = cc ∧ x.c.maxLocals = nL ∧ x.s.vm.findClass own = some x.m.cls ∧ (∀ w ∈ WS, w.before x.args x.s = true) ∧ x.meth.locks = false ∧ Env0 x.g x.s ∧ x.g.Stable ∧ x.R = R ∧ x.l.stackTraces = false ∧ x.meth.sig.returnType = ret
theorem AWC.hx {x cc nL own R ret} (h : AWC x cc nL own R ret) : x.p.tables.exec = Jvm.exec := h.1
theorem AWC.hb {x cc nL own R ret} (h : AWC x cc nL own R ret) : x.c.code = cc := h.2.1
theorem AWC.hml {x cc nL own R ret} (h : AWC x cc nL own R ret) : x.c.maxLocals = nL := h.2.2.1
theorem AWC.hown {x cc nL own R ret} (h : AWC x cc nL own R ret) : x.s.vm.findClass own = some x.m.cls := h.2.2.2.1
theorem AWC.hts {x cc nL own R ret} (h : AWC x cc nL own R ret) : ∀ w ∈ WS, w.before x.args x.s = true := h.2.2.2.2.1
theorem AWC.hlk {x cc nL own R ret} (h : AWC x cc nL own R ret) : x.meth.locks = false := h.2.2.2.2.2.1
theorem AWC.env {x cc nL own R ret} (h : AWC x cc nL own R ret) : Env0 x.g x.s := h.2.2.2.2.2.2.1
theorem AWC.stab {x cc nL own R ret} (h : AWC x cc nL own R ret) : x.g.Stable := h.2.2.2.2.2.2.2.1
theorem AWC.room {x cc nL own R ret} (h : AWC x cc nL own R ret) : x.R = R := h.2.2.2.2.2.2.2.2.1
theorem AWC.nost {x cc nL own R ret} (h : AWC x cc nL own R ret) : x.l.stackTraces = false := h.2.2.2.2.2.2.2.2.2.1
theorem AWC.hr {x cc nL own R ret} (h : AWC x cc nL own R ret) : x.meth.sig.returnType = ret := h.2.2.2.2.2.2.2.2.2.2
/-- the room is full at k cells, n slots: one judgement for every heap that holds the store -/
def AW (x : Cx) (Q : State → Prop) (k n : Nat) (sg : Sg) (pc : Nat) (ls : List (Nat × Value)) (st : List Value) : Prop :=
  ∀ (H : Heap) (locs : List Loc) (la : Array Slot) (ws : va_W), Sat x.g sg H ws → va_S x.g.A x.s.heap H locs → lv_has la x.c.maxLocals ls → W x.p x.l x.e x.R x.s x.m x.args x.below x.meth x.c H locs k n Q (F0 x.m pc la st)
/-- the same, with an exception of the class E on its way -/
def AX (x : Cx) (Q : State → Prop) (k n : Nat) (sg : Sg) (pc : Nat) (ls : List (Nat × Value)) (E : String) : Prop :=
  ∀ (H : Heap) (locs : List Loc) (la : Array Slot) (ws : va_W) (q : Addr) (ce : Cell) (st : List Value), Sat x.g sg H ws → va_S x.g.A x.s.heap H locs → lv_has la x.c.maxLocals ls → H[q]? = some ce → ce.vm = .none → x.s.vm.findClass E = some ce.cls → vx_W x.p x.l x.e x.R x.s x.m x.args x.below x.meth x.c H locs k n Q (F0 x.m pc la st) q
def lget (ls : List (Nat × Value)) (i : Nat) : Option Value := (ls.find? (fun q => q.1 == i)).map (fun q => q.2)
theorem lget_at {la : Array Slot} {nL : Nat} {ls : List (Nat × Value)} (h : lv_has la nL ls) {i : Nat} {v : Value} (hg : lget ls i = some v) : la[i]? = some (.val v) := by
  unfold lget at hg
  cases hf : ls.find? (fun q => q.1 == i) with
  | none => rw [hf] at hg; cases hg
  | some q =>
    rw [hf] at hg
    cases hg
    have h1 := List.mem_of_find?_eq_some hf
    have h2 : (q.1 == i) = true := by simpa using List.find?_some hf
    have h3 : q.1 = i := by simpa using h2
    rw [← h3]
    exact h.2.2 q h1
def lst1 (ls : List (Nat × Value)) (i : Nat) (v : Value) : List (Nat × Value) := (i, v) :: ls.filter (fun q => !(q.1 == i) && !(q.1 + 1 == i && q.2.category == 2))
def lst2 (ls : List (Nat × Value)) (i : Nat) (v : Value) : List (Nat × Value) := (i, v) :: ls.filter (fun q => !(q.1 == i) && (!(q.1 == i + 1) && !(q.1 + 1 == i && q.2.category == 2)))
theorem Sat.at {g : Gx} {sg : Sg} {H : Heap} {ws : va_W} (h : Sat g sg H ws) {a : Nat} {e : va_E} (ha : sg a = some e) : ∃ k : Nat, ws[k]? = some (a, e) := List.getElem?_of_mem (h.2.2 a e ha)
theorem Sat.set {g : Gx} {sg : Sg} {H H1 : Heap} {ws : va_W} (h : Sat g sg H ws) {a k : Nat} {e e' : va_E} (hk : ws[k]? = some (a, e)) (hP : va_P g.D vwCl (ws.set k (a, e')) H1) (hD : va_D g.A (ws.set k (a, e'))) : Sat g (sgu sg a e') H1 (ws.set k (a, e')) := by
  have hl := (List.getElem?_eq_some_iff.mp hk).1
  refine ⟨hP, hD, fun b e2 hb => ?_⟩
  by_cases hba : b = a
  · subst hba
    rw [sgu_s] at hb
    cases hb
    exact List.mem_of_getElem? (i := k) (by rw [List.getElem?_set_self hl])
  · rw [sgu_n hba] at hb
    obtain ⟨j, hj⟩ := h.at hb
    have hjk : k ≠ j := fun z => by
      subst z
      rw [hk] at hj
      cases hj
      exact hba rfl
    exact List.mem_of_getElem? (i := j) (by rw [List.getElem?_set_ne hjk]; exact hj)
theorem Sat.push {g : Gx} {sg : Sg} {H H1 : Heap} {ws : va_W} (h : Sat g sg H ws) {q : Nat} {e : va_E} (hP : va_P g.D vwCl (ws ++ [(q, e)]) H1) (hD : va_D g.A (ws ++ [(q, e)])) : sg q = none ∧ Sat g (sgu sg q e) H1 (ws ++ [(q, e)]) := by
  have hq : (ws ++ [(q, e)])[ws.length]? = some (q, e) := by rw [List.getElem?_append_right (Nat.le_refl _), Nat.sub_self]; rfl
  have hn : sg q = none := by
    cases hs : sg q with
    | none => rfl
    | some e2 =>
      obtain ⟨j, hj⟩ := h.at hs
      have hl := (List.getElem?_eq_some_iff.mp hj).1
      have h1 : (ws ++ [(q, e)])[j]? = some (q, e2) := by rw [List.getElem?_append_left hl]; exact hj
      have := hD.1 j ws.length _ _ h1 hq rfl
      omega
  refine ⟨hn, hP, hD, fun b e2 hb => ?_⟩
  by_cases hba : b = q
  · subst hba
    rw [sgu_s] at hb
    cases hb
    exact List.mem_append_right _ List.mem_cons_self
  · rw [sgu_n hba] at hb
    exact List.mem_append_left _ (h.2.2 b e2 hb)
theorem Sat.apart {g : Gx} {sg : Sg} {H : Heap} {ws : va_W} (h : Sat g sg H ws) {a : Nat} {e : va_E} (ha : sg a = some e) : g.base ≤ a ∧ a < H.size := by
  obtain ⟨k, hk⟩ := h.at ha
  exact ⟨h.2.1.2 k _ hk, (h.1 k _ hk).lt⟩
section AWR
variable {x : Cx} {Q : State → Prop} {k n : Nat} {sg : Sg} {pc : Nat} {ls ls' : List (Nat × Value)} {st : List Value} {cc : ByteArray} {nL : Nat} {own : String} {R : Room} {ret : Option FieldType} {pc' : Nat}
theorem aw_sub {ls' : List (Nat × Value)} (h : ∀ q ∈ ls', q ∈ ls) (kk : AW x Q k n sg pc ls' st) : AW x Q k n sg pc ls st := fun H locs la ws h1 h2 h3 => kk H locs la ws h1 h2 ⟨h3.1, h3.2.1, fun q hq => h3.2.2 q (h q hq)⟩
theorem aw_widen {k' n' : Nat} (h1 : k ≤ k') (h2 : n ≤ n') (kk : AW x Q k' n' sg pc ls st) : AW x Q k n sg pc ls st := fun H locs la ws a b c => W.widen h1 h2 (kk H locs la ws a b c)
theorem aw_sg {sg' : Sg} (h : ∀ a e, sg' a = some e → sg a = some e) (kk : AW x Q k n sg' pc ls st) : AW x Q k n sg pc ls st := fun H locs la ws a b c => kk H locs la ws ⟨a.1, a.2.1, fun q e hq => a.2.2 q e (h q e hq)⟩ b c
theorem ax_widen {E : String} {k' n' : Nat} (h1 : k ≤ k') (h2 : n ≤ n') (kk : AX x Q k' n' sg pc ls E) : AX x Q k n sg pc ls E := fun H locs la ws q ce st a b c d e f => vx_widen h1 h2 (kk H locs la ws q ce st a b c d e f)
theorem aw_iconst {z : Int} {v : Int32} (C : AWC x cc nL own R ret) (hdg : decode cc pc = .ok (.iconst z, 1)) (hv : Int32.ofInt z = v) (hpc : pc + 1 = pc') (kk : AW x Q k n sg pc' ls (.int v :: st)) : AW x Q k n sg pc ls (st) := by
  subst hpc
  exact fun H locs la ws h1 h2 h3 => lv_iconst C.hx C.hb hdg hv (kk H locs la ws h1 h2 h3)
theorem aw_bipush {z : Int} {v : Int32} (C : AWC x cc nL own R ret) (hdg : decode cc pc = .ok (.bipush z, 2)) (hv : (Int8.ofInt z).toInt32 = v) (hpc : pc + 2 = pc') (kk : AW x Q k n sg pc' ls (.int v :: st)) : AW x Q k n sg pc ls (st) := by
  subst hpc
  exact fun H locs la ws h1 h2 h3 => lv_bipush C.hx C.hb hdg hv (kk H locs la ws h1 h2 h3)
theorem aw_sipush {z : Int} {v : Int32} (C : AWC x cc nL own R ret) (hdg : decode cc pc = .ok (.sipush z, 3)) (hv : (Int16.ofInt z).toInt32 = v) (hpc : pc + 3 = pc') (kk : AW x Q k n sg pc' ls (.int v :: st)) : AW x Q k n sg pc ls (st) := by
  subst hpc
  exact fun H locs la ws h1 h2 h3 => lv_sipush C.hx C.hb hdg hv (kk H locs la ws h1 h2 h3)
theorem aw_lconst {z : Fin 2} {v : Int64} (C : AWC x cc nL own R ret) (hdg : decode cc pc = .ok (.lconst z, 1)) (hv : Int64.ofNat (z : Nat) = v) (hpc : pc + 1 = pc') (kk : AW x Q k n sg pc' ls (.long v :: st)) : AW x Q k n sg pc ls (st) := by
  subst hpc
  exact fun H locs la ws h1 h2 h3 => lv_lconst C.hx C.hb hdg hv (kk H locs la ws h1 h2 h3)
theorem aw_ldc {index : Nat} {v : Int32} (C : AWC x cc nL own R ret) (hdg : decode cc pc = .ok (.ldc index, 2)) (hw : Cond.constant own index v ∈ WS) (hpc : pc + 2 = pc') (kk : AW x Q k n sg pc' ls (.int v :: st)) : AW x Q k n sg pc ls (st) := by
  subst hpc
  exact fun H locs la ws h1 h2 h3 => lv_ldc C.hx C.hb C.hown (C.hts _ hw) hdg (kk H locs la ws h1 h2 h3)
theorem aw_ldcw {index : Nat} {v : Int32} (C : AWC x cc nL own R ret) (hdg : decode cc pc = .ok (.ldc_w index, 3)) (hw : Cond.constant own index v ∈ WS) (hpc : pc + 3 = pc') (kk : AW x Q k n sg pc' ls (.int v :: st)) : AW x Q k n sg pc ls (st) := by
  subst hpc
  exact fun H locs la ws h1 h2 h3 => lv_ldcw C.hx C.hb C.hown (C.hts _ hw) hdg (kk H locs la ws h1 h2 h3)
theorem aw_ldc2 {index : Nat} {v : Int64} (C : AWC x cc nL own R ret) (hdg : decode cc pc = .ok (.ldc2_w index, 3)) (hw : Cond.constantLong own index v ∈ WS) (hpc : pc + 3 = pc') (kk : AW x Q k n sg pc' ls (.long v :: st)) : AW x Q k n sg pc ls (st) := by
  subst hpc
  exact fun H locs la ws h1 h2 h3 => lv_ldc2 C.hx C.hb C.hown (C.hts _ hw) hdg (kk H locs la ws h1 h2 h3)
theorem aw_iload_n {j : Fin 4} {i : Nat} {v : Int32} (C : AWC x cc nL own R ret) (hdg : decode cc pc = .ok (.iload_n j, 1)) (hi : (j : Nat) = i) (hg : lget ls i = some (.int v)) (hpc : pc + 1 = pc') (kk : AW x Q k n sg pc' ls (.int v :: st)) : AW x Q k n sg pc ls st := by
  subst hpc
  exact fun H locs la ws h1 h2 h3 => lv_iload_n C.hx C.hb hdg hi (lget_at h3 hg) (kk H locs la ws h1 h2 h3)
theorem aw_iload {i : Nat} {v : Int32} (C : AWC x cc nL own R ret) (hdg : decode cc pc = .ok (.iload i, 2)) (hg : lget ls i = some (.int v)) (hpc : pc + 2 = pc') (kk : AW x Q k n sg pc' ls (.int v :: st)) : AW x Q k n sg pc ls st := by
  subst hpc
  exact fun H locs la ws h1 h2 h3 => lv_iload C.hx C.hb hdg (lget_at h3 hg) (kk H locs la ws h1 h2 h3)
theorem aw_lload_n {j : Fin 4} {i : Nat} {v : Int64} (C : AWC x cc nL own R ret) (hdg : decode cc pc = .ok (.lload_n j, 1)) (hi : (j : Nat) = i) (hg : lget ls i = some (.long v)) (hpc : pc + 1 = pc') (kk : AW x Q k n sg pc' ls (.long v :: st)) : AW x Q k n sg pc ls st := by
  subst hpc
  exact fun H locs la ws h1 h2 h3 => lv_lload_n C.hx C.hb hdg hi (lget_at h3 hg) (kk H locs la ws h1 h2 h3)
theorem aw_lload {i : Nat} {v : Int64} (C : AWC x cc nL own R ret) (hdg : decode cc pc = .ok (.lload i, 2)) (hg : lget ls i = some (.long v)) (hpc : pc + 2 = pc') (kk : AW x Q k n sg pc' ls (.long v :: st)) : AW x Q k n sg pc ls st := by
  subst hpc
  exact fun H locs la ws h1 h2 h3 => lv_lload C.hx C.hb hdg (lget_at h3 hg) (kk H locs la ws h1 h2 h3)
theorem aw_aload_n {j : Fin 4} {i : Nat} {v : Nat} (C : AWC x cc nL own R ret) (hdg : decode cc pc = .ok (.aload_n j, 1)) (hi : (j : Nat) = i) (hg : lget ls i = some (.ref v)) (hpc : pc + 1 = pc') (kk : AW x Q k n sg pc' ls (.ref v :: st)) : AW x Q k n sg pc ls st := by
  subst hpc
  exact fun H locs la ws h1 h2 h3 => lv_aload_n C.hx C.hb hdg hi (lget_at h3 hg) (kk H locs la ws h1 h2 h3)
theorem aw_aload {i : Nat} {v : Nat} (C : AWC x cc nL own R ret) (hdg : decode cc pc = .ok (.aload i, 2)) (hg : lget ls i = some (.ref v)) (hpc : pc + 2 = pc') (kk : AW x Q k n sg pc' ls (.ref v :: st)) : AW x Q k n sg pc ls st := by
  subst hpc
  exact fun H locs la ws h1 h2 h3 => lv_aload C.hx C.hb hdg (lget_at h3 hg) (kk H locs la ws h1 h2 h3)
theorem aw_aload_nN {j : Fin 4} {i : Nat} (C : AWC x cc nL own R ret) (hdg : decode cc pc = .ok (.aload_n j, 1)) (hi : (j : Nat) = i) (hg : lget ls i = some .null) (hpc : pc + 1 = pc') (kk : AW x Q k n sg pc' ls (.null :: st)) : AW x Q k n sg pc ls st := by
  subst hpc
  exact fun H locs la ws h1 h2 h3 => lv_aload_nN C.hx C.hb hdg hi (lget_at h3 hg) (kk H locs la ws h1 h2 h3)
theorem aw_aloadN {i : Nat} (C : AWC x cc nL own R ret) (hdg : decode cc pc = .ok (.aload i, 2)) (hg : lget ls i = some .null) (hpc : pc + 2 = pc') (kk : AW x Q k n sg pc' ls (.null :: st)) : AW x Q k n sg pc ls st := by
  subst hpc
  exact fun H locs la ws h1 h2 h3 => lv_aloadN C.hx C.hb hdg (lget_at h3 hg) (kk H locs la ws h1 h2 h3)
/-- a reference or null, whichever -/
theorem aw_aload_nq {j : Fin 4} {i : Nat} {r : Option Nat} (C : AWC x cc nL own R ret) (hdg : decode cc pc = .ok (.aload_n j, 1)) (hi : (j : Nat) = i) (hg : lget ls i = some (va_rf r)) (hpc : pc + 1 = pc') (kk : AW x Q k n sg pc' ls (va_rf r :: st)) : AW x Q k n sg pc ls st := by
  cases r with
  | none => exact aw_aload_nN C hdg hi hg hpc kk
  | some a => exact aw_aload_n C hdg hi hg hpc kk
theorem aw_aloadq {i : Nat} {r : Option Nat} (C : AWC x cc nL own R ret) (hdg : decode cc pc = .ok (.aload i, 2)) (hg : lget ls i = some (va_rf r)) (hpc : pc + 2 = pc') (kk : AW x Q k n sg pc' ls (va_rf r :: st)) : AW x Q k n sg pc ls st := by
  cases r with
  | none => exact aw_aloadN C hdg hg hpc kk
  | some a => exact aw_aload C hdg hg hpc kk
theorem aw_istore_n {j : Fin 4} {i : Nat} {v : Int32} (C : AWC x cc nL own R ret) (hdg : decode cc pc = .ok (.istore_n j, 1)) (hi : (j : Nat) = i) (hn : i < nL) (hl : lst1 ls i (.int v) = ls') (hpc : pc + 1 = pc') (kk : AW x Q k n sg pc' ls' st) : AW x Q k n sg pc ls (.int v :: st) := by
  subst hpc
  exact fun H locs la ws h1 h2 h3 => lv_istore_n C.hx C.hb hdg hi (by rw [← C.hml]; exact h3) hn hl (fun la2 h4 => kk H locs la2 ws h1 h2 (by rw [C.hml]; exact h4))
theorem aw_istore {i : Nat} {v : Int32} (C : AWC x cc nL own R ret) (hdg : decode cc pc = .ok (.istore i, 2)) (hn : i < nL) (hl : lst1 ls i (.int v) = ls') (hpc : pc + 2 = pc') (kk : AW x Q k n sg pc' ls' st) : AW x Q k n sg pc ls (.int v :: st) := by
  subst hpc
  exact fun H locs la ws h1 h2 h3 => lv_istore C.hx C.hb hdg (by rw [← C.hml]; exact h3) hn hl (fun la2 h4 => kk H locs la2 ws h1 h2 (by rw [C.hml]; exact h4))
theorem aw_lstore_n {j : Fin 4} {i : Nat} {v : Int64} (C : AWC x cc nL own R ret) (hdg : decode cc pc = .ok (.lstore_n j, 1)) (hi : (j : Nat) = i) (hn : i + 1 < nL) (hl : lst2 ls i (.long v) = ls') (hpc : pc + 1 = pc') (kk : AW x Q k n sg pc' ls' st) : AW x Q k n sg pc ls (.long v :: st) := by
  subst hpc
  exact fun H locs la ws h1 h2 h3 => lv_lstore_n C.hx C.hb hdg hi (by rw [← C.hml]; exact h3) hn hl (fun la2 h4 => kk H locs la2 ws h1 h2 (by rw [C.hml]; exact h4))
theorem aw_lstore {i : Nat} {v : Int64} (C : AWC x cc nL own R ret) (hdg : decode cc pc = .ok (.lstore i, 2)) (hn : i + 1 < nL) (hl : lst2 ls i (.long v) = ls') (hpc : pc + 2 = pc') (kk : AW x Q k n sg pc' ls' st) : AW x Q k n sg pc ls (.long v :: st) := by
  subst hpc
  exact fun H locs la ws h1 h2 h3 => lv_lstore C.hx C.hb hdg (by rw [← C.hml]; exact h3) hn hl (fun la2 h4 => kk H locs la2 ws h1 h2 (by rw [C.hml]; exact h4))
theorem aw_astore_n {j : Fin 4} {i : Nat} {v : Nat} (C : AWC x cc nL own R ret) (hdg : decode cc pc = .ok (.astore_n j, 1)) (hi : (j : Nat) = i) (hn : i < nL) (hl : lst1 ls i (.ref v) = ls') (hpc : pc + 1 = pc') (kk : AW x Q k n sg pc' ls' st) : AW x Q k n sg pc ls (.ref v :: st) := by
  subst hpc
  exact fun H locs la ws h1 h2 h3 => lv_astore_n C.hx C.hb hdg hi (by rw [← C.hml]; exact h3) hn hl (fun la2 h4 => kk H locs la2 ws h1 h2 (by rw [C.hml]; exact h4))
theorem aw_astore {i : Nat} {v : Nat} (C : AWC x cc nL own R ret) (hdg : decode cc pc = .ok (.astore i, 2)) (hn : i < nL) (hl : lst1 ls i (.ref v) = ls') (hpc : pc + 2 = pc') (kk : AW x Q k n sg pc' ls' st) : AW x Q k n sg pc ls (.ref v :: st) := by
  subst hpc
  exact fun H locs la ws h1 h2 h3 => lv_astore C.hx C.hb hdg (by rw [← C.hml]; exact h3) hn hl (fun la2 h4 => kk H locs la2 ws h1 h2 (by rw [C.hml]; exact h4))
theorem aw_astore_nN {j : Fin 4} {i : Nat} (C : AWC x cc nL own R ret) (hdg : decode cc pc = .ok (.astore_n j, 1)) (hi : (j : Nat) = i) (hn : i < nL) (hl : lst1 ls i .null = ls') (hpc : pc + 1 = pc') (kk : AW x Q k n sg pc' ls' st) : AW x Q k n sg pc ls (.null :: st) := by
  subst hpc
  exact fun H locs la ws h1 h2 h3 => lv_astore_nN C.hx C.hb hdg hi (by rw [← C.hml]; exact h3) hn hl (fun la2 h4 => kk H locs la2 ws h1 h2 (by rw [C.hml]; exact h4))
theorem aw_astoreN {i : Nat} (C : AWC x cc nL own R ret) (hdg : decode cc pc = .ok (.astore i, 2)) (hn : i < nL) (hl : lst1 ls i .null = ls') (hpc : pc + 2 = pc') (kk : AW x Q k n sg pc' ls' st) : AW x Q k n sg pc ls (.null :: st) := by
  subst hpc
  exact fun H locs la ws h1 h2 h3 => lv_astoreN C.hx C.hb hdg (by rw [← C.hml]; exact h3) hn hl (fun la2 h4 => kk H locs la2 ws h1 h2 (by rw [C.hml]; exact h4))
theorem aw_astore_nq {j : Fin 4} {i : Nat} {r : Option Nat} (C : AWC x cc nL own R ret) (hdg : decode cc pc = .ok (.astore_n j, 1)) (hi : (j : Nat) = i) (hn : i < nL) (hl : lst1 ls i (va_rf r) = ls') (hpc : pc + 1 = pc') (kk : AW x Q k n sg pc' ls' st) : AW x Q k n sg pc ls (va_rf r :: st) := by
  cases r with
  | none => exact aw_astore_nN C hdg hi hn hl hpc kk
  | some a => exact aw_astore_n C hdg hi hn hl hpc kk
theorem aw_astoreq {i : Nat} {r : Option Nat} (C : AWC x cc nL own R ret) (hdg : decode cc pc = .ok (.astore i, 2)) (hn : i < nL) (hl : lst1 ls i (va_rf r) = ls') (hpc : pc + 2 = pc') (kk : AW x Q k n sg pc' ls' st) : AW x Q k n sg pc ls (va_rf r :: st) := by
  cases r with
  | none => exact aw_astoreN C hdg hn hl hpc kk
  | some a => exact aw_astore C hdg hn hl hpc kk
theorem aw_iinc {i : Nat} {z : Int} {v v' : Int32} (C : AWC x cc nL own R ret) (hdg : decode cc pc = .ok (.iinc i z, 3)) (hg : lget ls i = some (.int v)) (hn : i < nL) (hv : v + Int32.ofInt z = v') (hl : lst1 ls i (.int v') = ls') (hpc : pc + 3 = pc') (kk : AW x Q k n sg pc' ls' st) : AW x Q k n sg pc ls st := by
  subst hpc
  intro H locs la ws h1 h2 h3
  unfold lget at hg
  cases hf : ls.find? (fun q => q.1 == i) with
  | none => rw [hf] at hg; cases hg
  | some q =>
    rw [hf] at hg
    have h5 := List.mem_of_find?_eq_some hf
    have h6 : (q.1 == i) = true := by simpa using List.find?_some hf
    obtain ⟨j, hj⟩ := List.getElem?_of_mem h5
    obtain ⟨q1, q2⟩ := q
    have h7 : q1 = i := by simpa using h6
    have h8 : q2 = .int v := by simpa using hg
    subst h7
    subst h8
    exact lv_iinc (k := j) C.hx C.hb hdg (by rw [← C.hml]; exact h3) hj hv hn hl (fun la2 h4 => kk H locs la2 ws h1 h2 (by rw [C.hml]; exact h4))
theorem aw_iadd {a b : Int32} (C : AWC x cc nL own R ret) (hdg : decode cc pc = .ok (.iadd, 1)) (hpc : pc + 1 = pc') (kk : AW x Q k n sg pc' ls (.int (a + b) :: st)) : AW x Q k n sg pc ls (.int b :: .int a :: st) := by
  subst hpc
  exact fun H locs la ws h1 h2 h3 => lv_iadd C.hx C.hb hdg (kk H locs la ws h1 h2 h3)
theorem aw_isub {a b : Int32} (C : AWC x cc nL own R ret) (hdg : decode cc pc = .ok (.isub, 1)) (hpc : pc + 1 = pc') (kk : AW x Q k n sg pc' ls (.int (a - b) :: st)) : AW x Q k n sg pc ls (.int b :: .int a :: st) := by
  subst hpc
  exact fun H locs la ws h1 h2 h3 => lv_isub C.hx C.hb hdg (kk H locs la ws h1 h2 h3)
theorem aw_imul {a b : Int32} (C : AWC x cc nL own R ret) (hdg : decode cc pc = .ok (.imul, 1)) (hpc : pc + 1 = pc') (kk : AW x Q k n sg pc' ls (.int (a * b) :: st)) : AW x Q k n sg pc ls (.int b :: .int a :: st) := by
  subst hpc
  exact fun H locs la ws h1 h2 h3 => lv_imul C.hx C.hb hdg (kk H locs la ws h1 h2 h3)
theorem aw_iand {a b : Int32} (C : AWC x cc nL own R ret) (hdg : decode cc pc = .ok (.iand, 1)) (hpc : pc + 1 = pc') (kk : AW x Q k n sg pc' ls (.int (a &&& b) :: st)) : AW x Q k n sg pc ls (.int b :: .int a :: st) := by
  subst hpc
  exact fun H locs la ws h1 h2 h3 => lv_iand C.hx C.hb hdg (kk H locs la ws h1 h2 h3)
theorem aw_ior {a b : Int32} (C : AWC x cc nL own R ret) (hdg : decode cc pc = .ok (.ior, 1)) (hpc : pc + 1 = pc') (kk : AW x Q k n sg pc' ls (.int (a ||| b) :: st)) : AW x Q k n sg pc ls (.int b :: .int a :: st) := by
  subst hpc
  exact fun H locs la ws h1 h2 h3 => lv_ior C.hx C.hb hdg (kk H locs la ws h1 h2 h3)
theorem aw_ixor {a b : Int32} (C : AWC x cc nL own R ret) (hdg : decode cc pc = .ok (.ixor, 1)) (hpc : pc + 1 = pc') (kk : AW x Q k n sg pc' ls (.int (a ^^^ b) :: st)) : AW x Q k n sg pc ls (.int b :: .int a :: st) := by
  subst hpc
  exact fun H locs la ws h1 h2 h3 => lv_ixor C.hx C.hb hdg (kk H locs la ws h1 h2 h3)
theorem aw_ishl {a b : Int32} (C : AWC x cc nL own R ret) (hdg : decode cc pc = .ok (.ishl, 1)) (hpc : pc + 1 = pc') (kk : AW x Q k n sg pc' ls (.int (a <<< (b &&& 31)) :: st)) : AW x Q k n sg pc ls (.int b :: .int a :: st) := by
  subst hpc
  exact fun H locs la ws h1 h2 h3 => lv_ishl C.hx C.hb hdg (kk H locs la ws h1 h2 h3)
theorem aw_ishr {a b : Int32} (C : AWC x cc nL own R ret) (hdg : decode cc pc = .ok (.ishr, 1)) (hpc : pc + 1 = pc') (kk : AW x Q k n sg pc' ls (.int (a >>> (b &&& 31)) :: st)) : AW x Q k n sg pc ls (.int b :: .int a :: st) := by
  subst hpc
  exact fun H locs la ws h1 h2 h3 => lv_ishr C.hx C.hb hdg (kk H locs la ws h1 h2 h3)
theorem aw_idiv {a b : Int32} (C : AWC x cc nL own R ret) (hdg : decode cc pc = .ok (.idiv, 1)) (hne : ¬ b = 0) (hpc : pc + 1 = pc') (kk : AW x Q k n sg pc' ls (.int (a / b) :: st)) : AW x Q k n sg pc ls (.int b :: .int a :: st) := by
  subst hpc
  exact fun H locs la ws h1 h2 h3 => lv_idiv C.hx C.hb hdg hne (kk H locs la ws h1 h2 h3)
theorem aw_irem {a b : Int32} (C : AWC x cc nL own R ret) (hdg : decode cc pc = .ok (.irem, 1)) (hne : ¬ b = 0) (hpc : pc + 1 = pc') (kk : AW x Q k n sg pc' ls (.int (a - a / b * b) :: st)) : AW x Q k n sg pc ls (.int b :: .int a :: st) := by
  subst hpc
  exact fun H locs la ws h1 h2 h3 => lv_irem C.hx C.hb hdg hne (kk H locs la ws h1 h2 h3)
theorem aw_ineg {a : Int32} (C : AWC x cc nL own R ret) (hdg : decode cc pc = .ok (.ineg, 1)) (hpc : pc + 1 = pc') (kk : AW x Q k n sg pc' ls (.int (-a) :: st)) : AW x Q k n sg pc ls (.int a :: st) := by
  subst hpc
  exact fun H locs la ws h1 h2 h3 => lv_ineg C.hx C.hb hdg (kk H locs la ws h1 h2 h3)
theorem aw_ladd {a b : Int64} (C : AWC x cc nL own R ret) (hdg : decode cc pc = .ok (.ladd, 1)) (hpc : pc + 1 = pc') (kk : AW x Q k n sg pc' ls (.long (a + b) :: st)) : AW x Q k n sg pc ls (.long b :: .long a :: st) := by
  subst hpc
  exact fun H locs la ws h1 h2 h3 => lv_ladd C.hx C.hb hdg (kk H locs la ws h1 h2 h3)
theorem aw_lsub {a b : Int64} (C : AWC x cc nL own R ret) (hdg : decode cc pc = .ok (.lsub, 1)) (hpc : pc + 1 = pc') (kk : AW x Q k n sg pc' ls (.long (a - b) :: st)) : AW x Q k n sg pc ls (.long b :: .long a :: st) := by
  subst hpc
  exact fun H locs la ws h1 h2 h3 => lv_lsub C.hx C.hb hdg (kk H locs la ws h1 h2 h3)
theorem aw_lmul {a b : Int64} (C : AWC x cc nL own R ret) (hdg : decode cc pc = .ok (.lmul, 1)) (hpc : pc + 1 = pc') (kk : AW x Q k n sg pc' ls (.long (a * b) :: st)) : AW x Q k n sg pc ls (.long b :: .long a :: st) := by
  subst hpc
  exact fun H locs la ws h1 h2 h3 => lv_lmul C.hx C.hb hdg (kk H locs la ws h1 h2 h3)
theorem aw_ldiv {a b : Int64} (C : AWC x cc nL own R ret) (hdg : decode cc pc = .ok (.ldiv, 1)) (hne : ¬ b = 0) (hpc : pc + 1 = pc') (kk : AW x Q k n sg pc' ls (.long (a / b) :: st)) : AW x Q k n sg pc ls (.long b :: .long a :: st) := by
  subst hpc
  exact fun H locs la ws h1 h2 h3 => lv_ldiv C.hx C.hb hdg hne (kk H locs la ws h1 h2 h3)
theorem aw_lrem {a b : Int64} (C : AWC x cc nL own R ret) (hdg : decode cc pc = .ok (.lrem, 1)) (hne : ¬ b = 0) (hpc : pc + 1 = pc') (kk : AW x Q k n sg pc' ls (.long (a - a / b * b) :: st)) : AW x Q k n sg pc ls (.long b :: .long a :: st) := by
  subst hpc
  exact fun H locs la ws h1 h2 h3 => lv_lrem C.hx C.hb hdg hne (kk H locs la ws h1 h2 h3)
theorem aw_lneg {a : Int64} (C : AWC x cc nL own R ret) (hdg : decode cc pc = .ok (.lneg, 1)) (hpc : pc + 1 = pc') (kk : AW x Q k n sg pc' ls (.long (-a) :: st)) : AW x Q k n sg pc ls (.long a :: st) := by
  subst hpc
  exact fun H locs la ws h1 h2 h3 => lv_lneg C.hx C.hb hdg (kk H locs la ws h1 h2 h3)
theorem aw_lcmp {a b : Int64} (C : AWC x cc nL own R ret) (hdg : decode cc pc = .ok (.lcmp, 1)) (hpc : pc + 1 = pc') (kk : AW x Q k n sg pc' ls (.int (lg_cmp a b) :: st)) : AW x Q k n sg pc ls (.long b :: .long a :: st) := by
  subst hpc
  exact fun H locs la ws h1 h2 h3 => W.lcmp C.hx C.hb hdg (kk H locs la ws h1 h2 h3)
theorem aw_i2l {a : Int32} (C : AWC x cc nL own R ret) (hdg : decode cc pc = .ok (.i2l, 1)) (hpc : pc + 1 = pc') (kk : AW x Q k n sg pc' ls (.long a.toInt64 :: st)) : AW x Q k n sg pc ls (.int a :: st) := by
  subst hpc
  exact fun H locs la ws h1 h2 h3 => lv_i2l C.hx C.hb hdg rfl (kk H locs la ws h1 h2 h3)
theorem aw_l2i {a : Int64} (C : AWC x cc nL own R ret) (hdg : decode cc pc = .ok (.l2i, 1)) (hpc : pc + 1 = pc') (kk : AW x Q k n sg pc' ls (.int a.toInt32 :: st)) : AW x Q k n sg pc ls (.long a :: st) := by
  subst hpc
  exact fun H locs la ws h1 h2 h3 => lv_l2i C.hx C.hb hdg rfl (kk H locs la ws h1 h2 h3)
theorem aw_i2c {a : Int32} (C : AWC x cc nL own R ret) (hdg : decode cc pc = .ok (.i2c, 1)) (hpc : pc + 1 = pc') (kk : AW x Q k n sg pc' ls (.int (a.toUInt32 % 65536).toInt32 :: st)) : AW x Q k n sg pc ls (.int a :: st) := by
  subst hpc
  exact fun H locs la ws h1 h2 h3 => lv_i2c C.hx C.hb hdg rfl (kk H locs la ws h1 h2 h3)
theorem aw_i2b {a : Int32} (C : AWC x cc nL own R ret) (hdg : decode cc pc = .ok (.i2b, 1)) (hpc : pc + 1 = pc') (kk : AW x Q k n sg pc' ls (.int a.toInt8.toInt32 :: st)) : AW x Q k n sg pc ls (.int a :: st) := by
  subst hpc
  exact fun H locs la ws h1 h2 h3 => lv_i2b C.hx C.hb hdg rfl (kk H locs la ws h1 h2 h3)
theorem aw_dup {v : Value} (C : AWC x cc nL own R ret) (hdg : decode cc pc = .ok (.dup, 1)) (hv : v.category = 1) (hpc : pc + 1 = pc') (kk : AW x Q k n sg pc' ls (v :: v :: st)) : AW x Q k n sg pc ls (v :: st) := by
  subst hpc
  exact fun H locs la ws h1 h2 h3 => lv_dup C.hx C.hb hdg hv (kk H locs la ws h1 h2 h3)
theorem aw_pop {v : Value} (C : AWC x cc nL own R ret) (hdg : decode cc pc = .ok (.pop, 1)) (hv : v.category = 1) (hpc : pc + 1 = pc') (kk : AW x Q k n sg pc' ls (st)) : AW x Q k n sg pc ls (v :: st) := by
  subst hpc
  exact fun H locs la ws h1 h2 h3 => lv_pop C.hx C.hb hdg hv (kk H locs la ws h1 h2 h3)
theorem aw_dup_x1 {v w : Value} (C : AWC x cc nL own R ret) (hdg : decode cc pc = .ok (.dup_x1, 1)) (hv : v.category = 1) (hw : w.category = 1) (hpc : pc + 1 = pc') (kk : AW x Q k n sg pc' ls (v :: w :: v :: st)) : AW x Q k n sg pc ls (v :: w :: st) := by
  subst hpc
  exact fun H locs la ws h1 h2 h3 => lv_dup_x1 C.hx C.hb hdg hv hw (kk H locs la ws h1 h2 h3)
theorem aw_dup2 {v w : Value} (C : AWC x cc nL own R ret) (hdg : decode cc pc = .ok (.dup2, 1)) (hv : v.category = 1) (hw : w.category = 1) (hpc : pc + 1 = pc') (kk : AW x Q k n sg pc' ls (v :: w :: v :: w :: st)) : AW x Q k n sg pc ls (v :: w :: st) := by
  subst hpc
  exact fun H locs la ws h1 h2 h3 => lv_dup2_11 C.hx C.hb hdg hv hw (kk H locs la ws h1 h2 h3)
theorem aw_null  (C : AWC x cc nL own R ret) (hdg : decode cc pc = .ok (.aconst_null, 1)) (hpc : pc + 1 = pc') (kk : AW x Q k n sg pc' ls (.null :: st)) : AW x Q k n sg pc ls (st) := by
  subst hpc
  exact fun H locs la ws h1 h2 h3 => lv_null C.hx C.hb hdg (kk H locs la ws h1 h2 h3)
theorem aw_goto {off : Int} {tgt : Nat} (C : AWC x cc nL own R ret) (hdg : decode cc pc = .ok (.goto off, 3)) (ht : (pc : Int) + off = (tgt : Int)) (kk : AW x Q k n sg tgt ls st) : AW x Q k n sg pc ls st := fun H locs la ws h1 h2 h3 => lv_goto C.hx C.hb hdg ht (kk H locs la ws h1 h2 h3)
theorem aw_if_eq {a : Int32} {off : Int} {tgt : Nat} (C : AWC x cc nL own R ret) (hdg : decode cc pc = .ok (.ifCond .eq off, 3)) (ht : (pc : Int) + off = (tgt : Int)) (hpc : pc + 3 = pc') (kt : a = 0 → AW x Q k n sg tgt ls st) (kf : ¬ a = 0 → AW x Q k n sg pc' ls st) : AW x Q k n sg pc ls (.int a :: st) := by
  subst hpc
  exact fun H locs la ws h1 h2 h3 => lv_if_eq C.hx C.hb hdg ht (fun h => kt h H locs la ws h1 h2 h3) (fun h => kf h H locs la ws h1 h2 h3)
theorem aw_icmp_eq {a b : Int32} {off : Int} {tgt : Nat} (C : AWC x cc nL own R ret) (hdg : decode cc pc = .ok (.if_icmp .eq off, 3)) (ht : (pc : Int) + off = (tgt : Int)) (hpc : pc + 3 = pc') (kt : a = b → AW x Q k n sg tgt ls st) (kf : ¬ a = b → AW x Q k n sg pc' ls st) : AW x Q k n sg pc ls (.int b :: .int a :: st) := by
  subst hpc
  exact fun H locs la ws h1 h2 h3 => lv_icmp_eq C.hx C.hb hdg ht (fun h => kt h H locs la ws h1 h2 h3) (fun h => kf h H locs la ws h1 h2 h3)
theorem aw_if_ne {a : Int32} {off : Int} {tgt : Nat} (C : AWC x cc nL own R ret) (hdg : decode cc pc = .ok (.ifCond .ne off, 3)) (ht : (pc : Int) + off = (tgt : Int)) (hpc : pc + 3 = pc') (kt : ¬ a = 0 → AW x Q k n sg tgt ls st) (kf : a = 0 → AW x Q k n sg pc' ls st) : AW x Q k n sg pc ls (.int a :: st) := by
  subst hpc
  exact fun H locs la ws h1 h2 h3 => lv_if_ne C.hx C.hb hdg ht (fun h => kt h H locs la ws h1 h2 h3) (fun h => kf h H locs la ws h1 h2 h3)
theorem aw_icmp_ne {a b : Int32} {off : Int} {tgt : Nat} (C : AWC x cc nL own R ret) (hdg : decode cc pc = .ok (.if_icmp .ne off, 3)) (ht : (pc : Int) + off = (tgt : Int)) (hpc : pc + 3 = pc') (kt : ¬ a = b → AW x Q k n sg tgt ls st) (kf : a = b → AW x Q k n sg pc' ls st) : AW x Q k n sg pc ls (.int b :: .int a :: st) := by
  subst hpc
  exact fun H locs la ws h1 h2 h3 => lv_icmp_ne C.hx C.hb hdg ht (fun h => kt h H locs la ws h1 h2 h3) (fun h => kf h H locs la ws h1 h2 h3)
theorem aw_if_lt {a : Int32} {off : Int} {tgt : Nat} (C : AWC x cc nL own R ret) (hdg : decode cc pc = .ok (.ifCond .lt off, 3)) (ht : (pc : Int) + off = (tgt : Int)) (hpc : pc + 3 = pc') (kt : a < 0 → AW x Q k n sg tgt ls st) (kf : ¬ a < 0 → AW x Q k n sg pc' ls st) : AW x Q k n sg pc ls (.int a :: st) := by
  subst hpc
  exact fun H locs la ws h1 h2 h3 => lv_if_lt C.hx C.hb hdg ht (fun h => kt h H locs la ws h1 h2 h3) (fun h => kf h H locs la ws h1 h2 h3)
theorem aw_icmp_lt {a b : Int32} {off : Int} {tgt : Nat} (C : AWC x cc nL own R ret) (hdg : decode cc pc = .ok (.if_icmp .lt off, 3)) (ht : (pc : Int) + off = (tgt : Int)) (hpc : pc + 3 = pc') (kt : a < b → AW x Q k n sg tgt ls st) (kf : ¬ a < b → AW x Q k n sg pc' ls st) : AW x Q k n sg pc ls (.int b :: .int a :: st) := by
  subst hpc
  exact fun H locs la ws h1 h2 h3 => lv_icmp_lt C.hx C.hb hdg ht (fun h => kt h H locs la ws h1 h2 h3) (fun h => kf h H locs la ws h1 h2 h3)
theorem aw_if_ge {a : Int32} {off : Int} {tgt : Nat} (C : AWC x cc nL own R ret) (hdg : decode cc pc = .ok (.ifCond .ge off, 3)) (ht : (pc : Int) + off = (tgt : Int)) (hpc : pc + 3 = pc') (kt : 0 ≤ a → AW x Q k n sg tgt ls st) (kf : ¬ 0 ≤ a → AW x Q k n sg pc' ls st) : AW x Q k n sg pc ls (.int a :: st) := by
  subst hpc
  exact fun H locs la ws h1 h2 h3 => lv_if_ge C.hx C.hb hdg ht (fun h => kt h H locs la ws h1 h2 h3) (fun h => kf h H locs la ws h1 h2 h3)
theorem aw_icmp_ge {a b : Int32} {off : Int} {tgt : Nat} (C : AWC x cc nL own R ret) (hdg : decode cc pc = .ok (.if_icmp .ge off, 3)) (ht : (pc : Int) + off = (tgt : Int)) (hpc : pc + 3 = pc') (kt : b ≤ a → AW x Q k n sg tgt ls st) (kf : ¬ b ≤ a → AW x Q k n sg pc' ls st) : AW x Q k n sg pc ls (.int b :: .int a :: st) := by
  subst hpc
  exact fun H locs la ws h1 h2 h3 => lv_icmp_ge C.hx C.hb hdg ht (fun h => kt h H locs la ws h1 h2 h3) (fun h => kf h H locs la ws h1 h2 h3)
theorem aw_if_gt {a : Int32} {off : Int} {tgt : Nat} (C : AWC x cc nL own R ret) (hdg : decode cc pc = .ok (.ifCond .gt off, 3)) (ht : (pc : Int) + off = (tgt : Int)) (hpc : pc + 3 = pc') (kt : 0 < a → AW x Q k n sg tgt ls st) (kf : ¬ 0 < a → AW x Q k n sg pc' ls st) : AW x Q k n sg pc ls (.int a :: st) := by
  subst hpc
  exact fun H locs la ws h1 h2 h3 => lv_if_gt C.hx C.hb hdg ht (fun h => kt h H locs la ws h1 h2 h3) (fun h => kf h H locs la ws h1 h2 h3)
theorem aw_icmp_gt {a b : Int32} {off : Int} {tgt : Nat} (C : AWC x cc nL own R ret) (hdg : decode cc pc = .ok (.if_icmp .gt off, 3)) (ht : (pc : Int) + off = (tgt : Int)) (hpc : pc + 3 = pc') (kt : b < a → AW x Q k n sg tgt ls st) (kf : ¬ b < a → AW x Q k n sg pc' ls st) : AW x Q k n sg pc ls (.int b :: .int a :: st) := by
  subst hpc
  exact fun H locs la ws h1 h2 h3 => lv_icmp_gt C.hx C.hb hdg ht (fun h => kt h H locs la ws h1 h2 h3) (fun h => kf h H locs la ws h1 h2 h3)
theorem aw_if_le {a : Int32} {off : Int} {tgt : Nat} (C : AWC x cc nL own R ret) (hdg : decode cc pc = .ok (.ifCond .le off, 3)) (ht : (pc : Int) + off = (tgt : Int)) (hpc : pc + 3 = pc') (kt : a ≤ 0 → AW x Q k n sg tgt ls st) (kf : ¬ a ≤ 0 → AW x Q k n sg pc' ls st) : AW x Q k n sg pc ls (.int a :: st) := by
  subst hpc
  exact fun H locs la ws h1 h2 h3 => lv_if_le C.hx C.hb hdg ht (fun h => kt h H locs la ws h1 h2 h3) (fun h => kf h H locs la ws h1 h2 h3)
theorem aw_icmp_le {a b : Int32} {off : Int} {tgt : Nat} (C : AWC x cc nL own R ret) (hdg : decode cc pc = .ok (.if_icmp .le off, 3)) (ht : (pc : Int) + off = (tgt : Int)) (hpc : pc + 3 = pc') (kt : a ≤ b → AW x Q k n sg tgt ls st) (kf : ¬ a ≤ b → AW x Q k n sg pc' ls st) : AW x Q k n sg pc ls (.int b :: .int a :: st) := by
  subst hpc
  exact fun H locs la ws h1 h2 h3 => lv_icmp_le C.hx C.hb hdg ht (fun h => kt h H locs la ws h1 h2 h3) (fun h => kf h H locs la ws h1 h2 h3)
theorem aw_ifnull {r : Option Nat} {off : Int} {tgt : Nat} (C : AWC x cc nL own R ret) (hdg : decode cc pc = .ok (.ifnull off, 3)) (ht : (pc : Int) + off = (tgt : Int)) (hpc : pc + 3 = pc') (kt : r = none → AW x Q k n sg tgt ls st) (kf : ∀ a, r = some a → AW x Q k n sg pc' ls st) : AW x Q k n sg pc ls (va_rf r :: st) := by
  subst hpc
  cases r with
  | none => exact fun H locs la ws h1 h2 h3 => lv_ifnullN C.hx C.hb hdg ht (kt rfl H locs la ws h1 h2 h3)
  | some a => exact fun H locs la ws h1 h2 h3 => lv_ifnull C.hx C.hb hdg (kf a rfl H locs la ws h1 h2 h3)
theorem aw_ifnonnull {r : Option Nat} {off : Int} {tgt : Nat} (C : AWC x cc nL own R ret) (hdg : decode cc pc = .ok (.ifnonnull off, 3)) (ht : (pc : Int) + off = (tgt : Int)) (hpc : pc + 3 = pc') (kt : ∀ a, r = some a → AW x Q k n sg tgt ls st) (kf : r = none → AW x Q k n sg pc' ls st) : AW x Q k n sg pc ls (va_rf r :: st) := by
  subst hpc
  cases r with
  | none => exact fun H locs la ws h1 h2 h3 => lv_ifnonnullN C.hx C.hb hdg (kf rfl H locs la ws h1 h2 h3)
  | some a => exact fun H locs la ws h1 h2 h3 => lv_ifnonnull C.hx C.hb hdg ht (kt a rfl H locs la ws h1 h2 h3)
theorem aw_acmp_eq {rx ry : Option Nat} {off : Int} {tgt : Nat} (C : AWC x cc nL own R ret) (hdg : decode cc pc = .ok (.if_acmp .eq off, 3)) (ht : (pc : Int) + off = (tgt : Int)) (hpc : pc + 3 = pc') (kt : rx = ry → AW x Q k n sg tgt ls st) (kf : ¬ rx = ry → AW x Q k n sg pc' ls st) : AW x Q k n sg pc ls (va_rf ry :: va_rf rx :: st) := by
  subst hpc
  exact fun H locs la ws h1 h2 h3 => lv_acmp_eq C.hx C.hb hdg ht (fun h => kt h H locs la ws h1 h2 h3) (fun h => kf h H locs la ws h1 h2 h3)
theorem aw_acmp_ne {rx ry : Option Nat} {off : Int} {tgt : Nat} (C : AWC x cc nL own R ret) (hdg : decode cc pc = .ok (.if_acmp .ne off, 3)) (ht : (pc : Int) + off = (tgt : Int)) (hpc : pc + 3 = pc') (kt : ¬ rx = ry → AW x Q k n sg tgt ls st) (kf : rx = ry → AW x Q k n sg pc' ls st) : AW x Q k n sg pc ls (va_rf ry :: va_rf rx :: st) := by
  subst hpc
  exact fun H locs la ws h1 h2 h3 => lv_acmp_ne C.hx C.hb hdg ht (fun h => kt h H locs la ws h1 h2 h3) (fun h => kf h H locs la ws h1 h2 h3)
theorem aw_tableOut {dflt lo hi : Int} {offs : Array Int} {len : Nat} {a : Int32} {tgt : Nat} (C : AWC x cc nL own R ret) (hdg : decode cc pc = .ok (.tableswitch dflt lo hi offs, len)) (h : a.toInt < lo ∨ hi < a.toInt) (ht : (pc : Int) + dflt = (tgt : Int)) (kk : AW x Q k n sg tgt ls st) : AW x Q k n sg pc ls (.int a :: st) := fun H locs la ws h1 h2 h3 => lv_tableOut C.hx C.hb hdg h ht (kk H locs la ws h1 h2 h3)
theorem aw_tableIn {dflt lo hi : Int} {offs : Array Int} {len : Nat} {a : Int32} {off : Int} {tgt : Nat} (C : AWC x cc nL own R ret) (hdg : decode cc pc = .ok (.tableswitch dflt lo hi offs, len)) (h1 : ¬ a.toInt < lo) (h2 : ¬ hi < a.toInt) (ho : offs[(a.toInt - lo).toNat]? = some off) (ht : (pc : Int) + off = (tgt : Int)) (kk : AW x Q k n sg tgt ls st) : AW x Q k n sg pc ls (.int a :: st) := fun H locs la ws q1 q2 q3 => lv_tableIn C.hx C.hb hdg h1 h2 ho ht (kk H locs la ws q1 q2 q3)
theorem aw_lookup {dflt : Int} {ps : Array (Int × Int)} {len : Nat} {a : Int32} {off : Int} {tgt : Nat} (C : AWC x cc nL own R ret) (hdg : decode cc pc = .ok (.lookupswitch dflt ps, len)) (hp : (ps.toList.zip (ps.toList.drop 1)).all (fun (a, next) => a.1 < next.1) = true) (ho : Op.lookupswitch.offset ps.toList dflt a.toInt = off) (ht : (pc : Int) + off = (tgt : Int)) (kk : AW x Q k n sg tgt ls st) : AW x Q k n sg pc ls (.int a :: st) := fun H locs la ws q1 q2 q3 => lv_lookup C.hx C.hb hdg hp ho ht (kk H locs la ws q1 q2 q3)
end AWR
end
section
/-! rows of AW that touch cells, calls, ends -/
def CF (ci : Nat) (Cn : String) (T : u_T) (N : Nat) (ty0 : Nat → FieldType) : Prop := vwCl[ci]? = some (Cn, T, N) ∧ (∀ w ∈ u_ws Cn T N, w ∈ WS) ∧ (∀ k, k < N → parseFieldDescriptor (T k).2.2.1 = some (ty0 k)) ∧ (∀ a, a < N → ∀ b, b < N → a ≠ b → (T a).2.1 ≠ (T b).2.1)
def FSame (ref : String) (T : u_T) (kf : Nat) : Prop := ∀ (s : State) (args : Array Value), (∀ w ∈ WS, w.before args s = true) → ∀ y, s.fieldFound? (T kf).1 (T kf).2.1 (T kf).2.2.1 = some y → s.fieldFound? ref (T kf).2.1 (T kf).2.2.1 = some y
theorem fsame_rf {T : u_T} {kf : Nat} {ref : String} (h : (T kf).1 = ref) : FSame ref T kf := fun _ _ _ _ hy => h ▸ hy
def FL (own : String) (idx ci kf : Nat) (Cn : String) (T : u_T) (N : Nat) (ty0 : Nat → FieldType) : Prop := CF ci Cn T N ty0 ∧ kf < N ∧ ∃ ref : String, FSame ref T kf ∧ (Cond.fieldLink own idx ref (T kf).2.1 (T kf).2.2.1 ∈ WS ∨ ∃ host, Cond.fieldLinkNest own idx ref (T kf).2.1 (T kf).2.2.1 host ∈ WS)
theorem FL.of {own : String} {idx ci kf : Nat} {Cn : String} {T : u_T} {N : Nat} {ty0 : Nat → FieldType} (ref : String) (h : CF ci Cn T N ty0) (hk : kf < N) (hs : FSame ref T kf) (hw : Cond.fieldLink own idx ref (T kf).2.1 (T kf).2.2.1 ∈ WS) : FL own idx ci kf Cn T N ty0 := ⟨h, hk, ref, hs, Or.inl hw⟩
theorem FL.ofN {own : String} {idx ci kf : Nat} {Cn : String} {T : u_T} {N : Nat} {ty0 : Nat → FieldType} (ref host : String) (h : CF ci Cn T N ty0) (hk : kf < N) (hs : FSame ref T kf) (hw : Cond.fieldLinkNest own idx ref (T kf).2.1 (T kf).2.2.1 host ∈ WS) : FL own idx ci kf Cn T N ty0 := ⟨h, hk, ref, hs, Or.inr ⟨host, hw⟩⟩
/-- a method's end: what is answered, or what is thrown -/
def QC (g : Gx) (P : Option Value → Sg → Prop) : Array Value → State → Outcome → State → Prop := fun _ st o t => (∃ v sg', o = .returned v ∧ P v sg' ∧ Sats g sg' t) ∧ va_F g.A st t
def QX (g : Gx) (PX : String → Sg → Prop) : String → State → State → Prop := fun E st t => (∃ sg', PX E sg' ∧ Sats g sg' t) ∧ va_F g.A st t
def RQ (x : Cx) (P : Option Value → Sg → Prop) (PX : String → Sg → Prop) (mc ms : Nat) : State → Prop := vx_MQ x.below (QC x.g P) (QX x.g PX) x.args x.s mc ms x.g.A
def PreC (g : Gx) (sg : Sg) (As : List Value) : Array Value → State → Prop := va_Pc As (fun U => Env0 g U ∧ Sats g sg U)
/-- a method's contract over stores -/
def MM (g : Gx) (l : Launch) (y : MethodName) (bytes : ByteArray) (maxL : Nat) (ret : Option FieldType) (rm : Room) (sg : Sg) (As : List Value) (P : Option Value → Sg → Prop) (PX : String → Sg → Prop) : Prop :=
  vx_Met l y (Cond.code y bytes maxL ret :: WS) rm (PreC g sg As) (QC g P) (QX g PX) rm.cells rm.slots g.A
def noX : String → Sg → Prop := fun _ _ => False
theorem Env0.moved {g : Gx} {u U : State} {H0 : Heap} {locs : List Loc} (hst : g.Stable) (h : Env0 g u) (hW : u.WarmedH U.vm) (hS : va_S g.A u.heap U.heap locs) : Env0 g U :=
  ⟨va_K.moved hW.alike h.1, Nat.le_trans h.2.1 hS.1, hst u U hW (fun q hq => hS.2.1 q (Nat.lt_of_lt_of_le hq h.2.1) (Nat.not_le.mpr hq)) h.2.1 (Nat.le_trans h.2.1 hS.1) h.2.2⟩
theorem preC_blind {g : Gx} {sg : Sg} {As : List Value} (hst : g.Stable) : FrameBlind (PreC g sg As) := by
  intro a U gg mk h
  obtain ⟨h1, h2, h3⟩ := h
  refine ⟨h1, ?_, h3⟩
  exact ⟨va_K.moved (u := U) (U := U.calling gg mk a) (Vm.Alike.refl U.vm) h2.1, h2.2.1, hst U (U.calling gg mk a) (State.WarmedH.refl U) (fun _ _ => rfl) h2.2.1 h2.2.1 h2.2.2⟩
section AWH
variable {x : Cx} {Q : State → Prop} {k n : Nat} {sg : Sg} {pc : Nat} {ls : List (Nat × Value)} {st : List Value} {cc : ByteArray} {nL : Nat} {own : String} {R : Room} {ret : Option FieldType} {pc' : Nat}
theorem aw_getf {idx ci kf : Nat} {Cn : String} {T : u_T} {N : Nat} {ty0 : Nat → FieldType} {a : Nat} {fs : List Value} {v : Value} (C : AWC x cc nL own R ret) (F : FL own idx ci kf Cn T N ty0) (hs : sg a = some (ob ci fs)) (hv : fs[kf]? = some v) (hdg : decode cc pc = .ok (.getfield idx, 3)) (hpc : pc + 3 = pc') (kk : AW x Q k n sg pc' ls (v :: st)) : AW x Q k n sg pc ls (.ref a :: st) := by
  subst hpc
  intro H locs la ws h1 h2 h3
  obtain ⟨⟨hc, hin, -, -⟩, hk, ref, hsame, hl⟩ := F
  obtain ⟨q0, hq⟩ := h1.at hs
  rcases hl with hl | ⟨host, hl⟩
  · exact va_get C.hx C.hb C.hts hin C.hown C.env.1 h1.1 q0 hq hc kf hk (C.hts _ hl) (hsame _ _ C.hts) hv hdg (kk H locs la ws h1 h2 h3)
  · exact va_getN C.hx C.hb C.hts hin C.hown C.env.1 h1.1 q0 hq hc kf hk (C.hts _ hl) (hsame _ _ C.hts) hv hdg (kk H locs la ws h1 h2 h3)
theorem aw_putf {idx ci kf : Nat} {Cn : String} {T : u_T} {N : Nat} {ty0 : Nat → FieldType} {a : Nat} {fs fs' : List Value} {v : Value} (C : AWC x cc nL own R ret) (F : FL own idx ci kf Cn T N ty0) (hf : (T kf).2.2.2 = false) (hs : sg a = some (ob ci fs)) (hn : narrow (ty0 kf) v = v) (hfit : fits (ty0 kf) v = true) (hl : kf < fs.length) (hfs : fs.set kf v = fs') (hdg : decode cc pc = .ok (.putfield idx, 3)) (hpc : pc + 3 = pc') (kk : AW x Q k n (sgu sg a (ob ci fs')) pc' ls st) : AW x Q k n sg pc ls (v :: .ref a :: st) := by
  subst hpc
  subst hfs
  intro H locs la ws h1 h2 h3
  obtain ⟨⟨hc, hin, hty, hnm⟩, hk, ref, hsame, hlk⟩ := F
  obtain ⟨q0, hq⟩ := h1.at hs
  rcases hlk with hlk | ⟨host, hlk⟩
  · exact va_put C.hx C.hb C.hts hin ty0 hty hnm C.hown C.env.1 h1.1 h1.2.1 h2 q0 hq hc kf hk (C.hts _ hlk) (hsame _ _ C.hts) hf (hty kf hk) hn hfit hl hdg (fun H1 l1 p1 d1 s1 => kk H1 l1 la _ (h1.set hq p1 d1) s1 h3)
  · exact va_putN C.hx C.hb C.hts hin ty0 hty hnm C.hown C.env.1 h1.1 h1.2.1 h2 q0 hq hc kf hk (C.hts _ hlk) (hsame _ _ C.hts) hf (hty kf hk) hn hfit hl hdg (fun H1 l1 p1 d1 s1 => kk H1 l1 la _ (h1.set hq p1 d1) s1 h3)
/-- a final field, in the constructor of its class -/
theorem aw_putF {idx ci kf : Nat} {Cn : String} {T : u_T} {N : Nat} {ty0 : Nat → FieldType} {a : Nat} {fs fs' : List Value} {v : Value} (C : AWC x cc nL own R ret) (hinit : x.meth.name = "<init>") (h : CF ci Cn T N ty0) (hk : kf < N) (hw : Cond.fieldLink own idx own (T kf).2.1 (T kf).2.2.1 ∈ WS) (hf : (T kf).2.2.2 = true) (hd : (T kf).1 = own) (hs : sg a = some (ob ci fs)) (hn : narrow (ty0 kf) v = v) (hfit : fits (ty0 kf) v = true) (hl : kf < fs.length) (hfs : fs.set kf v = fs') (hdg : decode cc pc = .ok (.putfield idx, 3)) (hpc : pc + 3 = pc') (kk : AW x Q k n (sgu sg a (ob ci fs')) pc' ls st) : AW x Q k n sg pc ls (v :: .ref a :: st) := by
  subst hpc
  subst hfs
  intro H locs la ws h1 h2 h3
  obtain ⟨hc, hin, hty, hnm⟩ := h
  obtain ⟨q0, hq⟩ := h1.at hs
  exact va_putF C.hx C.hb C.hts hin ty0 hty hnm C.hown C.env.1 h1.1 h1.2.1 h2 q0 hq hc kf hk (C.hts _ hw) (fun y hy => hd ▸ hy) hf hinit hd (hty kf hk) hn hfit hl hdg (fun H1 l1 p1 d1 s1 => kk H1 l1 la _ (h1.set hq p1 d1) s1 h3)
theorem aw_iald {a N : Nat} {f : Nat → Int32} {i : Int32} (C : AWC x cc nL own R ret) (hs : sg a = some (arI x.g N f)) (hi : vp_in i N) (hdg : decode cc pc = .ok (.iaload, 1)) (hpc : pc + 1 = pc') (kk : AW x Q k n sg pc' ls (.int (f i.toNatClampNeg) :: st)) : AW x Q k n sg pc ls (.int i :: .ref a :: st) := by
  subst hpc
  intro H locs la ws h1 h2 h3
  obtain ⟨q0, hq⟩ := h1.at hs
  exact va_iald C.hx C.hb C.env.1 h1.1 q0 0 hq rfl hi hdg (kk H locs la ws h1 h2 h3)
theorem aw_zald {a N : Nat} {f : Nat → Int32} {i : Int32} (C : AWC x cc nL own R ret) (hs : sg a = some (arZ x.g N f)) (hi : vp_in i N) (hdg : decode cc pc = .ok (.baload, 1)) (hpc : pc + 1 = pc') (kk : AW x Q k n sg pc' ls (.int (f i.toNatClampNeg) :: st)) : AW x Q k n sg pc ls (.int i :: .ref a :: st) := by
  subst hpc
  intro H locs la ws h1 h2 h3
  obtain ⟨q0, hq⟩ := h1.at hs
  exact va_zald C.hx C.hb C.env.1 h1.1 q0 1 hq rfl hi hdg (kk H locs la ws h1 h2 h3)
theorem aw_lald {a N : Nat} {f : Nat → Int64} {i : Int32} (C : AWC x cc nL own R ret) (hs : sg a = some (arJ x.g N f)) (hi : vp_in i N) (hdg : decode cc pc = .ok (.laload, 1)) (hpc : pc + 1 = pc') (kk : AW x Q k n sg pc' ls (.long (f i.toNatClampNeg) :: st)) : AW x Q k n sg pc ls (.int i :: .ref a :: st) := by
  subst hpc
  intro H locs la ws h1 h2 h3
  obtain ⟨q0, hq⟩ := h1.at hs
  exact va_lald C.hx C.hb C.env.1 h1.1 q0 2 hq rfl hi hdg (kk H locs la ws h1 h2 h3)
theorem aw_aald {a N : Nat} {f : Nat → Option Nat} {i : Int32} (C : AWC x cc nL own R ret) (hs : sg a = some (arO x.g N f)) (hi : vp_in i N) (hdg : decode cc pc = .ok (.aaload, 1)) (hpc : pc + 1 = pc') (kk : AW x Q k n sg pc' ls (va_rf (f i.toNatClampNeg) :: st)) : AW x Q k n sg pc ls (.int i :: .ref a :: st) := by
  subst hpc
  intro H locs la ws h1 h2 h3
  obtain ⟨q0, hq⟩ := h1.at hs
  exact va_aldq C.hx C.hb C.env.1 h1.1 q0 3 hq rfl hi hdg (kk H locs la ws h1 h2 h3)
theorem aw_iast {a N : Nat} {f : Nat → Int32} {i v : Int32} (C : AWC x cc nL own R ret) (hs : sg a = some (arI x.g N f)) (hi : vp_in i N) (hdg : decode cc pc = .ok (.iastore, 1)) (hpc : pc + 1 = pc') (kk : AW x Q k n (sgu sg a (arI x.g N (upd f i.toNatClampNeg v))) pc' ls st) : AW x Q k n sg pc ls (.int v :: .int i :: .ref a :: st) := by
  subst hpc
  intro H locs la ws h1 h2 h3
  obtain ⟨q0, hq⟩ := h1.at hs
  exact va_iast C.hx C.hb C.env.1 h1.1 h1.2.1 h2 q0 0 hq rfl hi hdg (fun H1 l1 p1 d1 s1 => kk H1 l1 la _ (h1.set hq p1 d1) s1 h3)
theorem aw_zast {a N : Nat} {f : Nat → Int32} {i v : Int32} (C : AWC x cc nL own R ret) (hs : sg a = some (arZ x.g N f)) (hi : vp_in i N) (hv : vp_nar .boolean v = v) (hdg : decode cc pc = .ok (.bastore, 1)) (hpc : pc + 1 = pc') (kk : AW x Q k n (sgu sg a (arZ x.g N (upd f i.toNatClampNeg v))) pc' ls st) : AW x Q k n sg pc ls (.int v :: .int i :: .ref a :: st) := by
  subst hpc
  intro H locs la ws h1 h2 h3
  obtain ⟨q0, hq⟩ := h1.at hs
  exact va_zast C.hx C.hb C.env.1 h1.1 h1.2.1 h2 q0 1 hq rfl hi hdg (by rw [hv]; exact fun H1 l1 p1 d1 s1 => kk H1 l1 la _ (h1.set hq p1 d1) s1 h3)
theorem aw_last {a N : Nat} {f : Nat → Int64} {i : Int32} {v : Int64} (C : AWC x cc nL own R ret) (hs : sg a = some (arJ x.g N f)) (hi : vp_in i N) (hdg : decode cc pc = .ok (.lastore, 1)) (hpc : pc + 1 = pc') (kk : AW x Q k n (sgu sg a (arJ x.g N (vp_updL f i.toNatClampNeg v))) pc' ls st) : AW x Q k n sg pc ls (.long v :: .int i :: .ref a :: st) := by
  subst hpc
  intro H locs la ws h1 h2 h3
  obtain ⟨q0, hq⟩ := h1.at hs
  exact va_last C.hx C.hb C.env.1 h1.1 h1.2.1 h2 q0 2 hq rfl hi hdg (fun H1 l1 p1 d1 s1 => kk H1 l1 la _ (h1.set hq p1 d1) s1 h3)
theorem aw_alenI {a N : Nat} {f : Nat → Int32} (C : AWC x cc nL own R ret) (hs : sg a = some (arI x.g N f)) (hdg : decode cc pc = .ok (.arraylength, 1)) (hpc : pc + 1 = pc') (kk : AW x Q k n sg pc' ls (.int (nI N) :: st)) : AW x Q k n sg pc ls (.ref a :: st) := by
  subst hpc
  intro H locs la ws h1 h2 h3
  obtain ⟨q0, hq⟩ := h1.at hs
  exact va_alen C.hx C.hb C.env.1 h1.1 q0 0 hq rfl rfl hdg (kk H locs la ws h1 h2 h3)
theorem aw_alenO {a N : Nat} {f : Nat → Option Nat} (C : AWC x cc nL own R ret) (hs : sg a = some (arO x.g N f)) (hdg : decode cc pc = .ok (.arraylength, 1)) (hpc : pc + 1 = pc') (kk : AW x Q k n sg pc' ls (.int (nI N) :: st)) : AW x Q k n sg pc ls (.ref a :: st) := by
  subst hpc
  intro H locs la ws h1 h2 h3
  obtain ⟨q0, hq⟩ := h1.at hs
  exact va_alen C.hx C.hb C.env.1 h1.1 q0 3 hq rfl rfl hdg (kk H locs la ws h1 h2 h3)
theorem aw_alenB {a N : Nat} {f : Nat → Int32} (C : AWC x cc nL own R ret) (hs : sg a = some (arB x.g N f)) (hdg : decode cc pc = .ok (.arraylength, 1)) (hpc : pc + 1 = pc') (kk : AW x Q k n sg pc' ls (.int (nI N) :: st)) : AW x Q k n sg pc ls (.ref a :: st) := by
  subst hpc
  intro H locs la ws h1 h2 h3
  obtain ⟨q0, hq⟩ := h1.at hs
  exact va_alen C.hx C.hb C.env.1 h1.1 q0 4 hq rfl rfl hdg (kk H locs la ws h1 h2 h3)
theorem aw_new {idx ci : Nat} {Cn : String} {T : u_T} {N : Nat} {ty0 : Nat → FieldType} {fs : List Value} (C : AWC x cc nL own R ret) (h : CF ci Cn T N ty0) (hcl : Cond.classLink own idx Cn ∈ WS) (hinst : Cond.instantiable Cn N ∈ WS) (hini : Cond.initialized Cn ∈ WS) (hfs : ∀ j, j < N → defaultValue (ty0 j) = vp_V fs j) (hcells : k + 1 ≤ R.cells) (hslots : n + N ≤ R.slots) (hdg : decode cc pc = .ok (.new idx, 3)) (hpc : pc + 3 = pc') (kk : ∀ q, sg q = none → AW x Q (k + 1) (n + N) (sgu sg q (ob ci fs)) pc' ls (.ref q :: st)) : AW x Q k n sg pc ls st := by
  subst hpc
  intro H locs la ws h1 h2 h3
  obtain ⟨hc, hin, hty, hnm⟩ := h
  refine va_new C.hx C.hb C.hts hin ty0 hty C.hown (C.hts _ hcl) (C.hts _ hinst) (C.hts _ hini) C.env.1 h1.1 h1.2.1 h2 (fun q hq => Nat.le_trans C.env.2.1 hq) hc hfs (by rw [C.room]; exact hcells) (by rw [C.room]; exact hslots) hdg (fun q H1 p1 d1 s1 => ?_)
  obtain ⟨hn, hp⟩ := h1.push p1 d1
  exact kk q hn H1 locs la _ hp s1 h3
theorem aw_newarr {t0 : Nat} {atype : ArrayType} {ty : FieldType} {cA0 : ClassId} {i : Int32} {N : Nat} {a0 : vp_A} (C : AWC x cc nL own R ret) (harr : Cond.arrayClass (newarray.typeOf atype) ∈ WS) (hty : newarray.typeOf atype = ty) (ht : x.g.tys[t0]? = some (cA0, ty)) (hb : ∀ o, ty ≠ .object o) (ha : ∀ cA : ClassId, vp_cell cA a0 = arrV cA N (fun _ => defaultValue ty)) (hn : ¬ i < 0) (hN : i.toNatClampNeg = N) (hbytes : N * componentBytes ty ≤ 536870912) (hcells : k + 1 ≤ R.cells) (hslots : n + N ≤ R.slots) (hdg : decode cc pc = .ok (.newarray atype, 2)) (hpc : pc + 2 = pc') (kk : ∀ q, sg q = none → AW x Q (k + 1) (n + N) (sgu sg q (.inl (cA0, a0))) pc' ls (.ref q :: st)) : AW x Q k n sg pc ls (.int i :: st) := by
  subst hpc
  intro H locs la ws h1 h2 h3
  refine va_newa C.hx C.hb (C.hts _ harr) hty C.env.1 h1.1 h1.2.1 h2 (fun q hq => Nat.le_trans C.env.2.1 hq) ha hn hN hbytes (by rw [C.room]; exact hcells) (by rw [C.room]; exact hslots) hdg (fun q cA H1 k1 p1 d1 s1 => ?_)
  have e1 : va_RA x.s cA ty := (k1.2 x.g.tys.length (cA, ty) (by rw [List.getElem?_append_right (Nat.le_refl _), Nat.sub_self]; rfl)).2
  have e2 : va_RA x.s cA0 ty := (C.env.1.2 t0 (cA0, ty) ht).2
  have e3 : cA = cA0 := by
    cases ty with
    | object o => exact absurd rfl (hb o)
    | _ => exact Option.some.inj (Eq.trans (Eq.symm e1) e2)
  subst e3
  obtain ⟨hn, hp⟩ := h1.push p1 d1
  exact kk q hn H1 locs la _ hp s1 h3
/-! ends -/
theorem aw_iret {P : Option Value → Sg → Prop} {PX : String → Sg → Prop} {mc ms : Nat} {ty : FieldType} {v : Int32} (C : AWC x cc nL own R (some ty)) (hn : narrow ty (.int v) = .int v) (hc : k ≤ mc) (hsl : n ≤ ms) (hP : P (some (.int v)) sg) (hdg : decode cc pc = .ok (.ireturn, 1)) : AW x (RQ x P PX mc ms) k n sg pc ls [.int v] := by
  refine aw_widen hc hsl fun H locs la ws h1 h2 h3 => vx_ret ?_
  exact W.zret C.hx C.hb C.hr hn (fun t ht hw => ⟨⟨_, _, rfl, hP, ws, by rw [ht]; exact h1⟩, h2.F ht⟩) h2.2.2 hdg C.hlk
theorem aw_lret {P : Option Value → Sg → Prop} {PX : String → Sg → Prop} {mc ms : Nat} {v : Int64} (C : AWC x cc nL own R (some .long)) (hc : k ≤ mc) (hsl : n ≤ ms) (hP : P (some (.long v)) sg) (hdg : decode cc pc = .ok (.lreturn, 1)) : AW x (RQ x P PX mc ms) k n sg pc ls [.long v] := by
  refine aw_widen hc hsl fun H locs la ws h1 h2 h3 => vx_ret ?_
  exact W.lret C.hx C.hb C.hr (fun t ht hw => ⟨⟨_, _, rfl, hP, ws, by rw [ht]; exact h1⟩, h2.F ht⟩) h2.2.2 hdg C.hlk
theorem aw_vret {P : Option Value → Sg → Prop} {PX : String → Sg → Prop} {mc ms : Nat} (C : AWC x cc nL own R none) (hc : k ≤ mc) (hsl : n ≤ ms) (hP : P none sg) (hdg : decode cc pc = .ok (.return_, 1)) : AW x (RQ x P PX mc ms) k n sg pc ls [] := by
  refine aw_widen hc hsl fun H locs la ws h1 h2 h3 => vx_ret ?_
  exact W.vret C.hx C.hb C.hr (fun t ht hw => ⟨⟨_, _, rfl, hP, ws, by rw [ht]; exact h1⟩, h2.F ht⟩) h2.2.2 hdg C.hlk
theorem aw_aret {P : Option Value → Sg → Prop} {PX : String → Sg → Prop} {mc ms : Nat} {ty : FieldType} {r : Option Nat} (C : AWC x cc nL own R (some ty)) (hty : (∃ o, ty = .object o) ∨ ∃ t, ty = .array t) (hc : k ≤ mc) (hsl : n ≤ ms) (hP : P (some (va_rf r)) sg) (hdg : decode cc pc = .ok (.areturn, 1)) : AW x (RQ x P PX mc ms) k n sg pc ls [va_rf r] := by
  refine aw_widen hc hsl fun H locs la ws h1 h2 h3 => vx_ret ?_
  exact W.aret C.hx C.hb C.hr hty (va_rf_or r) (fun t ht hw => ⟨⟨_, _, rfl, hP, ws, by rw [ht]; exact h1⟩, h2.F ht⟩) h2.2.2 hdg C.hlk
/-! calls -/
theorem aw_run {a : Array Value} {mc ms : Nat} {st0 rest : List Value} {P : Option Value → Sg → Prop} {PX : String → Sg → Prop} (hr : ∀ H locs la ws, Sat x.g sg H ws → va_S x.g.A x.s.heap H locs → lv_has la x.c.maxLocals ls → vx_Run x.p x.l x.e x.R x.s x.m x.args x.below x.meth x.c H locs k n mc ms (F0 x.m pc la st0) rest (QC x.g P a) (QX x.g PX) x.g.A) (hpc : pc + 3 = pc')
    (kx : ∀ E sg', PX E sg' → AX x Q (k + mc) (n + ms) sg' pc ls E) (kk : ∀ v sg', P v sg' → AW x Q (k + mc) (n + ms) sg' pc' ls (v.toList ++ rest)) : AW x Q k n sg pc ls st0 := by
  subst hpc
  intro H locs la ws h1 h2 h3 T hT X
  rcases hr H locs la ws h1 h2 h3 T hT X with ⟨v, st₀, t, T', L, h0, X', hL, e1, e2, ⟨⟨v', sg', hv, hp, ws', hb⟩, hF⟩, stp⟩ | ⟨q, st₀, t, T', L, E, ce, h0, X', hL, e1, e2, ⟨⟨sg', hp, ws', hb⟩, hF⟩, hce, hcv, hcl, stp⟩
  · cases hv
    obtain ⟨k1, k2, k3⟩ := vx_keep h0 e1 h2 (fun q _ h => h) (fun q h => h) hL hF
    obtain ⟨t2, a1, b1⟩ := kk v sg' hp T'.heap (locs ++ L) la ws' (by rw [e1]; exact hb) k3 h3 T' rfl X'
    exact ⟨t2, stp t2 a1, b1⟩
  · obtain ⟨k1, k2, k3⟩ := vx_keep h0 e1 h2 (fun q _ h => h) (fun q h => h) hL hF
    obtain ⟨t2, a1, b1⟩ := kx E sg' hp T'.heap (locs ++ L) la ws' q ce rest (by rw [e1]; exact hb) k3 h3 (by rw [e1]; exact hce) hcv hcl T' rfl X'
    exact ⟨t2, stp.trans a1, b1⟩
end AWH
/-- what a call's place in the code gives -/
def KB (own : String) (idx : Nat) (y : MethodName) (bytes : ByteArray) (maxL : Nat) (ret : Option FieldType) (np : Nat) : Prop := Cond.code y bytes maxL ret ∈ WS ∧ Cond.initialized y.cls ∈ WS ∧ ((y.cls ≠ "java/lang/invoke/MethodHandle" ∧ y.cls ≠ "java/lang/invoke/VarHandle") ∧ (parseMethodDescriptor y.desc).map (fun d => d.parameters.length) = some np)
def KV (own : String) (idx : Nat) (y : MethodName) (bytes : ByteArray) (maxL : Nat) (ret : Option FieldType) (np : Nat) : Prop := KB own idx y bytes maxL ret np ∧ Cond.methodLink own idx y ∈ WS ∧ Cond.instanceMethod y ∈ WS ∧ Cond.selects y.cls y y ∈ WS
def KVN (own : String) (idx : Nat) (y : MethodName) (bytes : ByteArray) (maxL : Nat) (ret : Option FieldType) (np : Nat) : Prop := KB own idx y bytes maxL ret np ∧ (∃ host, Cond.methodLinkNest own idx y host ∈ WS) ∧ Cond.instanceMethod y ∈ WS ∧ Cond.selects y.cls y y ∈ WS
def KS (own : String) (idx : Nat) (y : MethodName) (bytes : ByteArray) (maxL : Nat) (ret : Option FieldType) (np : Nat) : Prop := KB own idx y bytes maxL ret np ∧ Cond.methodLink own idx y ∈ WS ∧ Cond.static y ∈ WS
def KSN (own : String) (idx : Nat) (y : MethodName) (bytes : ByteArray) (maxL : Nat) (ret : Option FieldType) (np : Nat) : Prop := KB own idx y bytes maxL ret np ∧ (∃ host, Cond.methodLinkNest own idx y host ∈ WS) ∧ Cond.static y ∈ WS
def KI (own : String) (idx : Nat) (y : MethodName) (bytes : ByteArray) (maxL : Nat) (np : Nat) : Prop := KB own idx y bytes maxL none np ∧ Cond.methodLink own idx y ∈ WS ∧ y.name = "<init>" ∧ Cond.instanceMethod y ∈ WS
def KIN (own : String) (idx : Nat) (y : MethodName) (bytes : ByteArray) (maxL : Nat) (np : Nat) : Prop := KB own idx y bytes maxL none np ∧ (∃ host, Cond.methodLinkNest own idx y host ∈ WS) ∧ y.name = "<init>" ∧ Cond.instanceMethod y ∈ WS
def RmOk (rm R : Room) (maxL : Nat) : Prop := rm.frames + 1 ≤ R.frames ∧ 8 + (maxL + 11) + rm.locals ≤ R.locals
section AWCall
variable {x : Cx} {Q : State → Prop} {k n : Nat} {sg : Sg} {pc : Nat} {ls : List (Nat × Value)} {st : List Value} {cc : ByteArray} {nL : Nat} {own : String} {R : Room} {ret : Option FieldType} {pc' : Nat}
variable {idx np maxL : Nat} {y : MethodName} {bytes : ByteArray} {rt : Option FieldType} {rm : Room} {As : List Value} {P : Option Value → Sg → Prop} {PX : String → Sg → Prop} {st0 : List Value} {b ci : Nat} {fs : List Value} {T : u_T} {N : Nat}
theorem aw_callB (C : AWC x cc nL own R ret) (L : KB own idx y bytes maxL rt np) (hl : Cond.methodLink own idx y ∈ WS) (hR : RmOk rm R maxL) : CallB x.R x.s x.args own idx y bytes maxL rt (Cond.code y bytes maxL rt :: WS) rm rm.cells rm.slots np :=
  ⟨rfl, rfl, by rw [C.room]; exact hR.1, by rw [C.room]; exact hR.2, ws_pay C.hts L.1, List.mem_cons_self, C.hts _ L.1, C.hts _ L.2.1, L.2.2.1, fun sig hs => (by have h := L.2.2.2; rw [hs] at h; exact (Option.some.inj h).symm), C.hts _ hl⟩
theorem aw_callN {host : String} (C : AWC x cc nL own R ret) (L : KB own idx y bytes maxL rt np) (hl : Cond.methodLinkNest own idx y host ∈ WS) (hR : RmOk rm R maxL) : va_CN x.R x.s x.args own idx y host bytes maxL rt (Cond.code y bytes maxL rt :: WS) rm rm.cells rm.slots np :=
  ⟨⟨rfl, rfl, by rw [C.room]; exact hR.1, by rw [C.room]; exact hR.2, ws_pay C.hts L.1, List.mem_cons_self⟩, C.hts _ L.1, C.hts _ L.2.1, L.2.2.1, fun sig hs => (by have h := L.2.2.2; rw [hs] at h; exact (Option.some.inj h).symm), C.hts _ hl⟩
theorem aw_pre (C : AWC x cc nL own R ret) {H : Heap} {locs : List Loc} {ws : va_W} (h1 : Sat x.g sg H ws) (h2 : va_S x.g.A x.s.heap H locs) : ∀ U : State, U.heap = H → x.s.WarmedH U.vm → PreC x.g sg As As.toArray U := by
  intro U hU hW
  subst hU
  exact ⟨rfl, Env0.moved (H0 := x.s.heap) C.stab C.env hW h2, ws, h1⟩
theorem aw_callV (C : AWC x cc nL own R ret) (L : KV own idx y bytes maxL rt np) (hM : MM x.g x.l y bytes maxL rt rm sg (.ref b :: As) P PX) (hR : RmOk rm R maxL) (hci : vwCl[ci]? = some (y.cls, T, N)) (hs : sg b = some (ob ci fs)) (hn : As.length = np) (hst : st0 = As.reverse ++ .ref b :: st) (hW : (st.map fun v => v.category).sum ≤ 8) (hc : k + rm.cells ≤ R.cells) (hsl : n + rm.slots ≤ R.slots) (hdg : decode cc pc = .ok (.invokevirtual idx, 3)) (hpc : pc + 3 = pc')
    (kx : ∀ E sg', PX E sg' → AX x Q (k + rm.cells) (n + rm.slots) sg' pc ls E) (kk : ∀ v sg', P v sg' → AW x Q (k + rm.cells) (n + rm.slots) sg' pc' ls (v.toList ++ st)) : AW x Q k n sg pc ls st0 := by
  refine aw_run (a := (Value.ref b :: As).toArray) (rest := st) (fun H locs la ws h1 h2 h3 => ?_) hpc kx kk
  obtain ⟨q0, hq⟩ := h1.at hs
  exact vx_runV (Ts := WS) ⟨C.hx, C.hb, C.hml, C.hown, C.hts⟩ hM ⟨aw_callB C L.1 L.2.1 hR, C.hts _ L.2.2.1, C.hts _ L.2.2.2⟩ ⟨preC_blind C.stab, va_recv C.env.1 h1.1 hci hq, aw_pre C h1 h2⟩ rfl hn (by rw [← C.hml]; exact h3.1) hst (lv_room hW) hdg (by rw [C.room]; exact ⟨hc, hsl⟩)
theorem aw_callVN (C : AWC x cc nL own R ret) (L : KVN own idx y bytes maxL rt np) (hM : MM x.g x.l y bytes maxL rt rm sg (.ref b :: As) P PX) (hR : RmOk rm R maxL) (hci : vwCl[ci]? = some (y.cls, T, N)) (hs : sg b = some (ob ci fs)) (hn : As.length = np) (hst : st0 = As.reverse ++ .ref b :: st) (hW : (st.map fun v => v.category).sum ≤ 8) (hc : k + rm.cells ≤ R.cells) (hsl : n + rm.slots ≤ R.slots) (hdg : decode cc pc = .ok (.invokevirtual idx, 3)) (hpc : pc + 3 = pc')
    (kx : ∀ E sg', PX E sg' → AX x Q (k + rm.cells) (n + rm.slots) sg' pc ls E) (kk : ∀ v sg', P v sg' → AW x Q (k + rm.cells) (n + rm.slots) sg' pc' ls (v.toList ++ st)) : AW x Q k n sg pc ls st0 := by
  refine aw_run (a := (Value.ref b :: As).toArray) (rest := st) (fun H locs la ws h1 h2 h3 => ?_) hpc kx kk
  obtain ⟨q0, hq⟩ := h1.at hs
  obtain ⟨L1, ⟨host, L2⟩, L3, L4⟩ := L
  exact vx_runVN (Ts := WS) ⟨C.hx, C.hb, C.hml, C.hown, C.hts⟩ hM ⟨aw_callN C L1 L2 hR, C.hts _ L3, C.hts _ L4⟩ ⟨preC_blind C.stab, va_recv C.env.1 h1.1 hci hq, aw_pre C h1 h2⟩ rfl hn (by rw [← C.hml]; exact h3.1) hst (lv_room hW) hdg (by rw [C.room]; exact ⟨hc, hsl⟩)
theorem aw_callS (C : AWC x cc nL own R ret) (L : KS own idx y bytes maxL rt np) (hM : MM x.g x.l y bytes maxL rt rm sg As P PX) (hR : RmOk rm R maxL) (hn : As.length = np) (hst : st0 = As.reverse ++ st) (hW : (st.map fun v => v.category).sum ≤ 8) (hc : k + rm.cells ≤ R.cells) (hsl : n + rm.slots ≤ R.slots) (hdg : decode cc pc = .ok (.invokestatic idx, 3)) (hpc : pc + 3 = pc')
    (kx : ∀ E sg', PX E sg' → AX x Q (k + rm.cells) (n + rm.slots) sg' pc ls E) (kk : ∀ v sg', P v sg' → AW x Q (k + rm.cells) (n + rm.slots) sg' pc' ls (v.toList ++ st)) : AW x Q k n sg pc ls st0 := by
  refine aw_run (a := As.toArray) (rest := st) (fun H locs la ws h1 h2 h3 => ?_) hpc kx kk
  exact vx_runS (Ts := WS) ⟨C.hx, C.hb, C.hml, C.hown, C.hts⟩ hM ⟨aw_callB C L.1 L.2.1 hR, C.hts _ L.2.2⟩ ⟨preC_blind C.stab, aw_pre C h1 h2⟩ rfl hn (by rw [← C.hml]; exact h3.1) hst (lv_room hW) hdg (by rw [C.room]; exact ⟨hc, hsl⟩)
theorem aw_callSN (C : AWC x cc nL own R ret) (L : KSN own idx y bytes maxL rt np) (hM : MM x.g x.l y bytes maxL rt rm sg As P PX) (hR : RmOk rm R maxL) (hn : As.length = np) (hst : st0 = As.reverse ++ st) (hW : (st.map fun v => v.category).sum ≤ 8) (hc : k + rm.cells ≤ R.cells) (hsl : n + rm.slots ≤ R.slots) (hdg : decode cc pc = .ok (.invokestatic idx, 3)) (hpc : pc + 3 = pc')
    (kx : ∀ E sg', PX E sg' → AX x Q (k + rm.cells) (n + rm.slots) sg' pc ls E) (kk : ∀ v sg', P v sg' → AW x Q (k + rm.cells) (n + rm.slots) sg' pc' ls (v.toList ++ st)) : AW x Q k n sg pc ls st0 := by
  refine aw_run (a := As.toArray) (rest := st) (fun H locs la ws h1 h2 h3 => ?_) hpc kx kk
  obtain ⟨L1, ⟨host, L2⟩, L3⟩ := L
  exact vx_runSN (Ts := WS) ⟨C.hx, C.hb, C.hml, C.hown, C.hts⟩ hM ⟨aw_callN C L1 L2 hR, C.hts _ L3, trivial⟩ ⟨preC_blind C.stab, aw_pre C h1 h2⟩ rfl hn (by rw [← C.hml]; exact h3.1) hst (lv_room hW) hdg (by rw [C.room]; exact ⟨hc, hsl⟩)
theorem aw_callI (C : AWC x cc nL own R ret) (L : KI own idx y bytes maxL np) (hM : MM x.g x.l y bytes maxL none rm sg (.ref b :: As) P PX) (hR : RmOk rm R maxL) (hn : As.length = np) (hst : st0 = As.reverse ++ .ref b :: st) (hW : (st.map fun v => v.category).sum ≤ 8) (hc : k + rm.cells ≤ R.cells) (hsl : n + rm.slots ≤ R.slots) (hdg : decode cc pc = .ok (.invokespecial idx, 3)) (hpc : pc + 3 = pc')
    (kx : ∀ E sg', PX E sg' → AX x Q (k + rm.cells) (n + rm.slots) sg' pc ls E) (kk : ∀ v sg', P v sg' → AW x Q (k + rm.cells) (n + rm.slots) sg' pc' ls (v.toList ++ st)) : AW x Q k n sg pc ls st0 := by
  refine aw_run (a := (Value.ref b :: As).toArray) (rest := st) (fun H locs la ws h1 h2 h3 => ?_) hpc kx kk
  exact vx_runI (Ts := WS) ⟨C.hx, C.hb, C.hml, C.hown, C.hts⟩ hM ⟨aw_callB C L.1 L.2.1 hR, L.2.2.1, C.hts _ L.2.2.2⟩ ⟨preC_blind C.stab, aw_pre C h1 h2⟩ rfl hn (by rw [← C.hml]; exact h3.1) hst (lv_room hW) hdg (by rw [C.room]; exact ⟨hc, hsl⟩)
theorem aw_callIN (C : AWC x cc nL own R ret) (L : KIN own idx y bytes maxL np) (hM : MM x.g x.l y bytes maxL none rm sg (.ref b :: As) P PX) (hR : RmOk rm R maxL) (hn : As.length = np) (hst : st0 = As.reverse ++ .ref b :: st) (hW : (st.map fun v => v.category).sum ≤ 8) (hc : k + rm.cells ≤ R.cells) (hsl : n + rm.slots ≤ R.slots) (hdg : decode cc pc = .ok (.invokespecial idx, 3)) (hpc : pc + 3 = pc')
    (kx : ∀ E sg', PX E sg' → AX x Q (k + rm.cells) (n + rm.slots) sg' pc ls E) (kk : ∀ v sg', P v sg' → AW x Q (k + rm.cells) (n + rm.slots) sg' pc' ls (v.toList ++ st)) : AW x Q k n sg pc ls st0 := by
  refine aw_run (a := (Value.ref b :: As).toArray) (rest := st) (fun H locs la ws h1 h2 h3 => ?_) hpc kx kk
  obtain ⟨L1, ⟨host, L2⟩, L3, L4⟩ := L
  exact vx_runIN (Ts := WS) ⟨C.hx, C.hb, C.hml, C.hown, C.hts⟩ hM ⟨aw_callN C L1 L2 hR, L3, C.hts _ L4⟩ ⟨preC_blind C.stab, aw_pre C h1 h2⟩ rfl hn (by rw [← C.hml]; exact h3.1) hst (lv_room hW) hdg (by rw [C.room]; exact ⟨hc, hsl⟩)
/-- Object's constructor -/
theorem aw_objI (C : AWC x cc nL own R ret) (hl : Cond.methodLink own idx Lib.objectInit ∈ WS) (hi : Cond.instanceMethod Lib.objectInit ∈ WS) (hco : Cond.code Lib.objectInit ⟨#[0xb1]⟩ 1 none ∈ WS) (hf : 1 ≤ R.frames) (hlo : (st.map fun v => v.category).sum + 12 ≤ R.locals) (hdg : decode cc pc = .ok (.invokespecial idx, 3)) (hpc : pc + 3 = pc') (kk : AW x Q k n sg pc' ls st) : AW x Q k n sg pc ls (.ref b :: st) := by
  subst hpc
  intro H locs la ws h1 h2 h3
  exact W.objInit C.hx C.hb C.hown (C.hts _ hl) (C.hts _ hi) (C.hts _ hco) rfl h3.1 rfl hdg (by rw [C.room]; exact hf) (by rw [C.room]; show 2 * 0 + _ + 12 ≤ _; omega) (kk H locs la ws h1 h2 h3)
/-- the exception goes on to the caller -/
theorem ax_out {E : String} {mc ms : Nat} (C : AWC x cc nL own R ret) (hout : ∀ z ∈ x.c.exceptionTable.toList, False) (hc : k ≤ mc) (hsl : n ≤ ms) (hP : PX E sg) : AX x (RQ x P PX mc ms) k n sg pc ls E := by
  intro H locs la ws q ce st h1 h2 h3 h4 h5 h6
  exact vx_out (fun z hz => (hout z hz).elim) C.hlk h4 h5 h6 (fun t ht hv => ⟨⟨sg, hP, ws, by rw [ht]; exact h1⟩, h2.F ht⟩) h2.2.2 hc hsl
end AWCall
/-- a method's contract out of its body's walk -/
theorem MM.of {g : Gx} {l : Launch} {y : MethodName} {bytes : ByteArray} {maxL : Nat} {ret : Option FieldType} {rm : Room} {sg : Sg} {As : List Value} {P : Option Value → Sg → Prop} {PX : String → Sg → Prop} (hl : l.flags = flags0) (hst : g.Stable) (hy : plainName y.cls = true) (hnL : (lg_sl As).length ≤ maxL)
    (body : ∀ x : Cx, x.g = g → x.l = l → AWC x bytes maxL y.cls rm ret → x.meth.name = y.name → (∀ z ∈ x.c.exceptionTable.toList, False) → x.args = As.toArray → AW x (RQ x P PX rm.cells rm.slots) 0 0 sg 0 (lv_args 0 As) []) : MM g l y bytes maxL ret rm sg As P PX := by
  refine vx_ofW hy rfl ?_
  intro p e s m args below meth c s₁ B hml hout hv
  obtain ⟨rfl, henv, ws, hsat⟩ := hv
  have hts0 := atoms_spec (ws := Cond.code y bytes maxL ret :: WS) B.pre
  have hns : l.stackTraces = false := by
    have : l.flags = flags0 := hl
    simp only [Launch.stackTraces, this]
    decide +kernel
  have C : AWC (g, p, l, e, rm, s, m, As.toArray, below, meth, c) bytes maxL y.cls rm ret := ⟨B.exec, B.bytes, hml, findClass_of_methodNamed B.named, fun w hw => hts0 w (List.mem_cons_of_mem _ hw), B.notSynchronized, henv, hst, rfl, hns, B.returns⟩
  have K := body (g, p, l, e, rm, s, m, As.toArray, below, meth, c) rfl rfl C (name_of_methodNamed B.named B.method).1 hout rfl
  rw [lg_entry_eq]
  exact K s.heap [] _ ws hsat va_S.rf (by
    have h := lv_entry As (n := maxL) hnL
    rw [← hml] at h ⊢
    exact h)
end
section
/-! words of the tables by their places: fields, calls; printed by program -/
theorem cf_J4 : CF 0 RJ4 TJ4 4 tyJ4 := ⟨rfl, ws_all [790, 792, 794, 796] (by decide +kernel) (by decide +kernel), tyJ4_ok, nmJ4⟩
theorem cf_Jx4a65c : CF 1 RJx4a65c TJx4a65c 3 tyJx4a65c := ⟨rfl, ws_all [134, 130, 132] (by decide +kernel) (by decide +kernel), tyJx4a65c_ok, nmJx4a65c⟩
theorem cf_X0 : CF 2 RX0 TX0 15 tyX0 := ⟨rfl, ws_all [574, 576, 578, 580, 582, 584, 586, 588, 590, 592, 594, 596, 598, 600, 602] (by decide +kernel) (by decide +kernel), tyX0_ok, nmX0⟩
theorem cf_X1 : CF 3 RX1 TX1 5 tyX1 := ⟨rfl, ws_all [1081, 1083, 1085, 1087, 1089] (by decide +kernel) (by decide +kernel), tyX1_ok, nmX1⟩
theorem cf_X2 : CF 4 RX2 TX2 5 tyX2 := ⟨rfl, ws_all [633, 635, 637, 639, 641] (by decide +kernel) (by decide +kernel), tyX2_ok, nmX2⟩
theorem cf_X3 : CF 5 RX3 TX3 5 tyX3 := ⟨rfl, ws_all [1012, 1014, 1016, 1018, 1020] (by decide +kernel) (by decide +kernel), tyX3_ok, nmX3⟩
theorem cf_X4 : CF 6 RX4 TX4 2 tyX4 := ⟨rfl, ws_all [539, 541] (by decide +kernel) (by decide +kernel), tyX4_ok, nmX4⟩
theorem cf_X5 : CF 7 RX5 TX5 7 tyX5 := ⟨rfl, ws_all [299, 301, 303, 305, 307, 309, 311] (by decide +kernel) (by decide +kernel), tyX5_ok, nmX5⟩
theorem cf_X6 : CF 8 RX6 TX6 2 tyX6 := ⟨rfl, ws_all [145, 147] (by decide +kernel) (by decide +kernel), tyX6_ok, nmX6⟩
theorem cf_X7 : CF 9 RX7 TX7 4 tyX7 := ⟨rfl, ws_all [480, 482, 484, 486] (by decide +kernel) (by decide +kernel), tyX7_ok, nmX7⟩
theorem cf_X8 : CF 10 RX8 TX8 8 tyX8 := ⟨rfl, ws_all [159, 161, 163, 165, 167, 169, 171, 173] (by decide +kernel) (by decide +kernel), tyX8_ok, nmX8⟩
theorem cf_X9 : CF 11 RX9 TX9 43 tyX9 := ⟨rfl, ws_all [1248, 1250, 1252, 1254, 1256, 1258, 1260, 1262, 1264, 1266, 1268, 1270, 1272, 1274, 1276, 1278, 1280, 1282, 1284, 1286, 1288, 1290, 1292, 1294, 1296, 1298, 1300, 1302, 1304, 1306, 1308, 1310, 1312, 1314, 1316, 1318, 1320, 1322, 1324, 1326, 1328, 1330, 1332] (by decide +kernel) (by decide +kernel), tyX9_ok, nmX9⟩
theorem f_Jx4a65c_9 : FL RJx4a65c 9 1 1 RJx4a65c TJx4a65c 3 tyJx4a65c := FL.of "java/util/ArrayList" cf_Jx4a65c (Nat.le_of_ble_eq_true rfl) (fsame_rf rfl) (ws_of 125 (by decide +kernel))
theorem f_Jx4a65c_48 : FL RJx4a65c 48 1 2 RJx4a65c TJx4a65c 3 tyJx4a65c := FL.of "java/util/ArrayList" cf_Jx4a65c (Nat.le_of_ble_eq_true rfl) (fsame_rf rfl) (ws_of 126 (by decide +kernel))
theorem f_Jxc12de_7 : FL RJxc12de 7 1 0 RJx4a65c TJx4a65c 3 tyJx4a65c := FL.of "java/util/AbstractList" cf_Jx4a65c (Nat.le_of_ble_eq_true rfl) (fsame_rf rfl) (ws_of 127 (by decide +kernel))
theorem f_X6_9 : FL RX6 9 8 0 RX6 TX6 2 tyX6 := FL.of "DeedProtocol$Shares" cf_X6 (Nat.le_of_ble_eq_true rfl) (fsame_rf rfl) (ws_of 143 (by decide +kernel))
theorem f_X6_15 : FL RX6 15 8 1 RX6 TX6 2 tyX6 := FL.of "DeedProtocol$Shares" cf_X6 (Nat.le_of_ble_eq_true rfl) (fsame_rf rfl) (ws_of 144 (by decide +kernel))
theorem f_X8_12 : FL RX8 12 10 0 RX8 TX8 8 tyX8 := FL.of "DeedProtocol" cf_X8 (Nat.le_of_ble_eq_true rfl) (fsame_rf rfl) (ws_of 151 (by decide +kernel))
theorem f_X8_16 : FL RX8 16 10 1 RX8 TX8 8 tyX8 := FL.of "DeedProtocol" cf_X8 (Nat.le_of_ble_eq_true rfl) (fsame_rf rfl) (ws_of 152 (by decide +kernel))
theorem f_X8_19 : FL RX8 19 10 2 RX8 TX8 8 tyX8 := FL.of "DeedProtocol" cf_X8 (Nat.le_of_ble_eq_true rfl) (fsame_rf rfl) (ws_of 153 (by decide +kernel))
theorem f_X8_22 : FL RX8 22 10 3 RX8 TX8 8 tyX8 := FL.of "DeedProtocol" cf_X8 (Nat.le_of_ble_eq_true rfl) (fsame_rf rfl) (ws_of 154 (by decide +kernel))
theorem f_X8_28 : FL RX8 28 10 4 RX8 TX8 8 tyX8 := FL.of "DeedProtocol" cf_X8 (Nat.le_of_ble_eq_true rfl) (fsame_rf rfl) (ws_of 155 (by decide +kernel))
theorem f_X8_32 : FL RX8 32 10 5 RX8 TX8 8 tyX8 := FL.of "DeedProtocol" cf_X8 (Nat.le_of_ble_eq_true rfl) (fsame_rf rfl) (ws_of 156 (by decide +kernel))
theorem f_X8_36 : FL RX8 36 10 6 RX8 TX8 8 tyX8 := FL.of "DeedProtocol" cf_X8 (Nat.le_of_ble_eq_true rfl) (fsame_rf rfl) (ws_of 157 (by decide +kernel))
theorem f_X8_39 : FL RX8 39 10 7 RX8 TX8 8 tyX8 := FL.of "DeedProtocol" cf_X8 (Nat.le_of_ble_eq_true rfl) (fsame_rf rfl) (ws_of 158 (by decide +kernel))
theorem f_X5_23 : FL RX5 23 7 0 RX5 TX5 7 tyX5 := FL.of "DeedProtocol$Person" cf_X5 (Nat.le_of_ble_eq_true rfl) (fsame_rf rfl) (ws_of 287 (by decide +kernel))
theorem f_X8_68 : FL RX8 68 7 0 RX5 TX5 7 tyX5 := FL.ofN "DeedProtocol$Person" "DeedProtocol" cf_X5 (Nat.le_of_ble_eq_true rfl) (fsame_rf rfl) (ws_of 288 (by decide +kernel))
theorem f_X0_64 : FL RX0 64 7 0 RX5 TX5 7 tyX5 := FL.ofN "DeedProtocol$Person" "DeedProtocol" cf_X5 (Nat.le_of_ble_eq_true rfl) (fsame_rf rfl) (ws_of 289 (by decide +kernel))
theorem f_X5_26 : FL RX5 26 7 1 RX5 TX5 7 tyX5 := FL.of "DeedProtocol$Person" cf_X5 (Nat.le_of_ble_eq_true rfl) (fsame_rf rfl) (ws_of 290 (by decide +kernel))
theorem f_X5_29 : FL RX5 29 7 2 RX5 TX5 7 tyX5 := FL.of "DeedProtocol$Person" cf_X5 (Nat.le_of_ble_eq_true rfl) (fsame_rf rfl) (ws_of 291 (by decide +kernel))
theorem f_X5_32 : FL RX5 32 7 3 RX5 TX5 7 tyX5 := FL.of "DeedProtocol$Person" cf_X5 (Nat.le_of_ble_eq_true rfl) (fsame_rf rfl) (ws_of 292 (by decide +kernel))
theorem f_X8_427 : FL RX8 427 7 3 RX5 TX5 7 tyX5 := FL.ofN "DeedProtocol$Person" "DeedProtocol" cf_X5 (Nat.le_of_ble_eq_true rfl) (fsame_rf rfl) (ws_of 293 (by decide +kernel))
theorem f_X5_9 : FL RX5 9 7 4 RX5 TX5 7 tyX5 := FL.of "DeedProtocol$Person" cf_X5 (Nat.le_of_ble_eq_true rfl) (fsame_rf rfl) (ws_of 294 (by decide +kernel))
theorem f_X8_96 : FL RX8 96 7 4 RX5 TX5 7 tyX5 := FL.ofN "DeedProtocol$Person" "DeedProtocol" cf_X5 (Nat.le_of_ble_eq_true rfl) (fsame_rf rfl) (ws_of 295 (by decide +kernel))
theorem f_X5_15 : FL RX5 15 7 5 RX5 TX5 7 tyX5 := FL.of "DeedProtocol$Person" cf_X5 (Nat.le_of_ble_eq_true rfl) (fsame_rf rfl) (ws_of 296 (by decide +kernel))
theorem f_X8_102 : FL RX8 102 7 5 RX5 TX5 7 tyX5 := FL.ofN "DeedProtocol$Person" "DeedProtocol" cf_X5 (Nat.le_of_ble_eq_true rfl) (fsame_rf rfl) (ws_of 297 (by decide +kernel))
theorem f_X5_19 : FL RX5 19 7 6 RX5 TX5 7 tyX5 := FL.of "DeedProtocol$Person" cf_X5 (Nat.le_of_ble_eq_true rfl) (fsame_rf rfl) (ws_of 298 (by decide +kernel))
theorem f_X7_16 : FL RX7 16 9 0 RX7 TX7 4 tyX7 := FL.of "DeedProtocol$Thing" cf_X7 (Nat.le_of_ble_eq_true rfl) (fsame_rf rfl) (ws_of 472 (by decide +kernel))
theorem f_X8_116 : FL RX8 116 9 0 RX7 TX7 4 tyX7 := FL.ofN "DeedProtocol$Thing" "DeedProtocol" cf_X7 (Nat.le_of_ble_eq_true rfl) (fsame_rf rfl) (ws_of 473 (by decide +kernel))
theorem f_X7_20 : FL RX7 20 9 1 RX7 TX7 4 tyX7 := FL.of "DeedProtocol$Thing" cf_X7 (Nat.le_of_ble_eq_true rfl) (fsame_rf rfl) (ws_of 474 (by decide +kernel))
theorem f_X8_384 : FL RX8 384 9 1 RX7 TX7 4 tyX7 := FL.ofN "DeedProtocol$Thing" "DeedProtocol" cf_X7 (Nat.le_of_ble_eq_true rfl) (fsame_rf rfl) (ws_of 475 (by decide +kernel))
theorem f_X7_23 : FL RX7 23 9 2 RX7 TX7 4 tyX7 := FL.of "DeedProtocol$Thing" cf_X7 (Nat.le_of_ble_eq_true rfl) (fsame_rf rfl) (ws_of 476 (by decide +kernel))
theorem f_X8_458 : FL RX8 458 9 2 RX7 TX7 4 tyX7 := FL.ofN "DeedProtocol$Thing" "DeedProtocol" cf_X7 (Nat.le_of_ble_eq_true rfl) (fsame_rf rfl) (ws_of 477 (by decide +kernel))
theorem f_X7_10 : FL RX7 10 9 3 RX7 TX7 4 tyX7 := FL.of "DeedProtocol$Thing" cf_X7 (Nat.le_of_ble_eq_true rfl) (fsame_rf rfl) (ws_of 478 (by decide +kernel))
theorem f_X8_307 : FL RX8 307 9 3 RX7 TX7 4 tyX7 := FL.ofN "DeedProtocol$Thing" "DeedProtocol" cf_X7 (Nat.le_of_ble_eq_true rfl) (fsame_rf rfl) (ws_of 479 (by decide +kernel))
theorem f_X4_9 : FL RX4 9 6 0 RX4 TX4 2 tyX4 := FL.of "DeedProtocol$Papers" cf_X4 (Nat.le_of_ble_eq_true rfl) (fsame_rf rfl) (ws_of 536 (by decide +kernel))
theorem f_X4_15 : FL RX4 15 6 1 RX4 TX4 2 tyX4 := FL.of "DeedProtocol$Papers" cf_X4 (Nat.le_of_ble_eq_true rfl) (fsame_rf rfl) (ws_of 537 (by decide +kernel))
theorem f_X8_281 : FL RX8 281 6 1 RX4 TX4 2 tyX4 := FL.ofN "DeedProtocol$Papers" "DeedProtocol" cf_X4 (Nat.le_of_ble_eq_true rfl) (fsame_rf rfl) (ws_of 538 (by decide +kernel))
theorem f_X0_41 : FL RX0 41 2 0 RX0 TX0 15 tyX0 := FL.of "DeedProtocol$Deed" cf_X0 (Nat.le_of_ble_eq_true rfl) (fsame_rf rfl) (ws_of 545 (by decide +kernel))
theorem f_X8_332 : FL RX8 332 2 0 RX0 TX0 15 tyX0 := FL.ofN "DeedProtocol$Deed" "DeedProtocol" cf_X0 (Nat.le_of_ble_eq_true rfl) (fsame_rf rfl) (ws_of 546 (by decide +kernel))
theorem f_X0_44 : FL RX0 44 2 1 RX0 TX0 15 tyX0 := FL.of "DeedProtocol$Deed" cf_X0 (Nat.le_of_ble_eq_true rfl) (fsame_rf rfl) (ws_of 547 (by decide +kernel))
theorem f_X8_236 : FL RX8 236 2 1 RX0 TX0 15 tyX0 := FL.ofN "DeedProtocol$Deed" "DeedProtocol" cf_X0 (Nat.le_of_ble_eq_true rfl) (fsame_rf rfl) (ws_of 548 (by decide +kernel))
theorem f_X0_47 : FL RX0 47 2 2 RX0 TX0 15 tyX0 := FL.of "DeedProtocol$Deed" cf_X0 (Nat.le_of_ble_eq_true rfl) (fsame_rf rfl) (ws_of 549 (by decide +kernel))
theorem f_X8_206 : FL RX8 206 2 2 RX0 TX0 15 tyX0 := FL.ofN "DeedProtocol$Deed" "DeedProtocol" cf_X0 (Nat.le_of_ble_eq_true rfl) (fsame_rf rfl) (ws_of 550 (by decide +kernel))
theorem f_X0_51 : FL RX0 51 2 3 RX0 TX0 15 tyX0 := FL.of "DeedProtocol$Deed" cf_X0 (Nat.le_of_ble_eq_true rfl) (fsame_rf rfl) (ws_of 551 (by decide +kernel))
theorem f_X8_209 : FL RX8 209 2 3 RX0 TX0 15 tyX0 := FL.ofN "DeedProtocol$Deed" "DeedProtocol" cf_X0 (Nat.le_of_ble_eq_true rfl) (fsame_rf rfl) (ws_of 552 (by decide +kernel))
theorem f_X0_54 : FL RX0 54 2 4 RX0 TX0 15 tyX0 := FL.of "DeedProtocol$Deed" cf_X0 (Nat.le_of_ble_eq_true rfl) (fsame_rf rfl) (ws_of 553 (by decide +kernel))
theorem f_X8_294 : FL RX8 294 2 4 RX0 TX0 15 tyX0 := FL.ofN "DeedProtocol$Deed" "DeedProtocol" cf_X0 (Nat.le_of_ble_eq_true rfl) (fsame_rf rfl) (ws_of 554 (by decide +kernel))
theorem f_X0_58 : FL RX0 58 2 5 RX0 TX0 15 tyX0 := FL.of "DeedProtocol$Deed" cf_X0 (Nat.le_of_ble_eq_true rfl) (fsame_rf rfl) (ws_of 555 (by decide +kernel))
theorem f_X8_310 : FL RX8 310 2 5 RX0 TX0 15 tyX0 := FL.ofN "DeedProtocol$Deed" "DeedProtocol" cf_X0 (Nat.le_of_ble_eq_true rfl) (fsame_rf rfl) (ws_of 556 (by decide +kernel))
theorem f_X0_61 : FL RX0 61 2 6 RX0 TX0 15 tyX0 := FL.of "DeedProtocol$Deed" cf_X0 (Nat.le_of_ble_eq_true rfl) (fsame_rf rfl) (ws_of 557 (by decide +kernel))
theorem f_X8_313 : FL RX8 313 2 6 RX0 TX0 15 tyX0 := FL.ofN "DeedProtocol$Deed" "DeedProtocol" cf_X0 (Nat.le_of_ble_eq_true rfl) (fsame_rf rfl) (ws_of 558 (by decide +kernel))
theorem f_X0_12 : FL RX0 12 2 7 RX0 TX0 15 tyX0 := FL.of "DeedProtocol$Deed" cf_X0 (Nat.le_of_ble_eq_true rfl) (fsame_rf rfl) (ws_of 559 (by decide +kernel))
theorem f_X8_224 : FL RX8 224 2 7 RX0 TX0 15 tyX0 := FL.ofN "DeedProtocol$Deed" "DeedProtocol" cf_X0 (Nat.le_of_ble_eq_true rfl) (fsame_rf rfl) (ws_of 560 (by decide +kernel))
theorem f_X0_18 : FL RX0 18 2 8 RX0 TX0 15 tyX0 := FL.of "DeedProtocol$Deed" cf_X0 (Nat.le_of_ble_eq_true rfl) (fsame_rf rfl) (ws_of 561 (by decide +kernel))
theorem f_X8_153 : FL RX8 153 2 8 RX0 TX0 15 tyX0 := FL.ofN "DeedProtocol$Deed" "DeedProtocol" cf_X0 (Nat.le_of_ble_eq_true rfl) (fsame_rf rfl) (ws_of 562 (by decide +kernel))
theorem f_X0_22 : FL RX0 22 2 9 RX0 TX0 15 tyX0 := FL.of "DeedProtocol$Deed" cf_X0 (Nat.le_of_ble_eq_true rfl) (fsame_rf rfl) (ws_of 563 (by decide +kernel))
theorem f_X8_171 : FL RX8 171 2 9 RX0 TX0 15 tyX0 := FL.ofN "DeedProtocol$Deed" "DeedProtocol" cf_X0 (Nat.le_of_ble_eq_true rfl) (fsame_rf rfl) (ws_of 564 (by decide +kernel))
theorem f_X0_26 : FL RX0 26 2 10 RX0 TX0 15 tyX0 := FL.of "DeedProtocol$Deed" cf_X0 (Nat.le_of_ble_eq_true rfl) (fsame_rf rfl) (ws_of 565 (by decide +kernel))
theorem f_X0_29 : FL RX0 29 2 11 RX0 TX0 15 tyX0 := FL.of "DeedProtocol$Deed" cf_X0 (Nat.le_of_ble_eq_true rfl) (fsame_rf rfl) (ws_of 566 (by decide +kernel))
theorem f_X8_221 : FL RX8 221 2 11 RX0 TX0 15 tyX0 := FL.ofN "DeedProtocol$Deed" "DeedProtocol" cf_X0 (Nat.le_of_ble_eq_true rfl) (fsame_rf rfl) (ws_of 567 (by decide +kernel))
theorem f_X0_32 : FL RX0 32 2 12 RX0 TX0 15 tyX0 := FL.of "DeedProtocol$Deed" cf_X0 (Nat.le_of_ble_eq_true rfl) (fsame_rf rfl) (ws_of 568 (by decide +kernel))
theorem f_X8_212 : FL RX8 212 2 12 RX0 TX0 15 tyX0 := FL.ofN "DeedProtocol$Deed" "DeedProtocol" cf_X0 (Nat.le_of_ble_eq_true rfl) (fsame_rf rfl) (ws_of 569 (by decide +kernel))
theorem f_X0_35 : FL RX0 35 2 13 RX0 TX0 15 tyX0 := FL.of "DeedProtocol$Deed" cf_X0 (Nat.le_of_ble_eq_true rfl) (fsame_rf rfl) (ws_of 570 (by decide +kernel))
theorem f_X8_215 : FL RX8 215 2 13 RX0 TX0 15 tyX0 := FL.ofN "DeedProtocol$Deed" "DeedProtocol" cf_X0 (Nat.le_of_ble_eq_true rfl) (fsame_rf rfl) (ws_of 571 (by decide +kernel))
theorem f_X0_38 : FL RX0 38 2 14 RX0 TX0 15 tyX0 := FL.of "DeedProtocol$Deed" cf_X0 (Nat.le_of_ble_eq_true rfl) (fsame_rf rfl) (ws_of 572 (by decide +kernel))
theorem f_X8_239 : FL RX8 239 2 14 RX0 TX0 15 tyX0 := FL.ofN "DeedProtocol$Deed" "DeedProtocol" cf_X0 (Nat.le_of_ble_eq_true rfl) (fsame_rf rfl) (ws_of 573 (by decide +kernel))
theorem f_X2_20 : FL RX2 20 4 0 RX2 TX2 5 tyX2 := FL.of "DeedProtocol$Mandate" cf_X2 (Nat.le_of_ble_eq_true rfl) (fsame_rf rfl) (ws_of 623 (by decide +kernel))
theorem f_X8_437 : FL RX8 437 4 0 RX2 TX2 5 tyX2 := FL.ofN "DeedProtocol$Mandate" "DeedProtocol" cf_X2 (Nat.le_of_ble_eq_true rfl) (fsame_rf rfl) (ws_of 624 (by decide +kernel))
theorem f_X2_24 : FL RX2 24 4 1 RX2 TX2 5 tyX2 := FL.of "DeedProtocol$Mandate" cf_X2 (Nat.le_of_ble_eq_true rfl) (fsame_rf rfl) (ws_of 625 (by decide +kernel))
theorem f_X8_434 : FL RX8 434 4 1 RX2 TX2 5 tyX2 := FL.ofN "DeedProtocol$Mandate" "DeedProtocol" cf_X2 (Nat.le_of_ble_eq_true rfl) (fsame_rf rfl) (ws_of 626 (by decide +kernel))
theorem f_X2_7 : FL RX2 7 4 2 RX2 TX2 5 tyX2 := FL.of "DeedProtocol$Mandate" cf_X2 (Nat.le_of_ble_eq_true rfl) (fsame_rf rfl) (ws_of 627 (by decide +kernel))
theorem f_X8_271 : FL RX8 271 4 2 RX2 TX2 5 tyX2 := FL.ofN "DeedProtocol$Mandate" "DeedProtocol" cf_X2 (Nat.le_of_ble_eq_true rfl) (fsame_rf rfl) (ws_of 628 (by decide +kernel))
theorem f_X2_13 : FL RX2 13 4 3 RX2 TX2 5 tyX2 := FL.of "DeedProtocol$Mandate" cf_X2 (Nat.le_of_ble_eq_true rfl) (fsame_rf rfl) (ws_of 629 (by decide +kernel))
theorem f_X8_274 : FL RX8 274 4 3 RX2 TX2 5 tyX2 := FL.ofN "DeedProtocol$Mandate" "DeedProtocol" cf_X2 (Nat.le_of_ble_eq_true rfl) (fsame_rf rfl) (ws_of 630 (by decide +kernel))
theorem f_X2_16 : FL RX2 16 4 4 RX2 TX2 5 tyX2 := FL.of "DeedProtocol$Mandate" cf_X2 (Nat.le_of_ble_eq_true rfl) (fsame_rf rfl) (ws_of 631 (by decide +kernel))
theorem f_X8_178 : FL RX8 178 4 4 RX2 TX2 5 tyX2 := FL.ofN "DeedProtocol$Mandate" "DeedProtocol" cf_X2 (Nat.le_of_ble_eq_true rfl) (fsame_rf rfl) (ws_of 632 (by decide +kernel))
theorem f_J5_15 : FL RJ5 15 0 0 RJ4 TJ4 4 tyJ4 := FL.of "java/lang/AbstractStringBuilder" cf_J4 (Nat.le_of_ble_eq_true rfl) (fsame_rf rfl) (ws_of 787 (by decide +kernel))
theorem f_J5_22 : FL RJ5 22 0 1 RJ4 TJ4 4 tyJ4 := FL.of "java/lang/AbstractStringBuilder" cf_J4 (Nat.le_of_ble_eq_true rfl) (fsame_rf rfl) (ws_of 788 (by decide +kernel))
theorem f_J5_79 : FL RJ5 79 0 3 RJ4 TJ4 4 tyJ4 := FL.of "java/lang/AbstractStringBuilder" cf_J4 (Nat.le_of_ble_eq_true rfl) (fsame_rf rfl) (ws_of 789 (by decide +kernel))
theorem f_X3_7 : FL RX3 7 5 0 RX3 TX3 5 tyX3 := FL.of "DeedProtocol$Move" cf_X3 (Nat.le_of_ble_eq_true rfl) (fsame_rf rfl) (ws_of 1002 (by decide +kernel))
theorem f_X6_30 : FL RX6 30 5 0 RX3 TX3 5 tyX3 := FL.ofN "DeedProtocol$Move" "DeedProtocol" cf_X3 (Nat.le_of_ble_eq_true rfl) (fsame_rf rfl) (ws_of 1003 (by decide +kernel))
theorem f_X3_13 : FL RX3 13 5 1 RX3 TX3 5 tyX3 := FL.of "DeedProtocol$Move" cf_X3 (Nat.le_of_ble_eq_true rfl) (fsame_rf rfl) (ws_of 1004 (by decide +kernel))
theorem f_X6_41 : FL RX6 41 5 1 RX3 TX3 5 tyX3 := FL.ofN "DeedProtocol$Move" "DeedProtocol" cf_X3 (Nat.le_of_ble_eq_true rfl) (fsame_rf rfl) (ws_of 1005 (by decide +kernel))
theorem f_X3_16 : FL RX3 16 5 2 RX3 TX3 5 tyX3 := FL.of "DeedProtocol$Move" cf_X3 (Nat.le_of_ble_eq_true rfl) (fsame_rf rfl) (ws_of 1006 (by decide +kernel))
theorem f_X6_33 : FL RX6 33 5 2 RX3 TX3 5 tyX3 := FL.ofN "DeedProtocol$Move" "DeedProtocol" cf_X3 (Nat.le_of_ble_eq_true rfl) (fsame_rf rfl) (ws_of 1007 (by decide +kernel))
theorem f_X3_19 : FL RX3 19 5 3 RX3 TX3 5 tyX3 := FL.of "DeedProtocol$Move" cf_X3 (Nat.le_of_ble_eq_true rfl) (fsame_rf rfl) (ws_of 1008 (by decide +kernel))
theorem f_X6_35 : FL RX6 35 5 3 RX3 TX3 5 tyX3 := FL.ofN "DeedProtocol$Move" "DeedProtocol" cf_X3 (Nat.le_of_ble_eq_true rfl) (fsame_rf rfl) (ws_of 1009 (by decide +kernel))
theorem f_X3_22 : FL RX3 22 5 4 RX3 TX3 5 tyX3 := FL.of "DeedProtocol$Move" cf_X3 (Nat.le_of_ble_eq_true rfl) (fsame_rf rfl) (ws_of 1010 (by decide +kernel))
theorem f_X6_24 : FL RX6 24 5 4 RX3 TX3 5 tyX3 := FL.ofN "DeedProtocol$Move" "DeedProtocol" cf_X3 (Nat.le_of_ble_eq_true rfl) (fsame_rf rfl) (ws_of 1011 (by decide +kernel))
theorem f_X1_7 : FL RX1 7 3 0 RX1 TX1 5 tyX1 := FL.of "DeedProtocol$Entry" cf_X1 (Nat.le_of_ble_eq_true rfl) (fsame_rf rfl) (ws_of 1071 (by decide +kernel))
theorem f_X8_364 : FL RX8 364 3 0 RX1 TX1 5 tyX1 := FL.ofN "DeedProtocol$Entry" "DeedProtocol" cf_X1 (Nat.le_of_ble_eq_true rfl) (fsame_rf rfl) (ws_of 1072 (by decide +kernel))
theorem f_X1_13 : FL RX1 13 3 1 RX1 TX1 5 tyX1 := FL.of "DeedProtocol$Entry" cf_X1 (Nat.le_of_ble_eq_true rfl) (fsame_rf rfl) (ws_of 1073 (by decide +kernel))
theorem f_X8_365 : FL RX8 365 3 1 RX1 TX1 5 tyX1 := FL.ofN "DeedProtocol$Entry" "DeedProtocol" cf_X1 (Nat.le_of_ble_eq_true rfl) (fsame_rf rfl) (ws_of 1074 (by decide +kernel))
theorem f_X1_16 : FL RX1 16 3 2 RX1 TX1 5 tyX1 := FL.of "DeedProtocol$Entry" cf_X1 (Nat.le_of_ble_eq_true rfl) (fsame_rf rfl) (ws_of 1075 (by decide +kernel))
theorem f_X8_368 : FL RX8 368 3 2 RX1 TX1 5 tyX1 := FL.ofN "DeedProtocol$Entry" "DeedProtocol" cf_X1 (Nat.le_of_ble_eq_true rfl) (fsame_rf rfl) (ws_of 1076 (by decide +kernel))
theorem f_X1_20 : FL RX1 20 3 3 RX1 TX1 5 tyX1 := FL.of "DeedProtocol$Entry" cf_X1 (Nat.le_of_ble_eq_true rfl) (fsame_rf rfl) (ws_of 1077 (by decide +kernel))
theorem f_X8_369 : FL RX8 369 3 3 RX1 TX1 5 tyX1 := FL.ofN "DeedProtocol$Entry" "DeedProtocol" cf_X1 (Nat.le_of_ble_eq_true rfl) (fsame_rf rfl) (ws_of 1078 (by decide +kernel))
theorem f_X1_23 : FL RX1 23 3 4 RX1 TX1 5 tyX1 := FL.of "DeedProtocol$Entry" cf_X1 (Nat.le_of_ble_eq_true rfl) (fsame_rf rfl) (ws_of 1079 (by decide +kernel))
theorem f_X8_390 : FL RX8 390 3 4 RX1 TX1 5 tyX1 := FL.ofN "DeedProtocol$Entry" "DeedProtocol" cf_X1 (Nat.le_of_ble_eq_true rfl) (fsame_rf rfl) (ws_of 1080 (by decide +kernel))
theorem f_X9_117 : FL RX9 117 11 0 RX9 TX9 43 tyX9 := FL.of "DeedProtocolModel" cf_X9 (Nat.le_of_ble_eq_true rfl) (fsame_rf rfl) (ws_of 1205 (by decide +kernel))
theorem f_X9_134 : FL RX9 134 11 1 RX9 TX9 43 tyX9 := FL.of "DeedProtocolModel" cf_X9 (Nat.le_of_ble_eq_true rfl) (fsame_rf rfl) (ws_of 1206 (by decide +kernel))
theorem f_X9_121 : FL RX9 121 11 2 RX9 TX9 43 tyX9 := FL.of "DeedProtocolModel" cf_X9 (Nat.le_of_ble_eq_true rfl) (fsame_rf rfl) (ws_of 1207 (by decide +kernel))
theorem f_X9_7 : FL RX9 7 11 3 RX9 TX9 43 tyX9 := FL.of "DeedProtocolModel" cf_X9 (Nat.le_of_ble_eq_true rfl) (fsame_rf rfl) (ws_of 1208 (by decide +kernel))
theorem f_X9_13 : FL RX9 13 11 4 RX9 TX9 43 tyX9 := FL.of "DeedProtocolModel" cf_X9 (Nat.le_of_ble_eq_true rfl) (fsame_rf rfl) (ws_of 1209 (by decide +kernel))
theorem f_X9_16 : FL RX9 16 11 5 RX9 TX9 43 tyX9 := FL.of "DeedProtocolModel" cf_X9 (Nat.le_of_ble_eq_true rfl) (fsame_rf rfl) (ws_of 1210 (by decide +kernel))
theorem f_X9_20 : FL RX9 20 11 6 RX9 TX9 43 tyX9 := FL.of "DeedProtocolModel" cf_X9 (Nat.le_of_ble_eq_true rfl) (fsame_rf rfl) (ws_of 1211 (by decide +kernel))
theorem f_X9_23 : FL RX9 23 11 7 RX9 TX9 43 tyX9 := FL.of "DeedProtocolModel" cf_X9 (Nat.le_of_ble_eq_true rfl) (fsame_rf rfl) (ws_of 1212 (by decide +kernel))
theorem f_X9_26 : FL RX9 26 11 8 RX9 TX9 43 tyX9 := FL.of "DeedProtocolModel" cf_X9 (Nat.le_of_ble_eq_true rfl) (fsame_rf rfl) (ws_of 1213 (by decide +kernel))
theorem f_X9_29 : FL RX9 29 11 9 RX9 TX9 43 tyX9 := FL.of "DeedProtocolModel" cf_X9 (Nat.le_of_ble_eq_true rfl) (fsame_rf rfl) (ws_of 1214 (by decide +kernel))
theorem f_X9_128 : FL RX9 128 11 10 RX9 TX9 43 tyX9 := FL.of "DeedProtocolModel" cf_X9 (Nat.le_of_ble_eq_true rfl) (fsame_rf rfl) (ws_of 1215 (by decide +kernel))
theorem f_X9_32 : FL RX9 32 11 11 RX9 TX9 43 tyX9 := FL.of "DeedProtocolModel" cf_X9 (Nat.le_of_ble_eq_true rfl) (fsame_rf rfl) (ws_of 1216 (by decide +kernel))
theorem f_X9_35 : FL RX9 35 11 12 RX9 TX9 43 tyX9 := FL.of "DeedProtocolModel" cf_X9 (Nat.le_of_ble_eq_true rfl) (fsame_rf rfl) (ws_of 1217 (by decide +kernel))
theorem f_X9_38 : FL RX9 38 11 13 RX9 TX9 43 tyX9 := FL.of "DeedProtocolModel" cf_X9 (Nat.le_of_ble_eq_true rfl) (fsame_rf rfl) (ws_of 1218 (by decide +kernel))
theorem f_X9_41 : FL RX9 41 11 14 RX9 TX9 43 tyX9 := FL.of "DeedProtocolModel" cf_X9 (Nat.le_of_ble_eq_true rfl) (fsame_rf rfl) (ws_of 1219 (by decide +kernel))
theorem f_X9_44 : FL RX9 44 11 15 RX9 TX9 43 tyX9 := FL.of "DeedProtocolModel" cf_X9 (Nat.le_of_ble_eq_true rfl) (fsame_rf rfl) (ws_of 1220 (by decide +kernel))
theorem f_X9_47 : FL RX9 47 11 16 RX9 TX9 43 tyX9 := FL.of "DeedProtocolModel" cf_X9 (Nat.le_of_ble_eq_true rfl) (fsame_rf rfl) (ws_of 1221 (by decide +kernel))
theorem f_X9_50 : FL RX9 50 11 17 RX9 TX9 43 tyX9 := FL.of "DeedProtocolModel" cf_X9 (Nat.le_of_ble_eq_true rfl) (fsame_rf rfl) (ws_of 1222 (by decide +kernel))
theorem f_X9_53 : FL RX9 53 11 18 RX9 TX9 43 tyX9 := FL.of "DeedProtocolModel" cf_X9 (Nat.le_of_ble_eq_true rfl) (fsame_rf rfl) (ws_of 1223 (by decide +kernel))
theorem f_X9_56 : FL RX9 56 11 19 RX9 TX9 43 tyX9 := FL.of "DeedProtocolModel" cf_X9 (Nat.le_of_ble_eq_true rfl) (fsame_rf rfl) (ws_of 1224 (by decide +kernel))
theorem f_X9_59 : FL RX9 59 11 20 RX9 TX9 43 tyX9 := FL.of "DeedProtocolModel" cf_X9 (Nat.le_of_ble_eq_true rfl) (fsame_rf rfl) (ws_of 1225 (by decide +kernel))
theorem f_X9_62 : FL RX9 62 11 21 RX9 TX9 43 tyX9 := FL.of "DeedProtocolModel" cf_X9 (Nat.le_of_ble_eq_true rfl) (fsame_rf rfl) (ws_of 1226 (by decide +kernel))
theorem f_X9_65 : FL RX9 65 11 22 RX9 TX9 43 tyX9 := FL.of "DeedProtocolModel" cf_X9 (Nat.le_of_ble_eq_true rfl) (fsame_rf rfl) (ws_of 1227 (by decide +kernel))
theorem f_X9_68 : FL RX9 68 11 23 RX9 TX9 43 tyX9 := FL.of "DeedProtocolModel" cf_X9 (Nat.le_of_ble_eq_true rfl) (fsame_rf rfl) (ws_of 1228 (by decide +kernel))
theorem f_X9_71 : FL RX9 71 11 24 RX9 TX9 43 tyX9 := FL.of "DeedProtocolModel" cf_X9 (Nat.le_of_ble_eq_true rfl) (fsame_rf rfl) (ws_of 1229 (by decide +kernel))
theorem f_X9_74 : FL RX9 74 11 25 RX9 TX9 43 tyX9 := FL.of "DeedProtocolModel" cf_X9 (Nat.le_of_ble_eq_true rfl) (fsame_rf rfl) (ws_of 1230 (by decide +kernel))
theorem f_X9_77 : FL RX9 77 11 26 RX9 TX9 43 tyX9 := FL.of "DeedProtocolModel" cf_X9 (Nat.le_of_ble_eq_true rfl) (fsame_rf rfl) (ws_of 1231 (by decide +kernel))
theorem f_X9_80 : FL RX9 80 11 27 RX9 TX9 43 tyX9 := FL.of "DeedProtocolModel" cf_X9 (Nat.le_of_ble_eq_true rfl) (fsame_rf rfl) (ws_of 1232 (by decide +kernel))
theorem f_X9_83 : FL RX9 83 11 28 RX9 TX9 43 tyX9 := FL.of "DeedProtocolModel" cf_X9 (Nat.le_of_ble_eq_true rfl) (fsame_rf rfl) (ws_of 1233 (by decide +kernel))
theorem f_X9_86 : FL RX9 86 11 29 RX9 TX9 43 tyX9 := FL.of "DeedProtocolModel" cf_X9 (Nat.le_of_ble_eq_true rfl) (fsame_rf rfl) (ws_of 1234 (by decide +kernel))
theorem f_X9_185 : FL RX9 185 11 30 RX9 TX9 43 tyX9 := FL.of "DeedProtocolModel" cf_X9 (Nat.le_of_ble_eq_true rfl) (fsame_rf rfl) (ws_of 1235 (by decide +kernel))
theorem f_X9_131 : FL RX9 131 11 31 RX9 TX9 43 tyX9 := FL.of "DeedProtocolModel" cf_X9 (Nat.le_of_ble_eq_true rfl) (fsame_rf rfl) (ws_of 1236 (by decide +kernel))
theorem f_X9_89 : FL RX9 89 11 32 RX9 TX9 43 tyX9 := FL.of "DeedProtocolModel" cf_X9 (Nat.le_of_ble_eq_true rfl) (fsame_rf rfl) (ws_of 1237 (by decide +kernel))
theorem f_X9_92 : FL RX9 92 11 33 RX9 TX9 43 tyX9 := FL.of "DeedProtocolModel" cf_X9 (Nat.le_of_ble_eq_true rfl) (fsame_rf rfl) (ws_of 1238 (by decide +kernel))
theorem f_X9_96 : FL RX9 96 11 34 RX9 TX9 43 tyX9 := FL.of "DeedProtocolModel" cf_X9 (Nat.le_of_ble_eq_true rfl) (fsame_rf rfl) (ws_of 1239 (by decide +kernel))
theorem f_X9_201 : FL RX9 201 11 35 RX9 TX9 43 tyX9 := FL.of "DeedProtocolModel" cf_X9 (Nat.le_of_ble_eq_true rfl) (fsame_rf rfl) (ws_of 1240 (by decide +kernel))
theorem f_X9_99 : FL RX9 99 11 36 RX9 TX9 43 tyX9 := FL.of "DeedProtocolModel" cf_X9 (Nat.le_of_ble_eq_true rfl) (fsame_rf rfl) (ws_of 1241 (by decide +kernel))
theorem f_X9_102 : FL RX9 102 11 37 RX9 TX9 43 tyX9 := FL.of "DeedProtocolModel" cf_X9 (Nat.le_of_ble_eq_true rfl) (fsame_rf rfl) (ws_of 1242 (by decide +kernel))
theorem f_X9_105 : FL RX9 105 11 38 RX9 TX9 43 tyX9 := FL.of "DeedProtocolModel" cf_X9 (Nat.le_of_ble_eq_true rfl) (fsame_rf rfl) (ws_of 1243 (by decide +kernel))
theorem f_X9_108 : FL RX9 108 11 39 RX9 TX9 43 tyX9 := FL.of "DeedProtocolModel" cf_X9 (Nat.le_of_ble_eq_true rfl) (fsame_rf rfl) (ws_of 1244 (by decide +kernel))
theorem f_X9_217 : FL RX9 217 11 40 RX9 TX9 43 tyX9 := FL.of "DeedProtocolModel" cf_X9 (Nat.le_of_ble_eq_true rfl) (fsame_rf rfl) (ws_of 1245 (by decide +kernel))
theorem f_X9_111 : FL RX9 111 11 41 RX9 TX9 43 tyX9 := FL.of "DeedProtocolModel" cf_X9 (Nat.le_of_ble_eq_true rfl) (fsame_rf rfl) (ws_of 1246 (by decide +kernel))
theorem f_X9_114 : FL RX9 114 11 42 RX9 TX9 43 tyX9 := FL.of "DeedProtocolModel" cf_X9 (Nat.le_of_ble_eq_true rfl) (fsame_rf rfl) (ws_of 1247 (by decide +kernel))
theorem h_ini_L : Cond.initialized RL ∈ WS := ws_of 70 (by decide +kernel)
theorem h_ini_X8 : Cond.initialized RX8 ∈ WS := ws_of 71 (by decide +kernel)
theorem h_ini_Jxa1e45 : Cond.initialized RJxa1e45 ∈ WS := ws_of 72 (by decide +kernel)
theorem h_ini_Jxc12de : Cond.initialized RJxc12de ∈ WS := ws_of 73 (by decide +kernel)
theorem h_ini_Jx4a65c : Cond.initialized RJx4a65c ∈ WS := ws_of 74 (by decide +kernel)
theorem h_ini_X6 : Cond.initialized RX6 ∈ WS := ws_of 75 (by decide +kernel)
theorem h_ini_X9 : Cond.initialized RX9 ∈ WS := ws_of 76 (by decide +kernel)
theorem h_ini_X5 : Cond.initialized RX5 ∈ WS := ws_of 82 (by decide +kernel)
theorem h_ini_J8 : Cond.initialized RJ8 ∈ WS := ws_of 83 (by decide +kernel)
theorem h_ini_J9 : Cond.initialized RJ9 ∈ WS := ws_of 84 (by decide +kernel)
theorem h_ini_J7 : Cond.initialized RJ7 ∈ WS := ws_of 85 (by decide +kernel)
theorem h_ini_J10 : Cond.initialized RJ10 ∈ WS := ws_of 86 (by decide +kernel)
theorem h_ini_J15 : Cond.initialized RJ15 ∈ WS := ws_of 88 (by decide +kernel)
theorem h_ini_J3 : Cond.initialized RJ3 ∈ WS := ws_of 89 (by decide +kernel)
theorem h_ini_Jxd2413 : Cond.initialized RJxd2413 ∈ WS := ws_of 90 (by decide +kernel)
theorem h_ini_J6 : Cond.initialized RJ6 ∈ WS := ws_of 91 (by decide +kernel)
theorem h_ini_X7 : Cond.initialized RX7 ∈ WS := ws_of 92 (by decide +kernel)
theorem h_ini_X0 : Cond.initialized RX0 ∈ WS := ws_of 93 (by decide +kernel)
theorem h_ini_X4 : Cond.initialized RX4 ∈ WS := ws_of 94 (by decide +kernel)
theorem h_ini_X2 : Cond.initialized RX2 ∈ WS := ws_of 95 (by decide +kernel)
theorem h_ini_J5 : Cond.initialized RJ5 ∈ WS := ws_of 96 (by decide +kernel)
theorem h_ini_J4 : Cond.initialized RJ4 ∈ WS := ws_of 97 (by decide +kernel)
theorem h_ini_J0 : Cond.initialized RJ0 ∈ WS := ws_of 98 (by decide +kernel)
theorem h_ini_J2 : Cond.initialized RJ2 ∈ WS := ws_of 99 (by decide +kernel)
theorem h_ini_J1 : Cond.initialized RJ1 ∈ WS := ws_of 100 (by decide +kernel)
theorem h_ini_X3 : Cond.initialized RX3 ∈ WS := ws_of 101 (by decide +kernel)
theorem h_ini_X1 : Cond.initialized RX1 ∈ WS := ws_of 102 (by decide +kernel)
set_option maxRecDepth 100000 in
theorem bX8_init {own : String} {idx : Nat} : KB own idx yX8_init cX8_init 1 none 0 := ⟨aw_mem_ws (i := 107) rfl rfl, h_ini_X8, ⟨⟨by decide, by decide⟩, by decide +kernel⟩⟩
theorem biX8_init : Cond.instanceMethod yX8_init ∈ WS := ws_of 106 (by decide +kernel)
theorem k_L_108 : KI RL 108 yX8_init cX8_init 1 0 := ⟨bX8_init, ws_of 105 (by decide +kernel), rfl, biX8_init⟩
set_option maxRecDepth 100000 in
theorem bJx4a65c_init_da8c8 {own : String} {idx : Nat} : KB own idx yJx4a65c_init_da8c8 cJx4a65c_init_da8c8 1 none 0 := ⟨aw_mem_ws (i := 115) rfl rfl, h_ini_Jx4a65c, ⟨⟨by decide, by decide⟩, by decide +kernel⟩⟩
theorem biJx4a65c_init_da8c8 : Cond.instanceMethod yJx4a65c_init_da8c8 ∈ WS := ws_of 114 (by decide +kernel)
theorem k_X8_11 : KI RX8 11 yJx4a65c_init_da8c8 cJx4a65c_init_da8c8 1 0 := ⟨bJx4a65c_init_da8c8, ws_of 113 (by decide +kernel), rfl, biJx4a65c_init_da8c8⟩
set_option maxRecDepth 100000 in
theorem bJxc12de_init_da8c8 {own : String} {idx : Nat} : KB own idx yJxc12de_init_da8c8 cJxc12de_init_da8c8 1 none 0 := ⟨aw_mem_ws (i := 118) rfl rfl, h_ini_Jxc12de, ⟨⟨by decide, by decide⟩, by decide +kernel⟩⟩
theorem biJxc12de_init_da8c8 : Cond.instanceMethod yJxc12de_init_da8c8 ∈ WS := ws_of 117 (by decide +kernel)
theorem k_Jx4a65c_1 : KI RJx4a65c 1 yJxc12de_init_da8c8 cJxc12de_init_da8c8 1 0 := ⟨bJxc12de_init_da8c8, ws_of 116 (by decide +kernel), rfl, biJxc12de_init_da8c8⟩
set_option maxRecDepth 100000 in
theorem bJxa1e45_init_da8c8 {own : String} {idx : Nat} : KB own idx yJxa1e45_init_da8c8 cJxa1e45_init_da8c8 1 none 0 := ⟨aw_mem_ws (i := 121) rfl rfl, h_ini_Jxa1e45, ⟨⟨by decide, by decide⟩, by decide +kernel⟩⟩
theorem biJxa1e45_init_da8c8 : Cond.instanceMethod yJxa1e45_init_da8c8 ∈ WS := ws_of 120 (by decide +kernel)
theorem k_Jxc12de_1 : KI RJxc12de 1 yJxa1e45_init_da8c8 cJxa1e45_init_da8c8 1 0 := ⟨bJxa1e45_init_da8c8, ws_of 119 (by decide +kernel), rfl, biJxa1e45_init_da8c8⟩
set_option maxRecDepth 100000 in
theorem bX6_init {own : String} {idx : Nat} : KB own idx yX6_init cX6_init 1 none 0 := ⟨aw_mem_ws (i := 141) rfl rfl, h_ini_X6, ⟨⟨by decide, by decide⟩, by decide +kernel⟩⟩
theorem biX6_init : Cond.instanceMethod yX6_init ∈ WS := ws_of 140 (by decide +kernel)
theorem k_X8_27 : KIN RX8 27 yX6_init cX6_init 1 0 := ⟨bX6_init, ⟨"DeedProtocol", ws_of 139 (by decide +kernel)⟩, rfl, biX6_init⟩
set_option maxRecDepth 100000 in
theorem bX8_entries {own : String} {idx : Nat} : KB own idx yX8_entries cX8_entries 1 (some .int) 0 := ⟨aw_mem_ws (i := 179) rfl rfl, h_ini_X8, ⟨⟨by decide, by decide⟩, by decide +kernel⟩⟩
theorem biX8_entries : Cond.instanceMethod yX8_entries ∈ WS ∧ Cond.selects RX8 yX8_entries yX8_entries ∈ WS := ⟨ws_of 177 (by decide +kernel), ws_of 178 (by decide +kernel)⟩
theorem k_L_191 : KV RL 191 yX8_entries cX8_entries 1 (some .int) 0 := ⟨bX8_entries, ws_of 176 (by decide +kernel), biX8_entries.1, biX8_entries.2⟩
set_option maxRecDepth 100000 in
theorem bJx4a65c_size_8abf5 {own : String} {idx : Nat} : KB own idx yJx4a65c_size_8abf5 cJx4a65c_size_8abf5 1 (some .int) 0 := ⟨aw_mem_ws (i := 183) rfl rfl, h_ini_Jx4a65c, ⟨⟨by decide, by decide⟩, by decide +kernel⟩⟩
theorem biJx4a65c_size_8abf5 : Cond.instanceMethod yJx4a65c_size_8abf5 ∈ WS ∧ Cond.selects RJx4a65c yJx4a65c_size_8abf5 yJx4a65c_size_8abf5 ∈ WS := ⟨ws_of 181 (by decide +kernel), ws_of 182 (by decide +kernel)⟩
theorem k_X8_50 : KV RX8 50 yJx4a65c_size_8abf5 cJx4a65c_size_8abf5 1 (some .int) 0 := ⟨bJx4a65c_size_8abf5, ws_of 180 (by decide +kernel), biJx4a65c_size_8abf5.1, biJx4a65c_size_8abf5.2⟩
set_option maxRecDepth 100000 in
theorem bX8_duties {own : String} {idx : Nat} : KB own idx yX8_duties cX8_duties 1 (some .long) 0 := ⟨aw_mem_ws (i := 187) rfl rfl, h_ini_X8, ⟨⟨by decide, by decide⟩, by decide +kernel⟩⟩
theorem biX8_duties : Cond.instanceMethod yX8_duties ∈ WS ∧ Cond.selects RX8 yX8_duties yX8_duties ∈ WS := ⟨ws_of 185 (by decide +kernel), ws_of 186 (by decide +kernel)⟩
theorem k_L_209 : KV RL 209 yX8_duties cX8_duties 1 (some .long) 0 := ⟨bX8_duties, ws_of 184 (by decide +kernel), biX8_duties.1, biX8_duties.2⟩
set_option maxRecDepth 100000 in
theorem bX8_person {own : String} {idx : Nat} : KB own idx yX8_person cX8_person 4 (some .int) 2 := ⟨aw_mem_ws (i := 196) rfl rfl, h_ini_X8, ⟨⟨by decide, by decide⟩, by decide +kernel⟩⟩
theorem biX8_person : Cond.instanceMethod yX8_person ∈ WS ∧ Cond.selects RX8 yX8_person yX8_person ∈ WS := ⟨ws_of 194 (by decide +kernel), ws_of 195 (by decide +kernel)⟩
theorem k_L_7 : KV RL 7 yX8_person cX8_person 4 (some .int) 2 := ⟨bX8_person, ws_of 193 (by decide +kernel), biX8_person.1, biX8_person.2⟩
set_option maxRecDepth 100000 in
theorem bX5_init {own : String} {idx : Nat} : KB own idx yX5_init cX5_init 5 none 4 := ⟨aw_mem_ws (i := 285) rfl rfl, h_ini_X5, ⟨⟨by decide, by decide⟩, by decide +kernel⟩⟩
theorem biX5_init : Cond.instanceMethod yX5_init ∈ WS := ws_of 284 (by decide +kernel)
theorem k_X8_61 : KIN RX8 61 yX5_init cX5_init 5 4 := ⟨bX5_init, ⟨"DeedProtocol", ws_of 283 (by decide +kernel)⟩, rfl, biX5_init⟩
set_option maxRecDepth 100000 in
theorem bJx4a65c_add_9ea2d {own : String} {idx : Nat} : KB own idx yJx4a65c_add_9ea2d cJx4a65c_add_9ea2d 2 (some .boolean) 1 := ⟨aw_mem_ws (i := 317) rfl rfl, h_ini_Jx4a65c, ⟨⟨by decide, by decide⟩, by decide +kernel⟩⟩
theorem biJx4a65c_add_9ea2d : Cond.instanceMethod yJx4a65c_add_9ea2d ∈ WS ∧ Cond.selects RJx4a65c yJx4a65c_add_9ea2d yJx4a65c_add_9ea2d ∈ WS := ⟨ws_of 315 (by decide +kernel), ws_of 316 (by decide +kernel)⟩
theorem k_X8_64 : KV RX8 64 yJx4a65c_add_9ea2d cJx4a65c_add_9ea2d 2 (some .boolean) 1 := ⟨bJx4a65c_add_9ea2d, ws_of 314 (by decide +kernel), biJx4a65c_add_9ea2d.1, biJx4a65c_add_9ea2d.2⟩
set_option maxRecDepth 100000 in
theorem bJx4a65c_add_72be8 {own : String} {idx : Nat} : KB own idx yJx4a65c_add_72be8 cJx4a65c_add_72be8 4 none 3 := ⟨aw_mem_ws (i := 321) rfl rfl, h_ini_Jx4a65c, ⟨⟨by decide, by decide⟩, by decide +kernel⟩⟩
theorem biJx4a65c_add_72be8 : Cond.instanceMethod yJx4a65c_add_72be8 ∈ WS ∧ Cond.selects RJx4a65c yJx4a65c_add_72be8 yJx4a65c_add_72be8 ∈ WS := ⟨ws_of 320 (by decide +kernel), ws_of 1 (by decide +kernel)⟩
theorem k_Jx4a65c_131 : KV RJx4a65c 131 yJx4a65c_add_72be8 cJx4a65c_add_72be8 4 none 3 := ⟨bJx4a65c_add_72be8, ws_of 318 (by decide +kernel), biJx4a65c_add_72be8.1, biJx4a65c_add_72be8.2⟩
set_option maxRecDepth 100000 in
theorem bJx4a65c_grow_d5877 {own : String} {idx : Nat} : KB own idx yJx4a65c_grow_d5877 cJx4a65c_grow_d5877 1 (some (.array (.object "java/lang/Object"))) 0 := ⟨aw_mem_ws (i := 325) rfl rfl, h_ini_Jx4a65c, ⟨⟨by decide, by decide⟩, by decide +kernel⟩⟩
theorem biJx4a65c_grow_d5877 : Cond.instanceMethod yJx4a65c_grow_d5877 ∈ WS ∧ Cond.selects RJx4a65c yJx4a65c_grow_d5877 yJx4a65c_grow_d5877 ∈ WS := ⟨ws_of 324 (by decide +kernel), ws_of 2 (by decide +kernel)⟩
theorem k_Jx4a65c_129 : KV RJx4a65c 129 yJx4a65c_grow_d5877 cJx4a65c_grow_d5877 1 (some (.array (.object "java/lang/Object"))) 0 := ⟨bJx4a65c_grow_d5877, ws_of 322 (by decide +kernel), biJx4a65c_grow_d5877.1, biJx4a65c_grow_d5877.2⟩
set_option maxRecDepth 100000 in
theorem bJx4a65c_grow_92f84 {own : String} {idx : Nat} : KB own idx yJx4a65c_grow_92f84 cJx4a65c_grow_92f84 4 (some (.array (.object "java/lang/Object"))) 1 := ⟨aw_mem_ws (i := 329) rfl rfl, h_ini_Jx4a65c, ⟨⟨by decide, by decide⟩, by decide +kernel⟩⟩
theorem biJx4a65c_grow_92f84 : Cond.instanceMethod yJx4a65c_grow_92f84 ∈ WS ∧ Cond.selects RJx4a65c yJx4a65c_grow_92f84 yJx4a65c_grow_92f84 ∈ WS := ⟨ws_of 328 (by decide +kernel), ws_of 3 (by decide +kernel)⟩
theorem k_Jx4a65c_69 : KV RJx4a65c 69 yJx4a65c_grow_92f84 cJx4a65c_grow_92f84 4 (some (.array (.object "java/lang/Object"))) 1 := ⟨bJx4a65c_grow_92f84, ws_of 326 (by decide +kernel), biJx4a65c_grow_92f84.1, biJx4a65c_grow_92f84.2⟩
set_option maxRecDepth 100000 in
theorem bJ8_newLength_cabcc {own : String} {idx : Nat} : KB own idx yJ8_newLength_cabcc cJ8_newLength_cabcc 4 (some .int) 3 := ⟨aw_mem_ws (i := 332) rfl rfl, h_ini_J8, ⟨⟨by decide, by decide⟩, by decide +kernel⟩⟩
theorem bsJ8_newLength_cabcc : Cond.static yJ8_newLength_cabcc ∈ WS := ws_of 331 (by decide +kernel)
theorem k_Jx4a65c_73 : KS RJx4a65c 73 yJ8_newLength_cabcc cJ8_newLength_cabcc 4 (some .int) 3 := ⟨bJ8_newLength_cabcc, ws_of 330 (by decide +kernel), bsJ8_newLength_cabcc⟩
set_option maxRecDepth 100000 in
theorem bJ9_max_7cf53 {own : String} {idx : Nat} : KB own idx yJ9_max_7cf53 cJ9_max_7cf53 2 (some .int) 2 := ⟨aw_mem_ws (i := 335) rfl rfl, h_ini_J9, ⟨⟨by decide, by decide⟩, by decide +kernel⟩⟩
theorem bsJ9_max_7cf53 : Cond.static yJ9_max_7cf53 ∈ WS := ws_of 334 (by decide +kernel)
theorem k_J8_194 : KS RJ8 194 yJ9_max_7cf53 cJ9_max_7cf53 2 (some .int) 2 := ⟨bJ9_max_7cf53, ws_of 333 (by decide +kernel), bsJ9_max_7cf53⟩
set_option maxRecDepth 100000 in
theorem bJ8_hugeLength_7cf53 {own : String} {idx : Nat} : KB own idx yJ8_hugeLength_7cf53 cJ8_hugeLength_7cf53 3 (some .int) 2 := ⟨aw_mem_ws (i := 339) rfl rfl, h_ini_J8, ⟨⟨by decide, by decide⟩, by decide +kernel⟩⟩
theorem bsJ8_hugeLength_7cf53 : Cond.static yJ8_hugeLength_7cf53 ∈ WS := ws_of 338 (by decide +kernel)
theorem k_J8_201 : KS RJ8 201 yJ8_hugeLength_7cf53 cJ8_hugeLength_7cf53 3 (some .int) 2 := ⟨bJ8_hugeLength_7cf53, ws_of 337 (by decide +kernel), bsJ8_hugeLength_7cf53⟩
set_option maxRecDepth 100000 in
theorem bJ7_copyOf_1904c {own : String} {idx : Nat} : KB own idx yJ7_copyOf_1904c cJ7_copyOf_1904c 2 (some (.array (.object "java/lang/Object"))) 2 := ⟨aw_mem_ws (i := 342) rfl rfl, h_ini_J7, ⟨⟨by decide, by decide⟩, by decide +kernel⟩⟩
theorem bsJ7_copyOf_1904c : Cond.static yJ7_copyOf_1904c ∈ WS := ws_of 341 (by decide +kernel)
theorem k_Jx4a65c_66 : KS RJx4a65c 66 yJ7_copyOf_1904c cJ7_copyOf_1904c 2 (some (.array (.object "java/lang/Object"))) 2 := ⟨bJ7_copyOf_1904c, ws_of 340 (by decide +kernel), bsJ7_copyOf_1904c⟩
set_option maxRecDepth 100000 in
theorem bJ7_copyOf_6403c {own : String} {idx : Nat} : KB own idx yJ7_copyOf_6403c cJ7_copyOf_6403c 4 (some (.array (.object "java/lang/Object"))) 3 := ⟨aw_mem_ws (i := 364) rfl rfl, h_ini_J7, ⟨⟨by decide, by decide⟩, by decide +kernel⟩⟩
theorem bsJ7_copyOf_6403c : Cond.static yJ7_copyOf_6403c ∈ WS := ws_of 363 (by decide +kernel)
theorem k_J7_300 : KS RJ7 300 yJ7_copyOf_6403c cJ7_copyOf_6403c 4 (some (.array (.object "java/lang/Object"))) 3 := ⟨bJ7_copyOf_6403c, ws_of 362 (by decide +kernel), bsJ7_copyOf_6403c⟩
set_option maxRecDepth 100000 in
theorem bJ9_min_7cf53 {own : String} {idx : Nat} : KB own idx yJ9_min_7cf53 cJ9_min_7cf53 2 (some .int) 2 := ⟨aw_mem_ws (i := 370) rfl rfl, h_ini_J9, ⟨⟨by decide, by decide⟩, by decide +kernel⟩⟩
theorem bsJ9_min_7cf53 : Cond.static yJ9_min_7cf53 ∈ WS := ws_of 369 (by decide +kernel)
theorem k_J7_304 : KS RJ7 304 yJ9_min_7cf53 cJ9_min_7cf53 2 (some .int) 2 := ⟨bJ9_min_7cf53, ws_of 368 (by decide +kernel), bsJ9_min_7cf53⟩
theorem k_Jx4a65c_79 : KS RJx4a65c 79 yJ9_max_7cf53 cJ9_max_7cf53 2 (some .int) 2 := ⟨bJ9_max_7cf53, ws_of 374 (by decide +kernel), bsJ9_max_7cf53⟩
set_option maxRecDepth 100000 in
theorem bX8_child {own : String} {idx : Nat} : KB own idx yX8_child cX8_child 5 (some .int) 2 := ⟨aw_mem_ws (i := 383) rfl rfl, h_ini_X8, ⟨⟨by decide, by decide⟩, by decide +kernel⟩⟩
theorem biX8_child : Cond.instanceMethod yX8_child ∈ WS ∧ Cond.selects RX8 yX8_child yX8_child ∈ WS := ⟨ws_of 381 (by decide +kernel), ws_of 382 (by decide +kernel)⟩
theorem k_L_17 : KV RL 17 yX8_child cX8_child 5 (some .int) 2 := ⟨bX8_child, ws_of 380 (by decide +kernel), biX8_child.1, biX8_child.2⟩
set_option maxRecDepth 100000 in
theorem bX8_personAt {own : String} {idx : Nat} : KB own idx yX8_personAt cX8_personAt 2 (some (.object "DeedProtocol$Person")) 1 := ⟨aw_mem_ws (i := 387) rfl rfl, h_ini_X8, ⟨⟨by decide, by decide⟩, by decide +kernel⟩⟩
theorem biX8_personAt : Cond.instanceMethod yX8_personAt ∈ WS ∧ Cond.selects RX8 yX8_personAt yX8_personAt ∈ WS := ⟨ws_of 386 (by decide +kernel), ws_of 4 (by decide +kernel)⟩
theorem k_X8_71 : KV RX8 71 yX8_personAt cX8_personAt 2 (some (.object "DeedProtocol$Person")) 1 := ⟨bX8_personAt, ws_of 384 (by decide +kernel), biX8_personAt.1, biX8_personAt.2⟩
set_option maxRecDepth 100000 in
theorem bJx4a65c_get_915e3 {own : String} {idx : Nat} : KB own idx yJx4a65c_get_915e3 cJx4a65c_get_915e3 2 (some (.object "java/lang/Object")) 1 := ⟨aw_mem_ws (i := 407) rfl rfl, h_ini_Jx4a65c, ⟨⟨by decide, by decide⟩, by decide +kernel⟩⟩
theorem biJx4a65c_get_915e3 : Cond.instanceMethod yJx4a65c_get_915e3 ∈ WS ∧ Cond.selects RJx4a65c yJx4a65c_get_915e3 yJx4a65c_get_915e3 ∈ WS := ⟨ws_of 405 (by decide +kernel), ws_of 406 (by decide +kernel)⟩
theorem k_X8_355 : KV RX8 355 yJx4a65c_get_915e3 cJx4a65c_get_915e3 2 (some (.object "java/lang/Object")) 1 := ⟨bJx4a65c_get_915e3, ws_of 404 (by decide +kernel), biJx4a65c_get_915e3.1, biJx4a65c_get_915e3.2⟩
set_option maxRecDepth 100000 in
theorem bJ15_checkIndex_7cf53 {own : String} {idx : Nat} : KB own idx yJ15_checkIndex_7cf53 cJ15_checkIndex_7cf53 2 (some .int) 2 := ⟨aw_mem_ws (i := 410) rfl rfl, h_ini_J15, ⟨⟨by decide, by decide⟩, by decide +kernel⟩⟩
theorem bsJ15_checkIndex_7cf53 : Cond.static yJ15_checkIndex_7cf53 ∈ WS := ws_of 409 (by decide +kernel)
theorem k_Jx4a65c_118 : KS RJx4a65c 118 yJ15_checkIndex_7cf53 cJ15_checkIndex_7cf53 2 (some .int) 2 := ⟨bJ15_checkIndex_7cf53, ws_of 408 (by decide +kernel), bsJ15_checkIndex_7cf53⟩
set_option maxRecDepth 100000 in
theorem bJ3_checkIndex_8e157 {own : String} {idx : Nat} : KB own idx yJ3_checkIndex_8e157 cJ3_checkIndex_8e157 3 (some .int) 3 := ⟨aw_mem_ws (i := 413) rfl rfl, h_ini_J3, ⟨⟨by decide, by decide⟩, by decide +kernel⟩⟩
theorem bsJ3_checkIndex_8e157 : Cond.static yJ3_checkIndex_8e157 ∈ WS := ws_of 412 (by decide +kernel)
theorem k_J15_105 : KS RJ15 105 yJ3_checkIndex_8e157 cJ3_checkIndex_8e157 3 (some .int) 3 := ⟨bJ3_checkIndex_8e157, ws_of 411 (by decide +kernel), bsJ3_checkIndex_8e157⟩
set_option maxRecDepth 100000 in
theorem bJx4a65c_elementData_915e3 {own : String} {idx : Nat} : KB own idx yJx4a65c_elementData_915e3 cJx4a65c_elementData_915e3 2 (some (.object "java/lang/Object")) 1 := ⟨aw_mem_ws (i := 417) rfl rfl, h_ini_Jx4a65c, ⟨⟨by decide, by decide⟩, by decide +kernel⟩⟩
theorem biJx4a65c_elementData_915e3 : Cond.instanceMethod yJx4a65c_elementData_915e3 ∈ WS ∧ Cond.selects RJx4a65c yJx4a65c_elementData_915e3 yJx4a65c_elementData_915e3 ∈ WS := ⟨ws_of 415 (by decide +kernel), ws_of 416 (by decide +kernel)⟩
theorem k_Jx4a65c_123 : KV RJx4a65c 123 yJx4a65c_elementData_915e3 cJx4a65c_elementData_915e3 2 (some (.object "java/lang/Object")) 1 := ⟨bJx4a65c_elementData_915e3, ws_of 414 (by decide +kernel), biJx4a65c_elementData_915e3.1, biJx4a65c_elementData_915e3.2⟩
set_option maxRecDepth 100000 in
theorem bX5_parentCount {own : String} {idx : Nat} : KB own idx yX5_parentCount cX5_parentCount 1 (some .int) 0 := ⟨aw_mem_ws (i := 422) rfl rfl, h_ini_X5, ⟨⟨by decide, by decide⟩, by decide +kernel⟩⟩
theorem biX5_parentCount : Cond.instanceMethod yX5_parentCount ∈ WS ∧ Cond.selects RX5 yX5_parentCount yX5_parentCount ∈ WS := ⟨ws_of 421 (by decide +kernel), ws_of 5 (by decide +kernel)⟩
theorem k_X8_77 : KVN RX8 77 yX5_parentCount cX5_parentCount 1 (some .int) 0 := ⟨bX5_parentCount, ⟨"DeedProtocol", ws_of 419 (by decide +kernel)⟩, biX5_parentCount.1, biX5_parentCount.2⟩
set_option maxRecDepth 100000 in
theorem bJ6_bitCount_0f7a4 {own : String} {idx : Nat} : KB own idx yJ6_bitCount_0f7a4 cJ6_bitCount_0f7a4 1 (some .int) 1 := ⟨aw_mem_ws (i := 425) rfl rfl, h_ini_J6, ⟨⟨by decide, by decide⟩, by decide +kernel⟩⟩
theorem bsJ6_bitCount_0f7a4 : Cond.static yJ6_bitCount_0f7a4 ∈ WS := ws_of 424 (by decide +kernel)
theorem k_X5_35 : KS RX5 35 yJ6_bitCount_0f7a4 cJ6_bitCount_0f7a4 1 (some .int) 1 := ⟨bJ6_bitCount_0f7a4, ws_of 423 (by decide +kernel), bsJ6_bitCount_0f7a4⟩
set_option maxRecDepth 100000 in
theorem bX5_isChildOf {own : String} {idx : Nat} : KB own idx yX5_isChildOf cX5_isChildOf 2 (some .boolean) 1 := ⟨aw_mem_ws (i := 432) rfl rfl, h_ini_X5, ⟨⟨by decide, by decide⟩, by decide +kernel⟩⟩
theorem biX5_isChildOf : Cond.instanceMethod yX5_isChildOf ∈ WS ∧ Cond.selects RX5 yX5_isChildOf yX5_isChildOf ∈ WS := ⟨ws_of 431 (by decide +kernel), ws_of 6 (by decide +kernel)⟩
theorem k_X8_80 : KVN RX8 80 yX5_isChildOf cX5_isChildOf 2 (some .boolean) 1 := ⟨bX5_isChildOf, ⟨"DeedProtocol", ws_of 429 (by decide +kernel)⟩, biX5_isChildOf.1, biX5_isChildOf.2⟩
set_option maxRecDepth 100000 in
theorem bX8_refuseDead {own : String} {idx : Nat} : KB own idx yX8_refuseDead cX8_refuseDead 2 none 2 := ⟨aw_mem_ws (i := 436) rfl rfl, h_ini_X8, ⟨⟨by decide, by decide⟩, by decide +kernel⟩⟩
theorem bsX8_refuseDead : Cond.static yX8_refuseDead ∈ WS := ws_of 435 (by decide +kernel)
theorem k_X8_86 : KS RX8 86 yX8_refuseDead cX8_refuseDead 2 none 2 := ⟨bX8_refuseDead, ws_of 434 (by decide +kernel), bsX8_refuseDead⟩
set_option maxRecDepth 100000 in
theorem bX5_addParent {own : String} {idx : Nat} : KB own idx yX5_addParent cX5_addParent 2 none 1 := ⟨aw_mem_ws (i := 441) rfl rfl, h_ini_X5, ⟨⟨by decide, by decide⟩, by decide +kernel⟩⟩
theorem biX5_addParent : Cond.instanceMethod yX5_addParent ∈ WS ∧ Cond.selects RX5 yX5_addParent yX5_addParent ∈ WS := ⟨ws_of 440 (by decide +kernel), ws_of 7 (by decide +kernel)⟩
theorem k_X8_90 : KVN RX8 90 yX5_addParent cX5_addParent 2 none 1 := ⟨bX5_addParent, ⟨"DeedProtocol", ws_of 438 (by decide +kernel)⟩, biX5_addParent.1, biX5_addParent.2⟩
set_option maxRecDepth 100000 in
theorem bX8_guard {own : String} {idx : Nat} : KB own idx yX8_guard cX8_guard 6 (some .int) 2 := ⟨aw_mem_ws (i := 448) rfl rfl, h_ini_X8, ⟨⟨by decide, by decide⟩, by decide +kernel⟩⟩
theorem biX8_guard : Cond.instanceMethod yX8_guard ∈ WS ∧ Cond.selects RX8 yX8_guard yX8_guard ∈ WS := ⟨ws_of 446 (by decide +kernel), ws_of 447 (by decide +kernel)⟩
theorem k_L_23 : KV RL 23 yX8_guard cX8_guard 6 (some .int) 2 := ⟨bX8_guard, ws_of 445 (by decide +kernel), biX8_guard.1, biX8_guard.2⟩
set_option maxRecDepth 100000 in
theorem bX8_thing {own : String} {idx : Nat} : KB own idx yX8_thing cX8_thing 5 (some .int) 2 := ⟨aw_mem_ws (i := 456) rfl rfl, h_ini_X8, ⟨⟨by decide, by decide⟩, by decide +kernel⟩⟩
theorem biX8_thing : Cond.instanceMethod yX8_thing ∈ WS ∧ Cond.selects RX8 yX8_thing yX8_thing ∈ WS := ⟨ws_of 454 (by decide +kernel), ws_of 455 (by decide +kernel)⟩
theorem k_L_26 : KV RL 26 yX8_thing cX8_thing 5 (some .int) 2 := ⟨bX8_thing, ws_of 453 (by decide +kernel), biX8_thing.1, biX8_thing.2⟩
set_option maxRecDepth 100000 in
theorem bX7_init {own : String} {idx : Nat} : KB own idx yX7_init cX7_init 4 none 3 := ⟨aw_mem_ws (i := 464) rfl rfl, h_ini_X7, ⟨⟨by decide, by decide⟩, by decide +kernel⟩⟩
theorem biX7_init : Cond.instanceMethod yX7_init ∈ WS := ws_of 463 (by decide +kernel)
theorem k_X8_113 : KIN RX8 113 yX7_init cX7_init 4 3 := ⟨bX7_init, ⟨"DeedProtocol", ws_of 462 (by decide +kernel)⟩, rfl, biX7_init⟩
theorem k_X7_9 : KIN RX7 9 yX6_init cX6_init 1 0 := ⟨bX6_init, ⟨"DeedProtocol", ws_of 467 (by decide +kernel)⟩, rfl, biX6_init⟩
set_option maxRecDepth 100000 in
theorem bX6_startWith {own : String} {idx : Nat} : KB own idx yX6_startWith cX6_startWith 3 none 1 := ⟨aw_mem_ws (i := 471) rfl rfl, h_ini_X6, ⟨⟨by decide, by decide⟩, by decide +kernel⟩⟩
theorem biX6_startWith : Cond.instanceMethod yX6_startWith ∈ WS ∧ Cond.selects RX6 yX6_startWith yX6_startWith ∈ WS := ⟨ws_of 470 (by decide +kernel), ws_of 8 (by decide +kernel)⟩
theorem k_X7_26 : KVN RX7 26 yX6_startWith cX6_startWith 3 none 1 := ⟨bX6_startWith, ⟨"DeedProtocol", ws_of 468 (by decide +kernel)⟩, biX6_startWith.1, biX6_startWith.2⟩
set_option maxRecDepth 100000 in
theorem bX8_isAble {own : String} {idx : Nat} : KB own idx yX8_isAble cX8_isAble 2 (some .boolean) 1 := ⟨aw_mem_ws (i := 495) rfl rfl, h_ini_X8, ⟨⟨by decide, by decide⟩, by decide +kernel⟩⟩
theorem biX8_isAble : Cond.instanceMethod yX8_isAble ∈ WS ∧ Cond.selects RX8 yX8_isAble yX8_isAble ∈ WS := ⟨ws_of 493 (by decide +kernel), ws_of 494 (by decide +kernel)⟩
theorem k_L_29 : KV RL 29 yX8_isAble cX8_isAble 2 (some .boolean) 1 := ⟨bX8_isAble, ws_of 492 (by decide +kernel), biX8_isAble.1, biX8_isAble.2⟩
set_option maxRecDepth 100000 in
theorem bX5_isAbleOn {own : String} {idx : Nat} : KB own idx yX5_isAbleOn cX5_isAbleOn 3 (some .boolean) 1 := ⟨aw_mem_ws (i := 499) rfl rfl, h_ini_X5, ⟨⟨by decide, by decide⟩, by decide +kernel⟩⟩
theorem biX5_isAbleOn : Cond.instanceMethod yX5_isAbleOn ∈ WS ∧ Cond.selects RX5 yX5_isAbleOn yX5_isAbleOn ∈ WS := ⟨ws_of 498 (by decide +kernel), ws_of 9 (by decide +kernel)⟩
theorem k_X8_117 : KVN RX8 117 yX5_isAbleOn cX5_isAbleOn 3 (some .boolean) 1 := ⟨bX5_isAbleOn, ⟨"DeedProtocol", ws_of 496 (by decide +kernel)⟩, biX5_isAbleOn.1, biX5_isAbleOn.2⟩
set_option maxRecDepth 100000 in
theorem bX8_draft {own : String} {idx : Nat} : KB own idx yX8_draft cX8_draft 10 (some .int) 6 := ⟨aw_mem_ws (i := 506) rfl rfl, h_ini_X8, ⟨⟨by decide, by decide⟩, by decide +kernel⟩⟩
theorem biX8_draft : Cond.instanceMethod yX8_draft ∈ WS ∧ Cond.selects RX8 yX8_draft yX8_draft ∈ WS := ⟨ws_of 504 (by decide +kernel), ws_of 505 (by decide +kernel)⟩
theorem k_L_33 : KV RL 33 yX8_draft cX8_draft 10 (some .int) 6 := ⟨bX8_draft, ws_of 503 (by decide +kernel), biX8_draft.1, biX8_draft.2⟩
set_option maxRecDepth 100000 in
theorem bX8_thingAt {own : String} {idx : Nat} : KB own idx yX8_thingAt cX8_thingAt 2 (some (.object "DeedProtocol$Thing")) 1 := ⟨aw_mem_ws (i := 510) rfl rfl, h_ini_X8, ⟨⟨by decide, by decide⟩, by decide +kernel⟩⟩
theorem biX8_thingAt : Cond.instanceMethod yX8_thingAt ∈ WS ∧ Cond.selects RX8 yX8_thingAt yX8_thingAt ∈ WS := ⟨ws_of 509 (by decide +kernel), ws_of 10 (by decide +kernel)⟩
theorem k_X8_121 : KV RX8 121 yX8_thingAt cX8_thingAt 2 (some (.object "DeedProtocol$Thing")) 1 := ⟨bX8_thingAt, ws_of 507 (by decide +kernel), biX8_thingAt.1, biX8_thingAt.2⟩
set_option maxRecDepth 100000 in
theorem bX8_isOfThing {own : String} {idx : Nat} : KB own idx yX8_isOfThing cX8_isOfThing 1 (some .boolean) 1 := ⟨aw_mem_ws (i := 514) rfl rfl, h_ini_X8, ⟨⟨by decide, by decide⟩, by decide +kernel⟩⟩
theorem bsX8_isOfThing : Cond.static yX8_isOfThing ∈ WS := ws_of 513 (by decide +kernel)
theorem k_X8_125 : KS RX8 125 yX8_isOfThing cX8_isOfThing 1 (some .boolean) 1 := ⟨bX8_isOfThing, ws_of 512 (by decide +kernel), bsX8_isOfThing⟩
set_option maxRecDepth 100000 in
theorem bX8_isPart {own : String} {idx : Nat} : KB own idx yX8_isPart cX8_isPart 2 (some .boolean) 2 := ⟨aw_mem_ws (i := 517) rfl rfl, h_ini_X8, ⟨⟨by decide, by decide⟩, by decide +kernel⟩⟩
theorem bsX8_isPart : Cond.static yX8_isPart ∈ WS := ws_of 516 (by decide +kernel)
theorem k_X8_128 : KS RX8 128 yX8_isPart cX8_isPart 2 (some .boolean) 2 := ⟨bX8_isPart, ws_of 515 (by decide +kernel), bsX8_isPart⟩
set_option maxRecDepth 100000 in
theorem bX8_refuseNewDeed {own : String} {idx : Nat} : KB own idx yX8_refuseNewDeed cX8_refuseNewDeed 3 none 2 := ⟨aw_mem_ws (i := 522) rfl rfl, h_ini_X8, ⟨⟨by decide, by decide⟩, by decide +kernel⟩⟩
theorem biX8_refuseNewDeed : Cond.instanceMethod yX8_refuseNewDeed ∈ WS ∧ Cond.selects RX8 yX8_refuseNewDeed yX8_refuseNewDeed ∈ WS := ⟨ws_of 521 (by decide +kernel), ws_of 11 (by decide +kernel)⟩
theorem k_X8_134 : KV RX8 134 yX8_refuseNewDeed cX8_refuseNewDeed 3 none 2 := ⟨bX8_refuseNewDeed, ws_of 519 (by decide +kernel), biX8_refuseNewDeed.1, biX8_refuseNewDeed.2⟩
set_option maxRecDepth 100000 in
theorem bX0_init {own : String} {idx : Nat} : KB own idx yX0_init cX0_init 8 none 7 := ⟨aw_mem_ws (i := 528) rfl rfl, h_ini_X0, ⟨⟨by decide, by decide⟩, by decide +kernel⟩⟩
theorem biX0_init : Cond.instanceMethod yX0_init ∈ WS := ws_of 527 (by decide +kernel)
theorem k_X8_139 : KIN RX8 139 yX0_init cX0_init 8 7 := ⟨bX0_init, ⟨"DeedProtocol", ws_of 526 (by decide +kernel)⟩, rfl, biX0_init⟩
set_option maxRecDepth 100000 in
theorem bX4_init {own : String} {idx : Nat} : KB own idx yX4_init cX4_init 1 none 0 := ⟨aw_mem_ws (i := 534) rfl rfl, h_ini_X4, ⟨⟨by decide, by decide⟩, by decide +kernel⟩⟩
theorem biX4_init : Cond.instanceMethod yX4_init ∈ WS := ws_of 533 (by decide +kernel)
theorem k_X0_11 : KIN RX0 11 yX4_init cX4_init 1 0 := ⟨bX4_init, ⟨"DeedProtocol", ws_of 532 (by decide +kernel)⟩, rfl, biX4_init⟩
set_option maxRecDepth 100000 in
theorem bX8_keepDeed {own : String} {idx : Nat} : KB own idx yX8_keepDeed cX8_keepDeed 2 (some .int) 1 := ⟨aw_mem_ws (i := 608) rfl rfl, h_ini_X8, ⟨⟨by decide, by decide⟩, by decide +kernel⟩⟩
theorem biX8_keepDeed : Cond.instanceMethod yX8_keepDeed ∈ WS ∧ Cond.selects RX8 yX8_keepDeed yX8_keepDeed ∈ WS := ⟨ws_of 607 (by decide +kernel), ws_of 12 (by decide +kernel)⟩
theorem k_X8_142 : KV RX8 142 yX8_keepDeed cX8_keepDeed 2 (some .int) 1 := ⟨bX8_keepDeed, ws_of 605 (by decide +kernel), biX8_keepDeed.1, biX8_keepDeed.2⟩
set_option maxRecDepth 100000 in
theorem bX8_power {own : String} {idx : Nat} : KB own idx yX8_power cX8_power 10 (some .int) 5 := ⟨aw_mem_ws (i := 615) rfl rfl, h_ini_X8, ⟨⟨by decide, by decide⟩, by decide +kernel⟩⟩
theorem biX8_power : Cond.instanceMethod yX8_power ∈ WS ∧ Cond.selects RX8 yX8_power yX8_power ∈ WS := ⟨ws_of 613 (by decide +kernel), ws_of 614 (by decide +kernel)⟩
theorem k_L_37 : KV RL 37 yX8_power cX8_power 10 (some .int) 5 := ⟨bX8_power, ws_of 612 (by decide +kernel), biX8_power.1, biX8_power.2⟩
set_option maxRecDepth 100000 in
theorem bX2_init {own : String} {idx : Nat} : KB own idx yX2_init cX2_init 3 none 2 := ⟨aw_mem_ws (i := 621) rfl rfl, h_ini_X2, ⟨⟨by decide, by decide⟩, by decide +kernel⟩⟩
theorem biX2_init : Cond.instanceMethod yX2_init ∈ WS := ws_of 620 (by decide +kernel)
theorem k_X8_150 : KIN RX8 150 yX2_init cX2_init 3 2 := ⟨bX2_init, ⟨"DeedProtocol", ws_of 619 (by decide +kernel)⟩, rfl, biX2_init⟩
set_option maxRecDepth 100000 in
theorem bX8_will {own : String} {idx : Nat} : KB own idx yX8_will cX8_will 7 (some .int) 4 := ⟨aw_mem_ws (i := 650) rfl rfl, h_ini_X8, ⟨⟨by decide, by decide⟩, by decide +kernel⟩⟩
theorem biX8_will : Cond.instanceMethod yX8_will ∈ WS ∧ Cond.selects RX8 yX8_will yX8_will ∈ WS := ⟨ws_of 648 (by decide +kernel), ws_of 649 (by decide +kernel)⟩
theorem k_L_41 : KV RL 41 yX8_will cX8_will 7 (some .int) 4 := ⟨bX8_will, ws_of 647 (by decide +kernel), biX8_will.1, biX8_will.2⟩
set_option maxRecDepth 100000 in
theorem bX8_sign {own : String} {idx : Nat} : KB own idx yX8_sign cX8_sign 9 (some .int) 4 := ⟨aw_mem_ws (i := 658) rfl rfl, h_ini_X8, ⟨⟨by decide, by decide⟩, by decide +kernel⟩⟩
theorem biX8_sign : Cond.instanceMethod yX8_sign ∈ WS ∧ Cond.selects RX8 yX8_sign yX8_sign ∈ WS := ⟨ws_of 656 (by decide +kernel), ws_of 657 (by decide +kernel)⟩
theorem k_L_45 : KV RL 45 yX8_sign cX8_sign 9 (some .int) 4 := ⟨bX8_sign, ws_of 655 (by decide +kernel), biX8_sign.1, biX8_sign.2⟩
set_option maxRecDepth 100000 in
theorem bX8_deedAt {own : String} {idx : Nat} : KB own idx yX8_deedAt cX8_deedAt 2 (some (.object "DeedProtocol$Deed")) 1 := ⟨aw_mem_ws (i := 662) rfl rfl, h_ini_X8, ⟨⟨by decide, by decide⟩, by decide +kernel⟩⟩
theorem biX8_deedAt : Cond.instanceMethod yX8_deedAt ∈ WS ∧ Cond.selects RX8 yX8_deedAt yX8_deedAt ∈ WS := ⟨ws_of 661 (by decide +kernel), ws_of 13 (by decide +kernel)⟩
theorem k_X8_159 : KV RX8 159 yX8_deedAt cX8_deedAt 2 (some (.object "DeedProtocol$Deed")) 1 := ⟨bX8_deedAt, ws_of 659 (by decide +kernel), biX8_deedAt.1, biX8_deedAt.2⟩
set_option maxRecDepth 100000 in
theorem bX8_refuseClosedOrHaving {own : String} {idx : Nat} : KB own idx yX8_refuseClosedOrHaving cX8_refuseClosedOrHaving 2 none 2 := ⟨aw_mem_ws (i := 666) rfl rfl, h_ini_X8, ⟨⟨by decide, by decide⟩, by decide +kernel⟩⟩
theorem bsX8_refuseClosedOrHaving : Cond.static yX8_refuseClosedOrHaving ∈ WS := ws_of 665 (by decide +kernel)
theorem k_X8_163 : KS RX8 163 yX8_refuseClosedOrHaving cX8_refuseClosedOrHaving 2 none 2 := ⟨bX8_refuseClosedOrHaving, ws_of 664 (by decide +kernel), bsX8_refuseClosedOrHaving⟩
set_option maxRecDepth 100000 in
theorem bX0_isClosed {own : String} {idx : Nat} : KB own idx yX0_isClosed cX0_isClosed 1 (some .boolean) 0 := ⟨aw_mem_ws (i := 670) rfl rfl, h_ini_X0, ⟨⟨by decide, by decide⟩, by decide +kernel⟩⟩
theorem biX0_isClosed : Cond.instanceMethod yX0_isClosed ∈ WS ∧ Cond.selects RX0 yX0_isClosed yX0_isClosed ∈ WS := ⟨ws_of 669 (by decide +kernel), ws_of 14 (by decide +kernel)⟩
theorem k_X8_186 : KVN RX8 186 yX0_isClosed cX0_isClosed 1 (some .boolean) 0 := ⟨bX0_isClosed, ⟨"DeedProtocol", ws_of 667 (by decide +kernel)⟩, biX0_isClosed.1, biX0_isClosed.2⟩
set_option maxRecDepth 100000 in
theorem bX0_hasAll {own : String} {idx : Nat} : KB own idx yX0_hasAll cX0_hasAll 2 (some .boolean) 1 := ⟨aw_mem_ws (i := 674) rfl rfl, h_ini_X0, ⟨⟨by decide, by decide⟩, by decide +kernel⟩⟩
theorem biX0_hasAll : Cond.instanceMethod yX0_hasAll ∈ WS ∧ Cond.selects RX0 yX0_hasAll yX0_hasAll ∈ WS := ⟨ws_of 673 (by decide +kernel), ws_of 15 (by decide +kernel)⟩
theorem k_X8_408 : KVN RX8 408 yX0_hasAll cX0_hasAll 2 (some .boolean) 1 := ⟨bX0_hasAll, ⟨"DeedProtocol", ws_of 671 (by decide +kernel)⟩, biX0_hasAll.1, biX0_hasAll.2⟩
set_option maxRecDepth 100000 in
theorem bX8_signsWithoutPower {own : String} {idx : Nat} : KB own idx yX8_signsWithoutPower cX8_signsWithoutPower 5 (some .boolean) 3 := ⟨aw_mem_ws (i := 679) rfl rfl, h_ini_X8, ⟨⟨by decide, by decide⟩, by decide +kernel⟩⟩
theorem biX8_signsWithoutPower : Cond.instanceMethod yX8_signsWithoutPower ∈ WS ∧ Cond.selects RX8 yX8_signsWithoutPower yX8_signsWithoutPower ∈ WS := ⟨ws_of 678 (by decide +kernel), ws_of 16 (by decide +kernel)⟩
theorem k_X8_167 : KV RX8 167 yX8_signsWithoutPower cX8_signsWithoutPower 5 (some .boolean) 3 := ⟨bX8_signsWithoutPower, ws_of 676 (by decide +kernel), biX8_signsWithoutPower.1, biX8_signsWithoutPower.2⟩
set_option maxRecDepth 100000 in
theorem bX0_side {own : String} {idx : Nat} : KB own idx yX0_side cX0_side 2 (some (.object "DeedProtocol$Person")) 1 := ⟨aw_mem_ws (i := 683) rfl rfl, h_ini_X0, ⟨⟨by decide, by decide⟩, by decide +kernel⟩⟩
theorem biX0_side : Cond.instanceMethod yX0_side ∈ WS ∧ Cond.selects RX0 yX0_side yX0_side ∈ WS := ⟨ws_of 682 (by decide +kernel), ws_of 17 (by decide +kernel)⟩
theorem k_X8_413 : KVN RX8 413 yX0_side cX0_side 2 (some (.object "DeedProtocol$Person")) 1 := ⟨bX0_side, ⟨"DeedProtocol", ws_of 680 (by decide +kernel)⟩, biX0_side.1, biX0_side.2⟩
set_option maxRecDepth 100000 in
theorem bX8_signsAsGuardian {own : String} {idx : Nat} : KB own idx yX8_signsAsGuardian cX8_signsAsGuardian 5 (some .boolean) 3 := ⟨aw_mem_ws (i := 687) rfl rfl, h_ini_X8, ⟨⟨by decide, by decide⟩, by decide +kernel⟩⟩
theorem biX8_signsAsGuardian : Cond.instanceMethod yX8_signsAsGuardian ∈ WS ∧ Cond.selects RX8 yX8_signsAsGuardian yX8_signsAsGuardian ∈ WS := ⟨ws_of 686 (by decide +kernel), ws_of 18 (by decide +kernel)⟩
theorem k_X8_417 : KV RX8 417 yX8_signsAsGuardian cX8_signsAsGuardian 5 (some .boolean) 3 := ⟨bX8_signsAsGuardian, ws_of 684 (by decide +kernel), biX8_signsAsGuardian.1, biX8_signsAsGuardian.2⟩
set_option maxRecDepth 100000 in
theorem bX8_signsByPower {own : String} {idx : Nat} : KB own idx yX8_signsByPower cX8_signsByPower 5 (some .boolean) 4 := ⟨aw_mem_ws (i := 691) rfl rfl, h_ini_X8, ⟨⟨by decide, by decide⟩, by decide +kernel⟩⟩
theorem biX8_signsByPower : Cond.instanceMethod yX8_signsByPower ∈ WS ∧ Cond.selects RX8 yX8_signsByPower yX8_signsByPower ∈ WS := ⟨ws_of 690 (by decide +kernel), ws_of 19 (by decide +kernel)⟩
theorem k_X8_174 : KV RX8 174 yX8_signsByPower cX8_signsByPower 5 (some .boolean) 4 := ⟨bX8_signsByPower, ws_of 688 (by decide +kernel), biX8_signsByPower.1, biX8_signsByPower.2⟩
set_option maxRecDepth 100000 in
theorem bX8_isGoodPower {own : String} {idx : Nat} : KB own idx yX8_isGoodPower cX8_isGoodPower 5 (some .boolean) 1 := ⟨aw_mem_ws (i := 695) rfl rfl, h_ini_X8, ⟨⟨by decide, by decide⟩, by decide +kernel⟩⟩
theorem biX8_isGoodPower : Cond.instanceMethod yX8_isGoodPower ∈ WS ∧ Cond.selects RX8 yX8_isGoodPower yX8_isGoodPower ∈ WS := ⟨ws_of 694 (by decide +kernel), ws_of 20 (by decide +kernel)⟩
theorem k_X8_277 : KV RX8 277 yX8_isGoodPower cX8_isGoodPower 5 (some .boolean) 1 := ⟨bX8_isGoodPower, ws_of 692 (by decide +kernel), biX8_isGoodPower.1, biX8_isGoodPower.2⟩
set_option maxRecDepth 100000 in
theorem bX8_isGoodByItself {own : String} {idx : Nat} : KB own idx yX8_isGoodByItself cX8_isGoodByItself 4 (some .boolean) 2 := ⟨aw_mem_ws (i := 699) rfl rfl, h_ini_X8, ⟨⟨by decide, by decide⟩, by decide +kernel⟩⟩
theorem biX8_isGoodByItself : Cond.instanceMethod yX8_isGoodByItself ∈ WS ∧ Cond.selects RX8 yX8_isGoodByItself yX8_isGoodByItself ∈ WS := ⟨ws_of 698 (by decide +kernel), ws_of 21 (by decide +kernel)⟩
theorem k_X8_430 : KV RX8 430 yX8_isGoodByItself cX8_isGoodByItself 4 (some .boolean) 2 := ⟨bX8_isGoodByItself, ws_of 696 (by decide +kernel), biX8_isGoodByItself.1, biX8_isGoodByItself.2⟩
theorem k_X8_440 : KS RX8 440 yJ9_min_7cf53 cJ9_min_7cf53 2 (some .int) 2 := ⟨bJ9_min_7cf53, ws_of 700 (by decide +kernel), bsJ9_min_7cf53⟩
set_option maxRecDepth 100000 in
theorem bX8_add {own : String} {idx : Nat} : KB own idx yX8_add cX8_add 4 (some .int) 2 := ⟨aw_mem_ws (i := 708) rfl rfl, h_ini_X8, ⟨⟨by decide, by decide⟩, by decide +kernel⟩⟩
theorem biX8_add : Cond.instanceMethod yX8_add ∈ WS ∧ Cond.selects RX8 yX8_add yX8_add ∈ WS := ⟨ws_of 706 (by decide +kernel), ws_of 707 (by decide +kernel)⟩
theorem k_L_49 : KV RL 49 yX8_add cX8_add 4 (some .int) 2 := ⟨bX8_add, ws_of 705 (by decide +kernel), biX8_add.1, biX8_add.2⟩
set_option maxRecDepth 100000 in
theorem bX8_witness {own : String} {idx : Nat} : KB own idx yX8_witness cX8_witness 5 (some .int) 2 := ⟨aw_mem_ws (i := 716) rfl rfl, h_ini_X8, ⟨⟨by decide, by decide⟩, by decide +kernel⟩⟩
theorem biX8_witness : Cond.instanceMethod yX8_witness ∈ WS ∧ Cond.selects RX8 yX8_witness yX8_witness ∈ WS := ⟨ws_of 714 (by decide +kernel), ws_of 715 (by decide +kernel)⟩
theorem k_L_52 : KV RL 52 yX8_witness cX8_witness 5 (some .int) 2 := ⟨bX8_witness, ws_of 713 (by decide +kernel), biX8_witness.1, biX8_witness.2⟩
set_option maxRecDepth 100000 in
theorem bX0_hasWitness {own : String} {idx : Nat} : KB own idx yX0_hasWitness cX0_hasWitness 2 (some .boolean) 1 := ⟨aw_mem_ws (i := 720) rfl rfl, h_ini_X0, ⟨⟨by decide, by decide⟩, by decide +kernel⟩⟩
theorem biX0_hasWitness : Cond.instanceMethod yX0_hasWitness ∈ WS ∧ Cond.selects RX0 yX0_hasWitness yX0_hasWitness ∈ WS := ⟨ws_of 719 (by decide +kernel), ws_of 22 (by decide +kernel)⟩
theorem k_X8_190 : KVN RX8 190 yX0_hasWitness cX0_hasWitness 2 (some .boolean) 1 := ⟨bX0_hasWitness, ⟨"DeedProtocol", ws_of 717 (by decide +kernel)⟩, biX0_hasWitness.1, biX0_hasWitness.2⟩
set_option maxRecDepth 100000 in
theorem bX8_canWitness {own : String} {idx : Nat} : KB own idx yX8_canWitness cX8_canWitness 3 (some .boolean) 2 := ⟨aw_mem_ws (i := 725) rfl rfl, h_ini_X8, ⟨⟨by decide, by decide⟩, by decide +kernel⟩⟩
theorem biX8_canWitness : Cond.instanceMethod yX8_canWitness ∈ WS ∧ Cond.selects RX8 yX8_canWitness yX8_canWitness ∈ WS := ⟨ws_of 724 (by decide +kernel), ws_of 23 (by decide +kernel)⟩
theorem k_X8_195 : KV RX8 195 yX8_canWitness cX8_canWitness 3 (some .boolean) 2 := ⟨bX8_canWitness, ws_of 722 (by decide +kernel), biX8_canWitness.1, biX8_canWitness.2⟩
set_option maxRecDepth 100000 in
theorem bX8_areParentAndChild {own : String} {idx : Nat} : KB own idx yX8_areParentAndChild cX8_areParentAndChild 2 (some .boolean) 2 := ⟨aw_mem_ws (i := 728) rfl rfl, h_ini_X8, ⟨⟨by decide, by decide⟩, by decide +kernel⟩⟩
theorem bsX8_areParentAndChild : Cond.static yX8_areParentAndChild ∈ WS := ws_of 727 (by decide +kernel)
theorem k_X8_420 : KS RX8 420 yX8_areParentAndChild cX8_areParentAndChild 2 (some .boolean) 2 := ⟨bX8_areParentAndChild, ws_of 726 (by decide +kernel), bsX8_areParentAndChild⟩
set_option maxRecDepth 100000 in
theorem bX0_addWitness {own : String} {idx : Nat} : KB own idx yX0_addWitness cX0_addWitness 2 none 1 := ⟨aw_mem_ws (i := 733) rfl rfl, h_ini_X0, ⟨⟨by decide, by decide⟩, by decide +kernel⟩⟩
theorem biX0_addWitness : Cond.instanceMethod yX0_addWitness ∈ WS ∧ Cond.selects RX0 yX0_addWitness yX0_addWitness ∈ WS := ⟨ws_of 732 (by decide +kernel), ws_of 24 (by decide +kernel)⟩
theorem k_X8_201 : KVN RX8 201 yX0_addWitness cX0_addWitness 2 none 1 := ⟨bX0_addWitness, ⟨"DeedProtocol", ws_of 730 (by decide +kernel)⟩, biX0_addWitness.1, biX0_addWitness.2⟩
theorem k_X0_67 : KS RX0 67 yJ6_bitCount_0f7a4 cJ6_bitCount_0f7a4 1 (some .int) 1 := ⟨bJ6_bitCount_0f7a4, ws_of 734 (by decide +kernel), bsJ6_bitCount_0f7a4⟩
set_option maxRecDepth 100000 in
theorem bX8_close {own : String} {idx : Nat} : KB own idx yX8_close cX8_close 3 (some .int) 1 := ⟨aw_mem_ws (i := 741) rfl rfl, h_ini_X8, ⟨⟨by decide, by decide⟩, by decide +kernel⟩⟩
theorem biX8_close : Cond.instanceMethod yX8_close ∈ WS ∧ Cond.selects RX8 yX8_close yX8_close ∈ WS := ⟨ws_of 739 (by decide +kernel), ws_of 740 (by decide +kernel)⟩
theorem k_L_55 : KV RL 55 yX8_close cX8_close 3 (some .int) 1 := ⟨bX8_close, ws_of 738 (by decide +kernel), biX8_close.1, biX8_close.2⟩
set_option maxRecDepth 100000 in
theorem bX8_stateByParts {own : String} {idx : Nat} : KB own idx yX8_stateByParts cX8_stateByParts 2 (some .int) 1 := ⟨aw_mem_ws (i := 745) rfl rfl, h_ini_X8, ⟨⟨by decide, by decide⟩, by decide +kernel⟩⟩
theorem bsX8_stateByParts : Cond.static yX8_stateByParts ∈ WS := ws_of 744 (by decide +kernel)
theorem k_X8_218 : KS RX8 218 yX8_stateByParts cX8_stateByParts 2 (some .int) 1 := ⟨bX8_stateByParts, ws_of 743 (by decide +kernel), bsX8_stateByParts⟩
set_option maxRecDepth 100000 in
theorem bX8_neededParts {own : String} {idx : Nat} : KB own idx yX8_neededParts cX8_neededParts 3 (some .int) 1 := ⟨aw_mem_ws (i := 748) rfl rfl, h_ini_X8, ⟨⟨by decide, by decide⟩, by decide +kernel⟩⟩
theorem bsX8_neededParts : Cond.static yX8_neededParts ∈ WS := ws_of 747 (by decide +kernel)
theorem k_X8_424 : KS RX8 424 yX8_neededParts cX8_neededParts 3 (some .int) 1 := ⟨bX8_neededParts, ws_of 746 (by decide +kernel), bsX8_neededParts⟩
set_option maxRecDepth 100000 in
theorem bX4_append {own : String} {idx : Nat} : KB own idx yX4_append cX4_append 2 none 1 := ⟨aw_mem_ws (i := 752) rfl rfl, h_ini_X4, ⟨⟨by decide, by decide⟩, by decide +kernel⟩⟩
theorem biX4_append : Cond.instanceMethod yX4_append ∈ WS ∧ Cond.selects RX4 yX4_append yX4_append ∈ WS := ⟨ws_of 751 (by decide +kernel), ws_of 25 (by decide +kernel)⟩
theorem k_X8_228 : KVN RX8 228 yX4_append cX4_append 2 none 1 := ⟨bX4_append, ⟨"DeedProtocol", ws_of 749 (by decide +kernel)⟩, biX4_append.1, biX4_append.2⟩
set_option maxRecDepth 100000 in
theorem bX8_deed {own : String} {idx : Nat} : KB own idx yX8_deed cX8_deed 4 (some .int) 2 := ⟨aw_mem_ws (i := 759) rfl rfl, h_ini_X8, ⟨⟨by decide, by decide⟩, by decide +kernel⟩⟩
theorem biX8_deed : Cond.instanceMethod yX8_deed ∈ WS ∧ Cond.selects RX8 yX8_deed yX8_deed ∈ WS := ⟨ws_of 757 (by decide +kernel), ws_of 758 (by decide +kernel)⟩
theorem k_L_59 : KV RL 59 yX8_deed cX8_deed 4 (some .int) 2 := ⟨bX8_deed, ws_of 756 (by decide +kernel), biX8_deed.1, biX8_deed.2⟩
set_option maxRecDepth 100000 in
theorem bX8_label {own : String} {idx : Nat} : KB own idx yX8_label cX8_label 5 (some .char) 2 := ⟨aw_mem_ws (i := 767) rfl rfl, h_ini_X8, ⟨⟨by decide, by decide⟩, by decide +kernel⟩⟩
theorem biX8_label : Cond.instanceMethod yX8_label ∈ WS ∧ Cond.selects RX8 yX8_label yX8_label ∈ WS := ⟨ws_of 765 (by decide +kernel), ws_of 766 (by decide +kernel)⟩
theorem k_L_62 : KV RL 62 yX8_label cX8_label 5 (some .char) 2 := ⟨bX8_label, ws_of 764 (by decide +kernel), biX8_label.1, biX8_label.2⟩
set_option maxRecDepth 100000 in
theorem bJ4_init_da8c8 {own : String} {idx : Nat} : KB own idx yJ4_init_da8c8 cJ4_init_da8c8 1 none 0 := ⟨aw_mem_ws (i := 773) rfl rfl, h_ini_J4, ⟨⟨by decide, by decide⟩, by decide +kernel⟩⟩
theorem biJ4_init_da8c8 : Cond.instanceMethod yJ4_init_da8c8 ∈ WS := ws_of 772 (by decide +kernel)
theorem k_X8_249 : KI RX8 249 yJ4_init_da8c8 cJ4_init_da8c8 1 0 := ⟨bJ4_init_da8c8, ws_of 771 (by decide +kernel), rfl, biJ4_init_da8c8⟩
set_option maxRecDepth 100000 in
theorem bJ5_init_d00df {own : String} {idx : Nat} : KB own idx yJ5_init_d00df cJ5_init_d00df 2 none 1 := ⟨aw_mem_ws (i := 776) rfl rfl, h_ini_J5, ⟨⟨by decide, by decide⟩, by decide +kernel⟩⟩
theorem biJ5_init_d00df : Cond.instanceMethod yJ5_init_d00df ∈ WS := ws_of 775 (by decide +kernel)
theorem k_J4_1 : KI RJ4 1 yJ5_init_d00df cJ5_init_d00df 2 1 := ⟨bJ5_init_d00df, ws_of 774 (by decide +kernel), rfl, biJ5_init_d00df⟩
set_option maxRecDepth 100000 in
theorem bJ2_newBytesFor_77867 {own : String} {idx : Nat} : KB own idx yJ2_newBytesFor_77867 cJ2_newBytesFor_77867 1 (some (.array .byte)) 1 := ⟨aw_mem_ws (i := 782) rfl rfl, h_ini_J2, ⟨⟨by decide, by decide⟩, by decide +kernel⟩⟩
theorem bsJ2_newBytesFor_77867 : Cond.static yJ2_newBytesFor_77867 ∈ WS := ws_of 781 (by decide +kernel)
theorem k_J5_26 : KS RJ5 26 yJ2_newBytesFor_77867 cJ2_newBytesFor_77867 1 (some (.array .byte)) 1 := ⟨bJ2_newBytesFor_77867, ws_of 780 (by decide +kernel), bsJ2_newBytesFor_77867⟩
set_option maxRecDepth 100000 in
theorem bJ2_newBytesLength_0f7a4 {own : String} {idx : Nat} : KB own idx yJ2_newBytesLength_0f7a4 cJ2_newBytesLength_0f7a4 1 (some .int) 1 := ⟨aw_mem_ws (i := 785) rfl rfl, h_ini_J2, ⟨⟨by decide, by decide⟩, by decide +kernel⟩⟩
theorem bsJ2_newBytesLength_0f7a4 : Cond.static yJ2_newBytesLength_0f7a4 ∈ WS := ws_of 784 (by decide +kernel)
theorem k_J2_11 : KS RJ2 11 yJ2_newBytesLength_0f7a4 cJ2_newBytesLength_0f7a4 1 (some .int) 1 := ⟨bJ2_newBytesLength_0f7a4, ws_of 783 (by decide +kernel), bsJ2_newBytesLength_0f7a4⟩
set_option maxRecDepth 100000 in
theorem bX8_kindLetter {own : String} {idx : Nat} : KB own idx yX8_kindLetter cX8_kindLetter 1 (some .char) 1 := ⟨aw_mem_ws (i := 801) rfl rfl, h_ini_X8, ⟨⟨by decide, by decide⟩, by decide +kernel⟩⟩
theorem bsX8_kindLetter : Cond.static yX8_kindLetter ∈ WS := ws_of 800 (by decide +kernel)
theorem k_X8_250 : KS RX8 250 yX8_kindLetter cX8_kindLetter 1 (some .char) 1 := ⟨bX8_kindLetter, ws_of 799 (by decide +kernel), bsX8_kindLetter⟩
set_option maxRecDepth 100000 in
theorem bJ4_append_cf468 {own : String} {idx : Nat} : KB own idx yJ4_append_cf468 cJ4_append_cf468 2 (some (.object "java/lang/StringBuilder")) 1 := ⟨aw_mem_ws (i := 805) rfl rfl, h_ini_J4, ⟨⟨by decide, by decide⟩, by decide +kernel⟩⟩
theorem biJ4_append_cf468 : Cond.instanceMethod yJ4_append_cf468 ∈ WS ∧ Cond.selects RJ4 yJ4_append_cf468 yJ4_append_cf468 ∈ WS := ⟨ws_of 803 (by decide +kernel), ws_of 804 (by decide +kernel)⟩
theorem k_X8_254 : KV RX8 254 yJ4_append_cf468 cJ4_append_cf468 2 (some (.object "java/lang/StringBuilder")) 1 := ⟨bJ4_append_cf468, ws_of 802 (by decide +kernel), biJ4_append_cf468.1, biJ4_append_cf468.2⟩
set_option maxRecDepth 100000 in
theorem bJ5_append_3fe6f {own : String} {idx : Nat} : KB own idx yJ5_append_3fe6f cJ5_append_3fe6f 2 (some (.object "java/lang/AbstractStringBuilder")) 1 := ⟨aw_mem_ws (i := 808) rfl rfl, h_ini_J5, ⟨⟨by decide, by decide⟩, by decide +kernel⟩⟩
theorem biJ5_append_3fe6f : Cond.instanceMethod yJ5_append_3fe6f ∈ WS := ws_of 807 (by decide +kernel)
set_option maxRecDepth 100000 in
theorem bJ5_ensureCapacityInternal_d00df {own : String} {idx : Nat} : KB own idx yJ5_ensureCapacityInternal_d00df cJ5_ensureCapacityInternal_d00df 3 none 1 := ⟨aw_mem_ws (i := 812) rfl rfl, h_ini_J5, ⟨⟨by decide, by decide⟩, by decide +kernel⟩⟩
theorem biJ5_ensureCapacityInternal_d00df : Cond.instanceMethod yJ5_ensureCapacityInternal_d00df ∈ WS := ws_of 811 (by decide +kernel)
set_option maxRecDepth 100000 in
theorem bJ5_newCapacity_0f7a4 {own : String} {idx : Nat} : KB own idx yJ5_newCapacity_0f7a4 cJ5_newCapacity_0f7a4 6 (some .int) 1 := ⟨aw_mem_ws (i := 816) rfl rfl, h_ini_J5, ⟨⟨by decide, by decide⟩, by decide +kernel⟩⟩
theorem biJ5_newCapacity_0f7a4 : Cond.instanceMethod yJ5_newCapacity_0f7a4 ∈ WS := ws_of 815 (by decide +kernel)
theorem k_J5_114 : KS RJ5 114 yJ8_newLength_cabcc cJ8_newLength_cabcc 4 (some .int) 3 := ⟨bJ8_newLength_cabcc, ws_of 817 (by decide +kernel), bsJ8_newLength_cabcc⟩
set_option maxRecDepth 100000 in
theorem bJ7_copyOf_9075b {own : String} {idx : Nat} : KB own idx yJ7_copyOf_9075b cJ7_copyOf_9075b 3 (some (.array .byte)) 2 := ⟨aw_mem_ws (i := 821) rfl rfl, h_ini_J7, ⟨⟨by decide, by decide⟩, by decide +kernel⟩⟩
theorem bsJ7_copyOf_9075b : Cond.static yJ7_copyOf_9075b ∈ WS := ws_of 820 (by decide +kernel)
theorem k_J5_108 : KS RJ5 108 yJ7_copyOf_9075b cJ7_copyOf_9075b 3 (some (.array .byte)) 2 := ⟨bJ7_copyOf_9075b, ws_of 819 (by decide +kernel), bsJ7_copyOf_9075b⟩
set_option maxRecDepth 100000 in
theorem bJ5_isLatin1_aae02 {own : String} {idx : Nat} : KB own idx yJ5_isLatin1_aae02 cJ5_isLatin1_aae02 1 (some .boolean) 0 := ⟨aw_mem_ws (i := 833) rfl rfl, h_ini_J5, ⟨⟨by decide, by decide⟩, by decide +kernel⟩⟩
theorem biJ5_isLatin1_aae02 : Cond.instanceMethod yJ5_isLatin1_aae02 ∈ WS := ws_of 830 (by decide +kernel)
set_option maxRecDepth 100000 in
theorem bJ1_canEncode_fc78d {own : String} {idx : Nat} : KB own idx yJ1_canEncode_fc78d cJ1_canEncode_fc78d 1 (some .boolean) 1 := ⟨aw_mem_ws (i := 836) rfl rfl, h_ini_J1, ⟨⟨by decide, by decide⟩, by decide +kernel⟩⟩
theorem bsJ1_canEncode_fc78d : Cond.static yJ1_canEncode_fc78d ∈ WS := ws_of 835 (by decide +kernel)
theorem k_J5_191 : KS RJ5 191 yJ1_canEncode_fc78d cJ1_canEncode_fc78d 1 (some .boolean) 1 := ⟨bJ1_canEncode_fc78d, ws_of 834 (by decide +kernel), bsJ1_canEncode_fc78d⟩
set_option maxRecDepth 100000 in
theorem bJ5_inflate_da8c8 {own : String} {idx : Nat} : KB own idx yJ5_inflate_da8c8 cJ5_inflate_da8c8 2 none 0 := ⟨aw_mem_ws (i := 840) rfl rfl, h_ini_J5, ⟨⟨by decide, by decide⟩, by decide +kernel⟩⟩
theorem biJ5_inflate_da8c8 : Cond.instanceMethod yJ5_inflate_da8c8 ∈ WS := ws_of 839 (by decide +kernel)
set_option maxRecDepth 100000 in
theorem bJ1_inflate_0e8fd {own : String} {idx : Nat} : KB own idx yJ1_inflate_0e8fd cJ1_inflate_0e8fd 5 none 5 := ⟨aw_mem_ws (i := 843) rfl rfl, h_ini_J1, ⟨⟨by decide, by decide⟩, by decide +kernel⟩⟩
theorem bsJ1_inflate_0e8fd : Cond.static yJ1_inflate_0e8fd ∈ WS := ws_of 842 (by decide +kernel)
theorem k_J5_125 : KS RJ5 125 yJ1_inflate_0e8fd cJ1_inflate_0e8fd 5 none 5 := ⟨bJ1_inflate_0e8fd, ws_of 841 (by decide +kernel), bsJ1_inflate_0e8fd⟩
set_option maxRecDepth 100000 in
theorem bJ2_inflate_0e8fd {own : String} {idx : Nat} : KB own idx yJ2_inflate_0e8fd cJ2_inflate_0e8fd 6 none 5 := ⟨aw_mem_ws (i := 846) rfl rfl, h_ini_J2, ⟨⟨by decide, by decide⟩, by decide +kernel⟩⟩
theorem bsJ2_inflate_0e8fd : Cond.static yJ2_inflate_0e8fd ∈ WS := ws_of 845 (by decide +kernel)
theorem k_J1_240 : KS RJ1 240 yJ2_inflate_0e8fd cJ2_inflate_0e8fd 6 none 5 := ⟨bJ2_inflate_0e8fd, ws_of 844 (by decide +kernel), bsJ2_inflate_0e8fd⟩
set_option maxRecDepth 100000 in
theorem bJ2_checkBoundsOffCount_d044e {own : String} {idx : Nat} : KB own idx yJ2_checkBoundsOffCount_d044e cJ2_checkBoundsOffCount_d044e 3 none 3 := ⟨aw_mem_ws (i := 849) rfl rfl, h_ini_J2, ⟨⟨by decide, by decide⟩, by decide +kernel⟩⟩
theorem bsJ2_checkBoundsOffCount_d044e : Cond.static yJ2_checkBoundsOffCount_d044e ∈ WS := ws_of 848 (by decide +kernel)
theorem k_J2_173 : KS RJ2 173 yJ2_checkBoundsOffCount_d044e cJ2_checkBoundsOffCount_d044e 3 none 3 := ⟨bJ2_checkBoundsOffCount_d044e, ws_of 847 (by decide +kernel), bsJ2_checkBoundsOffCount_d044e⟩
set_option maxRecDepth 100000 in
theorem bJ2_length_9d52b {own : String} {idx : Nat} : KB own idx yJ2_length_9d52b cJ2_length_9d52b 1 (some .int) 1 := ⟨aw_mem_ws (i := 852) rfl rfl, h_ini_J2, ⟨⟨by decide, by decide⟩, by decide +kernel⟩⟩
theorem bsJ2_length_9d52b : Cond.static yJ2_length_9d52b ∈ WS := ws_of 851 (by decide +kernel)
theorem k_J2_48 : KS RJ2 48 yJ2_length_9d52b cJ2_length_9d52b 1 (some .int) 1 := ⟨bJ2_length_9d52b, ws_of 850 (by decide +kernel), bsJ2_length_9d52b⟩
set_option maxRecDepth 100000 in
theorem bJ0_checkBoundsOffCount_cabcc {own : String} {idx : Nat} : KB own idx yJ0_checkBoundsOffCount_cabcc cJ0_checkBoundsOffCount_cabcc 3 (some .int) 3 := ⟨aw_mem_ws (i := 855) rfl rfl, h_ini_J0, ⟨⟨by decide, by decide⟩, by decide +kernel⟩⟩
theorem bsJ0_checkBoundsOffCount_cabcc : Cond.static yJ0_checkBoundsOffCount_cabcc ∈ WS := ws_of 854 (by decide +kernel)
theorem k_J2_419 : KS RJ2 419 yJ0_checkBoundsOffCount_cabcc cJ0_checkBoundsOffCount_cabcc 3 (some .int) 3 := ⟨bJ0_checkBoundsOffCount_cabcc, ws_of 853 (by decide +kernel), bsJ0_checkBoundsOffCount_cabcc⟩
set_option maxRecDepth 100000 in
theorem bJ3_checkFromIndexSize_8c36e {own : String} {idx : Nat} : KB own idx yJ3_checkFromIndexSize_8c36e cJ3_checkFromIndexSize_8c36e 4 (some .int) 4 := ⟨aw_mem_ws (i := 860) rfl rfl, h_ini_J3, ⟨⟨by decide, by decide⟩, by decide +kernel⟩⟩
theorem bsJ3_checkFromIndexSize_8c36e : Cond.static yJ3_checkFromIndexSize_8c36e ∈ WS := ws_of 859 (by decide +kernel)
theorem k_J0_1065 : KS RJ0 1065 yJ3_checkFromIndexSize_8c36e cJ3_checkFromIndexSize_8c36e 4 (some .int) 4 := ⟨bJ3_checkFromIndexSize_8c36e, ws_of 858 (by decide +kernel), bsJ3_checkFromIndexSize_8c36e⟩
set_option maxRecDepth 100000 in
theorem bJ2_putChar_b72d1 {own : String} {idx : Nat} : KB own idx yJ2_putChar_b72d1 cJ2_putChar_b72d1 3 none 3 := ⟨aw_mem_ws (i := 863) rfl rfl, h_ini_J2, ⟨⟨by decide, by decide⟩, by decide +kernel⟩⟩
theorem bsJ2_putChar_b72d1 : Cond.static yJ2_putChar_b72d1 ∈ WS := ws_of 862 (by decide +kernel)
theorem k_J2_111 : KS RJ2 111 yJ2_putChar_b72d1 cJ2_putChar_b72d1 3 none 3 := ⟨bJ2_putChar_b72d1, ws_of 861 (by decide +kernel), bsJ2_putChar_b72d1⟩
set_option maxRecDepth 100000 in
theorem bJ2_putCharSB_b72d1 {own : String} {idx : Nat} : KB own idx yJ2_putCharSB_b72d1 cJ2_putCharSB_b72d1 3 none 3 := ⟨aw_mem_ws (i := 872) rfl rfl, h_ini_J2, ⟨⟨by decide, by decide⟩, by decide +kernel⟩⟩
theorem bsJ2_putCharSB_b72d1 : Cond.static yJ2_putCharSB_b72d1 ∈ WS := ws_of 871 (by decide +kernel)
theorem k_J5_197 : KS RJ5 197 yJ2_putCharSB_b72d1 cJ2_putCharSB_b72d1 3 none 3 := ⟨bJ2_putCharSB_b72d1, ws_of 870 (by decide +kernel), bsJ2_putCharSB_b72d1⟩
set_option maxRecDepth 100000 in
theorem bJ2_checkIndex_2214a {own : String} {idx : Nat} : KB own idx yJ2_checkIndex_2214a cJ2_checkIndex_2214a 2 none 2 := ⟨aw_mem_ws (i := 875) rfl rfl, h_ini_J2, ⟨⟨by decide, by decide⟩, by decide +kernel⟩⟩
theorem bsJ2_checkIndex_2214a : Cond.static yJ2_checkIndex_2214a ∈ WS := ws_of 874 (by decide +kernel)
theorem k_J2_67 : KS RJ2 67 yJ2_checkIndex_2214a cJ2_checkIndex_2214a 2 none 2 := ⟨bJ2_checkIndex_2214a, ws_of 873 (by decide +kernel), bsJ2_checkIndex_2214a⟩
set_option maxRecDepth 100000 in
theorem bJ0_checkIndex_df160 {own : String} {idx : Nat} : KB own idx yJ0_checkIndex_df160 cJ0_checkIndex_df160 2 none 2 := ⟨aw_mem_ws (i := 878) rfl rfl, h_ini_J0, ⟨⟨by decide, by decide⟩, by decide +kernel⟩⟩
theorem bsJ0_checkIndex_df160 : Cond.static yJ0_checkIndex_df160 ∈ WS := ws_of 877 (by decide +kernel)
theorem k_J2_414 : KS RJ2 414 yJ0_checkIndex_df160 cJ0_checkIndex_df160 2 none 2 := ⟨bJ0_checkIndex_df160, ws_of 876 (by decide +kernel), bsJ0_checkIndex_df160⟩
theorem k_J0_1059 : KS RJ0 1059 yJ3_checkIndex_8e157 cJ3_checkIndex_8e157 3 (some .int) 3 := ⟨bJ3_checkIndex_8e157, ws_of 879 (by decide +kernel), bsJ3_checkIndex_8e157⟩
set_option maxRecDepth 100000 in
theorem bJ4_append_bf812 {own : String} {idx : Nat} : KB own idx yJ4_append_bf812 cJ4_append_bf812 2 (some (.object "java/lang/StringBuilder")) 1 := ⟨aw_mem_ws (i := 883) rfl rfl, h_ini_J4, ⟨⟨by decide, by decide⟩, by decide +kernel⟩⟩
theorem biJ4_append_bf812 : Cond.instanceMethod yJ4_append_bf812 ∈ WS ∧ Cond.selects RJ4 yJ4_append_bf812 yJ4_append_bf812 ∈ WS := ⟨ws_of 881 (by decide +kernel), ws_of 882 (by decide +kernel)⟩
theorem k_X8_257 : KV RX8 257 yJ4_append_bf812 cJ4_append_bf812 2 (some (.object "java/lang/StringBuilder")) 1 := ⟨bJ4_append_bf812, ws_of 880 (by decide +kernel), biJ4_append_bf812.1, biJ4_append_bf812.2⟩
set_option maxRecDepth 100000 in
theorem bJ5_append_c97b9 {own : String} {idx : Nat} : KB own idx yJ5_append_c97b9 cJ5_append_c97b9 4 (some (.object "java/lang/AbstractStringBuilder")) 1 := ⟨aw_mem_ws (i := 886) rfl rfl, h_ini_J5, ⟨⟨by decide, by decide⟩, by decide +kernel⟩⟩
theorem biJ5_append_c97b9 : Cond.instanceMethod yJ5_append_c97b9 ∈ WS := ws_of 885 (by decide +kernel)
set_option maxRecDepth 100000 in
theorem bJ6_stringSize_0f7a4 {own : String} {idx : Nat} : KB own idx yJ6_stringSize_0f7a4 cJ6_stringSize_0f7a4 4 (some .int) 1 := ⟨aw_mem_ws (i := 889) rfl rfl, h_ini_J6, ⟨⟨by decide, by decide⟩, by decide +kernel⟩⟩
theorem bsJ6_stringSize_0f7a4 : Cond.static yJ6_stringSize_0f7a4 ∈ WS := ws_of 888 (by decide +kernel)
theorem k_J5_245 : KS RJ5 245 yJ6_stringSize_0f7a4 cJ6_stringSize_0f7a4 4 (some .int) 1 := ⟨bJ6_stringSize_0f7a4, ws_of 887 (by decide +kernel), bsJ6_stringSize_0f7a4⟩
set_option maxRecDepth 100000 in
theorem bJ6_getChars_ba4f3 {own : String} {idx : Nat} : KB own idx yJ6_getChars_ba4f3 cJ6_getChars_ba4f3 7 (some .int) 3 := ⟨aw_mem_ws (i := 892) rfl rfl, h_ini_J6, ⟨⟨by decide, by decide⟩, by decide +kernel⟩⟩
theorem bsJ6_getChars_ba4f3 : Cond.static yJ6_getChars_ba4f3 ∈ WS := ws_of 891 (by decide +kernel)
theorem k_J5_248 : KS RJ5 248 yJ6_getChars_ba4f3 cJ6_getChars_ba4f3 7 (some .int) 3 := ⟨bJ6_getChars_ba4f3, ws_of 890 (by decide +kernel), bsJ6_getChars_ba4f3⟩
set_option maxRecDepth 100000 in
theorem bJ2_getChars_46870 {own : String} {idx : Nat} : KB own idx yJ2_getChars_46870 cJ2_getChars_46870 5 (some .int) 4 := ⟨aw_mem_ws (i := 899) rfl rfl, h_ini_J2, ⟨⟨by decide, by decide⟩, by decide +kernel⟩⟩
theorem bsJ2_getChars_46870 : Cond.static yJ2_getChars_46870 ∈ WS := ws_of 898 (by decide +kernel)
theorem k_J5_251 : KS RJ5 251 yJ2_getChars_46870 cJ2_getChars_46870 5 (some .int) 4 := ⟨bJ2_getChars_46870, ws_of 897 (by decide +kernel), bsJ2_getChars_46870⟩
set_option maxRecDepth 100000 in
theorem bJ2_checkBoundsBeginEnd_d044e {own : String} {idx : Nat} : KB own idx yJ2_checkBoundsBeginEnd_d044e cJ2_checkBoundsBeginEnd_d044e 3 none 3 := ⟨aw_mem_ws (i := 902) rfl rfl, h_ini_J2, ⟨⟨by decide, by decide⟩, by decide +kernel⟩⟩
theorem bsJ2_checkBoundsBeginEnd_d044e : Cond.static yJ2_checkBoundsBeginEnd_d044e ∈ WS := ws_of 901 (by decide +kernel)
theorem k_J2_96 : KS RJ2 96 yJ2_checkBoundsBeginEnd_d044e cJ2_checkBoundsBeginEnd_d044e 3 none 3 := ⟨bJ2_checkBoundsBeginEnd_d044e, ws_of 900 (by decide +kernel), bsJ2_checkBoundsBeginEnd_d044e⟩
set_option maxRecDepth 100000 in
theorem bJ0_checkBoundsBeginEnd_23922 {own : String} {idx : Nat} : KB own idx yJ0_checkBoundsBeginEnd_23922 cJ0_checkBoundsBeginEnd_23922 3 none 3 := ⟨aw_mem_ws (i := 905) rfl rfl, h_ini_J0, ⟨⟨by decide, by decide⟩, by decide +kernel⟩⟩
theorem bsJ0_checkBoundsBeginEnd_23922 : Cond.static yJ0_checkBoundsBeginEnd_23922 ∈ WS := ws_of 904 (by decide +kernel)
theorem k_J2_241 : KS RJ2 241 yJ0_checkBoundsBeginEnd_23922 cJ0_checkBoundsBeginEnd_23922 3 none 3 := ⟨bJ0_checkBoundsBeginEnd_23922, ws_of 903 (by decide +kernel), bsJ0_checkBoundsBeginEnd_23922⟩
set_option maxRecDepth 100000 in
theorem bJ3_checkFromToIndex_8c36e {own : String} {idx : Nat} : KB own idx yJ3_checkFromToIndex_8c36e cJ3_checkFromToIndex_8c36e 4 (some .int) 4 := ⟨aw_mem_ws (i := 908) rfl rfl, h_ini_J3, ⟨⟨by decide, by decide⟩, by decide +kernel⟩⟩
theorem bsJ3_checkFromToIndex_8c36e : Cond.static yJ3_checkFromToIndex_8c36e ∈ WS := ws_of 907 (by decide +kernel)
theorem k_J0_1062 : KS RJ0 1062 yJ3_checkFromToIndex_8c36e cJ3_checkFromToIndex_8c36e 4 (some .int) 4 := ⟨bJ3_checkFromToIndex_8c36e, ws_of 906 (by decide +kernel), bsJ3_checkFromToIndex_8c36e⟩
set_option maxRecDepth 100000 in
theorem bJ2_getChars_ba4f3 {own : String} {idx : Nat} : KB own idx yJ2_getChars_ba4f3 cJ2_getChars_ba4f3 7 (some .int) 3 := ⟨aw_mem_ws (i := 911) rfl rfl, h_ini_J2, ⟨⟨by decide, by decide⟩, by decide +kernel⟩⟩
theorem bsJ2_getChars_ba4f3 : Cond.static yJ2_getChars_ba4f3 ∈ WS := ws_of 910 (by decide +kernel)
theorem k_J2_393 : KS RJ2 393 yJ2_getChars_ba4f3 cJ2_getChars_ba4f3 7 (some .int) 3 := ⟨bJ2_getChars_ba4f3, ws_of 909 (by decide +kernel), bsJ2_getChars_ba4f3⟩
set_option maxRecDepth 100000 in
theorem bX8_stateLetter {own : String} {idx : Nat} : KB own idx yX8_stateLetter cX8_stateLetter 1 (some .char) 1 := ⟨aw_mem_ws (i := 916) rfl rfl, h_ini_X8, ⟨⟨by decide, by decide⟩, by decide +kernel⟩⟩
theorem bsX8_stateLetter : Cond.static yX8_stateLetter ∈ WS := ws_of 915 (by decide +kernel)
theorem k_X8_260 : KS RX8 260 yX8_stateLetter cX8_stateLetter 1 (some .char) 1 := ⟨bX8_stateLetter, ws_of 914 (by decide +kernel), bsX8_stateLetter⟩
set_option maxRecDepth 100000 in
theorem bJ4_length_8abf5 {own : String} {idx : Nat} : KB own idx yJ4_length_8abf5 cJ4_length_8abf5 1 (some .int) 0 := ⟨aw_mem_ws (i := 920) rfl rfl, h_ini_J4, ⟨⟨by decide, by decide⟩, by decide +kernel⟩⟩
theorem biJ4_length_8abf5 : Cond.instanceMethod yJ4_length_8abf5 ∈ WS ∧ Cond.selects RJ4 yJ4_length_8abf5 yJ4_length_8abf5 ∈ WS := ⟨ws_of 918 (by decide +kernel), ws_of 919 (by decide +kernel)⟩
theorem k_X8_263 : KV RX8 263 yJ4_length_8abf5 cJ4_length_8abf5 1 (some .int) 0 := ⟨bJ4_length_8abf5, ws_of 917 (by decide +kernel), biJ4_length_8abf5.1, biJ4_length_8abf5.2⟩
set_option maxRecDepth 100000 in
theorem bJ5_length_8abf5 {own : String} {idx : Nat} : KB own idx yJ5_length_8abf5 cJ5_length_8abf5 1 (some .int) 0 := ⟨aw_mem_ws (i := 923) rfl rfl, h_ini_J5, ⟨⟨by decide, by decide⟩, by decide +kernel⟩⟩
theorem biJ5_length_8abf5 : Cond.instanceMethod yJ5_length_8abf5 ∈ WS := ws_of 922 (by decide +kernel)
set_option maxRecDepth 100000 in
theorem bJ4_charAt_5068e {own : String} {idx : Nat} : KB own idx yJ4_charAt_5068e cJ4_charAt_5068e 2 (some .char) 1 := ⟨aw_mem_ws (i := 927) rfl rfl, h_ini_J4, ⟨⟨by decide, by decide⟩, by decide +kernel⟩⟩
theorem biJ4_charAt_5068e : Cond.instanceMethod yJ4_charAt_5068e ∈ WS ∧ Cond.selects RJ4 yJ4_charAt_5068e yJ4_charAt_5068e ∈ WS := ⟨ws_of 925 (by decide +kernel), ws_of 926 (by decide +kernel)⟩
theorem k_X8_266 : KV RX8 266 yJ4_charAt_5068e cJ4_charAt_5068e 2 (some .char) 1 := ⟨bJ4_charAt_5068e, ws_of 924 (by decide +kernel), biJ4_charAt_5068e.1, biJ4_charAt_5068e.2⟩
set_option maxRecDepth 100000 in
theorem bJ5_charAt_5068e {own : String} {idx : Nat} : KB own idx yJ5_charAt_5068e cJ5_charAt_5068e 5 (some .char) 1 := ⟨aw_mem_ws (i := 930) rfl rfl, h_ini_J5, ⟨⟨by decide, by decide⟩, by decide +kernel⟩⟩
theorem biJ5_charAt_5068e : Cond.instanceMethod yJ5_charAt_5068e ∈ WS := ws_of 929 (by decide +kernel)
theorem k_J5_138 : KS RJ5 138 yJ9_min_7cf53 cJ9_min_7cf53 2 (some .int) 2 := ⟨bJ9_min_7cf53, ws_of 931 (by decide +kernel), bsJ9_min_7cf53⟩
theorem k_J5_144 : KS RJ5 144 yJ0_checkIndex_df160 cJ0_checkIndex_df160 2 none 2 := ⟨bJ0_checkIndex_df160, ws_of 932 (by decide +kernel), bsJ0_checkIndex_df160⟩
set_option maxRecDepth 100000 in
theorem bJ2_getChar_3b067 {own : String} {idx : Nat} : KB own idx yJ2_getChar_3b067 cJ2_getChar_3b067 2 (some .char) 2 := ⟨aw_mem_ws (i := 935) rfl rfl, h_ini_J2, ⟨⟨by decide, by decide⟩, by decide +kernel⟩⟩
theorem bsJ2_getChar_3b067 : Cond.static yJ2_getChar_3b067 ∈ WS := ws_of 934 (by decide +kernel)
theorem k_J5_148 : KS RJ5 148 yJ2_getChar_3b067 cJ2_getChar_3b067 2 (some .char) 2 := ⟨bJ2_getChar_3b067, ws_of 933 (by decide +kernel), bsJ2_getChar_3b067⟩
set_option maxRecDepth 100000 in
theorem bX8_revoke {own : String} {idx : Nat} : KB own idx yX8_revoke cX8_revoke 6 (some .boolean) 2 := ⟨aw_mem_ws (i := 942) rfl rfl, h_ini_X8, ⟨⟨by decide, by decide⟩, by decide +kernel⟩⟩
theorem biX8_revoke : Cond.instanceMethod yX8_revoke ∈ WS ∧ Cond.selects RX8 yX8_revoke yX8_revoke ∈ WS := ⟨ws_of 940 (by decide +kernel), ws_of 941 (by decide +kernel)⟩
theorem k_L_66 : KV RL 66 yX8_revoke cX8_revoke 6 (some .boolean) 2 := ⟨bX8_revoke, ws_of 939 (by decide +kernel), biX8_revoke.1, biX8_revoke.2⟩
set_option maxRecDepth 100000 in
theorem bX8_isGood {own : String} {idx : Nat} : KB own idx yX8_isGood cX8_isGood 2 (some .boolean) 1 := ⟨aw_mem_ws (i := 950) rfl rfl, h_ini_X8, ⟨⟨by decide, by decide⟩, by decide +kernel⟩⟩
theorem biX8_isGood : Cond.instanceMethod yX8_isGood ∈ WS ∧ Cond.selects RX8 yX8_isGood yX8_isGood ∈ WS := ⟨ws_of 948 (by decide +kernel), ws_of 949 (by decide +kernel)⟩
theorem k_L_70 : KV RL 70 yX8_isGood cX8_isGood 2 (some .boolean) 1 := ⟨bX8_isGood, ws_of 947 (by decide +kernel), biX8_isGood.1, biX8_isGood.2⟩
set_option maxRecDepth 100000 in
theorem bX8_copy {own : String} {idx : Nat} : KB own idx yX8_copy cX8_copy 4 (some .int) 1 := ⟨aw_mem_ws (i := 957) rfl rfl, h_ini_X8, ⟨⟨by decide, by decide⟩, by decide +kernel⟩⟩
theorem biX8_copy : Cond.instanceMethod yX8_copy ∈ WS ∧ Cond.selects RX8 yX8_copy yX8_copy ∈ WS := ⟨ws_of 955 (by decide +kernel), ws_of 956 (by decide +kernel)⟩
theorem k_L_73 : KV RL 73 yX8_copy cX8_copy 4 (some .int) 1 := ⟨bX8_copy, ws_of 954 (by decide +kernel), biX8_copy.1, biX8_copy.2⟩
set_option maxRecDepth 100000 in
theorem bX4_leastGrade {own : String} {idx : Nat} : KB own idx yX4_leastGrade cX4_leastGrade 1 (some .int) 0 := ⟨aw_mem_ws (i := 962) rfl rfl, h_ini_X4, ⟨⟨by decide, by decide⟩, by decide +kernel⟩⟩
theorem biX4_leastGrade : Cond.instanceMethod yX4_leastGrade ∈ WS ∧ Cond.selects RX4 yX4_leastGrade yX4_leastGrade ∈ WS := ⟨ws_of 961 (by decide +kernel), ws_of 26 (by decide +kernel)⟩
theorem k_X8_286 : KVN RX8 286 yX4_leastGrade cX4_leastGrade 1 (some .int) 0 := ⟨bX4_leastGrade, ⟨"DeedProtocol", ws_of 959 (by decide +kernel)⟩, biX4_leastGrade.1, biX4_leastGrade.2⟩
set_option maxRecDepth 100000 in
theorem bX8_lose {own : String} {idx : Nat} : KB own idx yX8_lose cX8_lose 3 (some .int) 1 := ⟨aw_mem_ws (i := 969) rfl rfl, h_ini_X8, ⟨⟨by decide, by decide⟩, by decide +kernel⟩⟩
theorem biX8_lose : Cond.instanceMethod yX8_lose ∈ WS ∧ Cond.selects RX8 yX8_lose yX8_lose ∈ WS := ⟨ws_of 967 (by decide +kernel), ws_of 968 (by decide +kernel)⟩
theorem k_L_76 : KV RL 76 yX8_lose cX8_lose 3 (some .int) 1 := ⟨bX8_lose, ws_of 966 (by decide +kernel), biX8_lose.1, biX8_lose.2⟩
set_option maxRecDepth 100000 in
theorem bX4_dropFirst {own : String} {idx : Nat} : KB own idx yX4_dropFirst cX4_dropFirst 2 none 0 := ⟨aw_mem_ws (i := 974) rfl rfl, h_ini_X4, ⟨⟨by decide, by decide⟩, by decide +kernel⟩⟩
theorem biX4_dropFirst : Cond.instanceMethod yX4_dropFirst ∈ WS ∧ Cond.selects RX4 yX4_dropFirst yX4_dropFirst ∈ WS := ⟨ws_of 973 (by decide +kernel), ws_of 27 (by decide +kernel)⟩
theorem k_X8_291 : KVN RX8 291 yX4_dropFirst cX4_dropFirst 2 none 0 := ⟨bX4_dropFirst, ⟨"DeedProtocol", ws_of 971 (by decide +kernel)⟩, biX4_dropFirst.1, biX4_dropFirst.2⟩
set_option maxRecDepth 100000 in
theorem bX8_proof {own : String} {idx : Nat} : KB own idx yX8_proof cX8_proof 2 (some .int) 1 := ⟨aw_mem_ws (i := 981) rfl rfl, h_ini_X8, ⟨⟨by decide, by decide⟩, by decide +kernel⟩⟩
theorem biX8_proof : Cond.instanceMethod yX8_proof ∈ WS ∧ Cond.selects RX8 yX8_proof yX8_proof ∈ WS := ⟨ws_of 979 (by decide +kernel), ws_of 980 (by decide +kernel)⟩
theorem k_L_79 : KV RL 79 yX8_proof cX8_proof 2 (some .int) 1 := ⟨bX8_proof, ws_of 978 (by decide +kernel), biX8_proof.1, biX8_proof.2⟩
set_option maxRecDepth 100000 in
theorem bX8_enter {own : String} {idx : Nat} : KB own idx yX8_enter cX8_enter 5 (some .int) 1 := ⟨aw_mem_ws (i := 988) rfl rfl, h_ini_X8, ⟨⟨by decide, by decide⟩, by decide +kernel⟩⟩
theorem biX8_enter : Cond.instanceMethod yX8_enter ∈ WS ∧ Cond.selects RX8 yX8_enter yX8_enter ∈ WS := ⟨ws_of 986 (by decide +kernel), ws_of 987 (by decide +kernel)⟩
theorem k_L_82 : KV RL 82 yX8_enter cX8_enter 5 (some .int) 1 := ⟨bX8_enter, ws_of 985 (by decide +kernel), biX8_enter.1, biX8_enter.2⟩
set_option maxRecDepth 100000 in
theorem bX8_isReadyToEnter {own : String} {idx : Nat} : KB own idx yX8_isReadyToEnter cX8_isReadyToEnter 2 (some .boolean) 1 := ⟨aw_mem_ws (i := 991) rfl rfl, h_ini_X8, ⟨⟨by decide, by decide⟩, by decide +kernel⟩⟩
theorem bsX8_isReadyToEnter : Cond.static yX8_isReadyToEnter ∈ WS := ws_of 990 (by decide +kernel)
theorem k_X8_298 : KS RX8 298 yX8_isReadyToEnter cX8_isReadyToEnter 2 (some .boolean) 1 := ⟨bX8_isReadyToEnter, ws_of 989 (by decide +kernel), bsX8_isReadyToEnter⟩
set_option maxRecDepth 100000 in
theorem bX8_moveOf {own : String} {idx : Nat} : KB own idx yX8_moveOf cX8_moveOf 1 (some (.object "DeedProtocol$Move")) 1 := ⟨aw_mem_ws (i := 995) rfl rfl, h_ini_X8, ⟨⟨by decide, by decide⟩, by decide +kernel⟩⟩
theorem bsX8_moveOf : Cond.static yX8_moveOf ∈ WS := ws_of 994 (by decide +kernel)
theorem k_X8_303 : KS RX8 303 yX8_moveOf cX8_moveOf 1 (some (.object "DeedProtocol$Move")) 1 := ⟨bX8_moveOf, ws_of 993 (by decide +kernel), bsX8_moveOf⟩
set_option maxRecDepth 100000 in
theorem bX3_init {own : String} {idx : Nat} : KB own idx yX3_init cX3_init 6 none 5 := ⟨aw_mem_ws (i := 1000) rfl rfl, h_ini_X3, ⟨⟨by decide, by decide⟩, by decide +kernel⟩⟩
theorem biX3_init : Cond.instanceMethod yX3_init ∈ WS := ws_of 999 (by decide +kernel)
theorem k_X8_448 : KIN RX8 448 yX3_init cX3_init 6 5 := ⟨bX3_init, ⟨"DeedProtocol", ws_of 998 (by decide +kernel)⟩, rfl, biX3_init⟩
set_option maxRecDepth 100000 in
theorem bX6_has {own : String} {idx : Nat} : KB own idx yX6_has cX6_has 4 (some .boolean) 3 := ⟨aw_mem_ws (i := 1026) rfl rfl, h_ini_X6, ⟨⟨by decide, by decide⟩, by decide +kernel⟩⟩
theorem biX6_has : Cond.instanceMethod yX6_has ∈ WS ∧ Cond.selects RX6 yX6_has yX6_has ∈ WS := ⟨ws_of 1025 (by decide +kernel), ws_of 28 (by decide +kernel)⟩
theorem k_X8_316 : KVN RX8 316 yX6_has cX6_has 4 (some .boolean) 3 := ⟨bX6_has, ⟨"DeedProtocol", ws_of 1023 (by decide +kernel)⟩, biX6_has.1, biX6_has.2⟩
set_option maxRecDepth 100000 in
theorem bX6_isHolder {own : String} {idx : Nat} : KB own idx yX6_isHolder cX6_isHolder 1 (some .boolean) 1 := ⟨aw_mem_ws (i := 1029) rfl rfl, h_ini_X6, ⟨⟨by decide, by decide⟩, by decide +kernel⟩⟩
theorem bsX6_isHolder : Cond.static yX6_isHolder ∈ WS := ws_of 1028 (by decide +kernel)
theorem k_X6_18 : KS RX6 18 yX6_isHolder cX6_isHolder 1 (some .boolean) 1 := ⟨bX6_isHolder, ws_of 1027 (by decide +kernel), bsX6_isHolder⟩
set_option maxRecDepth 100000 in
theorem bX8_leavesSmallShares {own : String} {idx : Nat} : KB own idx yX8_leavesSmallShares cX8_leavesSmallShares 3 (some .boolean) 2 := ⟨aw_mem_ws (i := 1033) rfl rfl, h_ini_X8, ⟨⟨by decide, by decide⟩, by decide +kernel⟩⟩
theorem biX8_leavesSmallShares : Cond.instanceMethod yX8_leavesSmallShares ∈ WS ∧ Cond.selects RX8 yX8_leavesSmallShares yX8_leavesSmallShares ∈ WS := ⟨ws_of 1032 (by decide +kernel), ws_of 29 (by decide +kernel)⟩
theorem k_X8_320 : KV RX8 320 yX8_leavesSmallShares cX8_leavesSmallShares 3 (some .boolean) 2 := ⟨bX8_leavesSmallShares, ws_of 1030 (by decide +kernel), biX8_leavesSmallShares.1, biX8_leavesSmallShares.2⟩
set_option maxRecDepth 100000 in
theorem bX6_copyFrom {own : String} {idx : Nat} : KB own idx yX6_copyFrom cX6_copyFrom 3 none 1 := ⟨aw_mem_ws (i := 1037) rfl rfl, h_ini_X6, ⟨⟨by decide, by decide⟩, by decide +kernel⟩⟩
theorem biX6_copyFrom : Cond.instanceMethod yX6_copyFrom ∈ WS ∧ Cond.selects RX6 yX6_copyFrom yX6_copyFrom ∈ WS := ⟨ws_of 1036 (by decide +kernel), ws_of 30 (by decide +kernel)⟩
theorem k_X8_451 : KVN RX8 451 yX6_copyFrom cX6_copyFrom 3 none 1 := ⟨bX6_copyFrom, ⟨"DeedProtocol", ws_of 1034 (by decide +kernel)⟩, biX6_copyFrom.1, biX6_copyFrom.2⟩
set_option maxRecDepth 100000 in
theorem bX6_carryOut {own : String} {idx : Nat} : KB own idx yX6_carryOut cX6_carryOut 2 none 1 := ⟨aw_mem_ws (i := 1041) rfl rfl, h_ini_X6, ⟨⟨by decide, by decide⟩, by decide +kernel⟩⟩
theorem biX6_carryOut : Cond.instanceMethod yX6_carryOut ∈ WS ∧ Cond.selects RX6 yX6_carryOut yX6_carryOut ∈ WS := ⟨ws_of 1040 (by decide +kernel), ws_of 31 (by decide +kernel)⟩
theorem k_X8_394 : KVN RX8 394 yX6_carryOut cX6_carryOut 2 none 1 := ⟨bX6_carryOut, ⟨"DeedProtocol", ws_of 1038 (by decide +kernel)⟩, biX6_carryOut.1, biX6_carryOut.2⟩
set_option maxRecDepth 100000 in
theorem bX6_change {own : String} {idx : Nat} : KB own idx yX6_change cX6_change 14 none 3 := ⟨aw_mem_ws (i := 1045) rfl rfl, h_ini_X6, ⟨⟨by decide, by decide⟩, by decide +kernel⟩⟩
theorem biX6_change : Cond.instanceMethod yX6_change ∈ WS ∧ Cond.selects RX6 yX6_change yX6_change ∈ WS := ⟨ws_of 1044 (by decide +kernel), ws_of 32 (by decide +kernel)⟩
theorem k_X6_37 : KV RX6 37 yX6_change cX6_change 14 none 3 := ⟨bX6_change, ws_of 1042 (by decide +kernel), biX6_change.1, biX6_change.2⟩
set_option maxRecDepth 100000 in
theorem bX6_commonDivisor {own : String} {idx : Nat} : KB own idx yX6_commonDivisor cX6_commonDivisor 11 (some .long) 2 := ⟨aw_mem_ws (i := 1048) rfl rfl, h_ini_X6, ⟨⟨by decide, by decide⟩, by decide +kernel⟩⟩
theorem bsX6_commonDivisor : Cond.static yX6_commonDivisor ∈ WS := ws_of 1047 (by decide +kernel)
theorem k_X6_54 : KS RX6 54 yX6_commonDivisor cX6_commonDivisor 11 (some .long) 2 := ⟨bX6_commonDivisor, ws_of 1046 (by decide +kernel), bsX6_commonDivisor⟩
set_option maxRecDepth 100000 in
theorem bX6_bequeath {own : String} {idx : Nat} : KB own idx yX6_bequeath cX6_bequeath 11 none 3 := ⟨aw_mem_ws (i := 1052) rfl rfl, h_ini_X6, ⟨⟨by decide, by decide⟩, by decide +kernel⟩⟩
theorem biX6_bequeath : Cond.instanceMethod yX6_bequeath ∈ WS ∧ Cond.selects RX6 yX6_bequeath yX6_bequeath ∈ WS := ⟨ws_of 1051 (by decide +kernel), ws_of 33 (by decide +kernel)⟩
theorem k_X6_44 : KV RX6 44 yX6_bequeath cX6_bequeath 11 none 3 := ⟨bX6_bequeath, ws_of 1049 (by decide +kernel), biX6_bequeath.1, biX6_bequeath.2⟩
theorem k_X6_48 : KS RX6 48 yJ6_bitCount_0f7a4 cJ6_bitCount_0f7a4 1 (some .int) 1 := ⟨bJ6_bitCount_0f7a4, ws_of 1053 (by decide +kernel), bsJ6_bitCount_0f7a4⟩
set_option maxRecDepth 100000 in
theorem bX6_areSmall {own : String} {idx : Nat} : KB own idx yX6_areSmall cX6_areSmall 2 (some .boolean) 0 := ⟨aw_mem_ws (i := 1057) rfl rfl, h_ini_X6, ⟨⟨by decide, by decide⟩, by decide +kernel⟩⟩
theorem biX6_areSmall : Cond.instanceMethod yX6_areSmall ∈ WS ∧ Cond.selects RX6 yX6_areSmall yX6_areSmall ∈ WS := ⟨ws_of 1056 (by decide +kernel), ws_of 34 (by decide +kernel)⟩
theorem k_X8_455 : KVN RX8 455 yX6_areSmall cX6_areSmall 2 (some .boolean) 0 := ⟨bX6_areSmall, ⟨"DeedProtocol", ws_of 1054 (by decide +kernel)⟩, biX6_areSmall.1, biX6_areSmall.2⟩
set_option maxRecDepth 100000 in
theorem bX8_dutyOf {own : String} {idx : Nat} : KB own idx yX8_dutyOf cX8_dutyOf 4 (some .long) 2 := ⟨aw_mem_ws (i := 1062) rfl rfl, h_ini_X8, ⟨⟨by decide, by decide⟩, by decide +kernel⟩⟩
theorem bsX8_dutyOf : Cond.static yX8_dutyOf ∈ WS := ws_of 1061 (by decide +kernel)
theorem k_X8_326 : KS RX8 326 yX8_dutyOf cX8_dutyOf 4 (some .long) 2 := ⟨bX8_dutyOf, ws_of 1060 (by decide +kernel), bsX8_dutyOf⟩
set_option maxRecDepth 100000 in
theorem bX1_init {own : String} {idx : Nat} : KB own idx yX1_init cX1_init 6 none 5 := ⟨aw_mem_ws (i := 1069) rfl rfl, h_ini_X1, ⟨⟨by decide, by decide⟩, by decide +kernel⟩⟩
theorem biX1_init : Cond.instanceMethod yX1_init ∈ WS := ws_of 1068 (by decide +kernel)
theorem k_X8_333 : KIN RX8 333 yX1_init cX1_init 6 5 := ⟨bX1_init, ⟨"DeedProtocol", ws_of 1067 (by decide +kernel)⟩, rfl, biX1_init⟩
set_option maxRecDepth 100000 in
theorem bX8_keepEntry {own : String} {idx : Nat} : KB own idx yX8_keepEntry cX8_keepEntry 2 none 1 := ⟨aw_mem_ws (i := 1095) rfl rfl, h_ini_X8, ⟨⟨by decide, by decide⟩, by decide +kernel⟩⟩
theorem biX8_keepEntry : Cond.instanceMethod yX8_keepEntry ∈ WS ∧ Cond.selects RX8 yX8_keepEntry yX8_keepEntry ∈ WS := ⟨ws_of 1094 (by decide +kernel), ws_of 35 (by decide +kernel)⟩
theorem k_X8_336 : KV RX8 336 yX8_keepEntry cX8_keepEntry 2 none 1 := ⟨bX8_keepEntry, ws_of 1092 (by decide +kernel), biX8_keepEntry.1, biX8_keepEntry.2⟩
set_option maxRecDepth 100000 in
theorem bX8_die {own : String} {idx : Nat} : KB own idx yX8_die cX8_die 7 (some .int) 1 := ⟨aw_mem_ws (i := 1102) rfl rfl, h_ini_X8, ⟨⟨by decide, by decide⟩, by decide +kernel⟩⟩
theorem biX8_die : Cond.instanceMethod yX8_die ∈ WS ∧ Cond.selects RX8 yX8_die yX8_die ∈ WS := ⟨ws_of 1100 (by decide +kernel), ws_of 1101 (by decide +kernel)⟩
theorem k_L_85 : KV RL 85 yX8_die cX8_die 7 (some .int) 1 := ⟨bX8_die, ws_of 1099 (by decide +kernel), biX8_die.1, biX8_die.2⟩
set_option maxRecDepth 100000 in
theorem bX8_successionOf {own : String} {idx : Nat} : KB own idx yX8_successionOf cX8_successionOf 6 (some (.object "DeedProtocol$Move")) 1 := ⟨aw_mem_ws (i := 1107) rfl rfl, h_ini_X8, ⟨⟨by decide, by decide⟩, by decide +kernel⟩⟩
theorem biX8_successionOf : Cond.instanceMethod yX8_successionOf ∈ WS ∧ Cond.selects RX8 yX8_successionOf yX8_successionOf ∈ WS := ⟨ws_of 1106 (by decide +kernel), ws_of 36 (by decide +kernel)⟩
theorem k_X8_342 : KV RX8 342 yX8_successionOf cX8_successionOf 6 (some (.object "DeedProtocol$Move")) 1 := ⟨bX8_successionOf, ws_of 1104 (by decide +kernel), biX8_successionOf.1, biX8_successionOf.2⟩
set_option maxRecDepth 100000 in
theorem bX8_livingChildren {own : String} {idx : Nat} : KB own idx yX8_livingChildren cX8_livingChildren 5 (some .int) 1 := ⟨aw_mem_ws (i := 1111) rfl rfl, h_ini_X8, ⟨⟨by decide, by decide⟩, by decide +kernel⟩⟩
theorem biX8_livingChildren : Cond.instanceMethod yX8_livingChildren ∈ WS ∧ Cond.selects RX8 yX8_livingChildren yX8_livingChildren ∈ WS := ⟨ws_of 1110 (by decide +kernel), ws_of 37 (by decide +kernel)⟩
theorem k_X8_467 : KV RX8 467 yX8_livingChildren cX8_livingChildren 5 (some .int) 1 := ⟨bX8_livingChildren, ws_of 1108 (by decide +kernel), biX8_livingChildren.1, biX8_livingChildren.2⟩
set_option maxRecDepth 100000 in
theorem bX8_countingWill {own : String} {idx : Nat} : KB own idx yX8_countingWill cX8_countingWill 5 (some (.object "DeedProtocol$Deed")) 1 := ⟨aw_mem_ws (i := 1115) rfl rfl, h_ini_X8, ⟨⟨by decide, by decide⟩, by decide +kernel⟩⟩
theorem biX8_countingWill : Cond.instanceMethod yX8_countingWill ∈ WS ∧ Cond.selects RX8 yX8_countingWill yX8_countingWill ∈ WS := ⟨ws_of 1114 (by decide +kernel), ws_of 38 (by decide +kernel)⟩
theorem k_X8_471 : KV RX8 471 yX8_countingWill cX8_countingWill 5 (some (.object "DeedProtocol$Deed")) 1 := ⟨bX8_countingWill, ws_of 1112 (by decide +kernel), biX8_countingWill.1, biX8_countingWill.2⟩
set_option maxRecDepth 100000 in
theorem bX8_isStandingWillOf {own : String} {idx : Nat} : KB own idx yX8_isStandingWillOf cX8_isStandingWillOf 2 (some .boolean) 2 := ⟨aw_mem_ws (i := 1118) rfl rfl, h_ini_X8, ⟨⟨by decide, by decide⟩, by decide +kernel⟩⟩
theorem bsX8_isStandingWillOf : Cond.static yX8_isStandingWillOf ∈ WS := ws_of 1117 (by decide +kernel)
theorem k_X8_482 : KS RX8 482 yX8_isStandingWillOf cX8_isStandingWillOf 2 (some .boolean) 2 := ⟨bX8_isStandingWillOf, ws_of 1116 (by decide +kernel), bsX8_isStandingWillOf⟩
set_option maxRecDepth 100000 in
theorem bX8_goesBefore {own : String} {idx : Nat} : KB own idx yX8_goesBefore cX8_goesBefore 2 (some .boolean) 2 := ⟨aw_mem_ws (i := 1121) rfl rfl, h_ini_X8, ⟨⟨by decide, by decide⟩, by decide +kernel⟩⟩
theorem bsX8_goesBefore : Cond.static yX8_goesBefore ∈ WS := ws_of 1120 (by decide +kernel)
theorem k_X8_485 : KS RX8 485 yX8_goesBefore cX8_goesBefore 2 (some .boolean) 2 := ⟨bX8_goesBefore, ws_of 1119 (by decide +kernel), bsX8_goesBefore⟩
set_option maxRecDepth 100000 in
theorem bX8_heirsOf {own : String} {idx : Nat} : KB own idx yX8_heirsOf cX8_heirsOf 4 (some .int) 2 := ⟨aw_mem_ws (i := 1125) rfl rfl, h_ini_X8, ⟨⟨by decide, by decide⟩, by decide +kernel⟩⟩
theorem biX8_heirsOf : Cond.instanceMethod yX8_heirsOf ∈ WS ∧ Cond.selects RX8 yX8_heirsOf yX8_heirsOf ∈ WS := ⟨ws_of 1124 (by decide +kernel), ws_of 39 (by decide +kernel)⟩
theorem k_X8_475 : KV RX8 475 yX8_heirsOf cX8_heirsOf 4 (some .int) 2 := ⟨bX8_heirsOf, ws_of 1122 (by decide +kernel), biX8_heirsOf.1, biX8_heirsOf.2⟩
set_option maxRecDepth 100000 in
theorem bX8_livingParents {own : String} {idx : Nat} : KB own idx yX8_livingParents cX8_livingParents 5 (some .int) 1 := ⟨aw_mem_ws (i := 1129) rfl rfl, h_ini_X8, ⟨⟨by decide, by decide⟩, by decide +kernel⟩⟩
theorem biX8_livingParents : Cond.instanceMethod yX8_livingParents ∈ WS ∧ Cond.selects RX8 yX8_livingParents yX8_livingParents ∈ WS := ⟨ws_of 1128 (by decide +kernel), ws_of 40 (by decide +kernel)⟩
theorem k_X8_479 : KV RX8 479 yX8_livingParents cX8_livingParents 5 (some .int) 1 := ⟨bX8_livingParents, ws_of 1126 (by decide +kernel), biX8_livingParents.1, biX8_livingParents.2⟩
set_option maxRecDepth 100000 in
theorem bX8_countEstateThings {own : String} {idx : Nat} : KB own idx yX8_countEstateThings cX8_countEstateThings 6 (some .int) 2 := ⟨aw_mem_ws (i := 1133) rfl rfl, h_ini_X8, ⟨⟨by decide, by decide⟩, by decide +kernel⟩⟩
theorem biX8_countEstateThings : Cond.instanceMethod yX8_countEstateThings ∈ WS ∧ Cond.selects RX8 yX8_countEstateThings yX8_countEstateThings ∈ WS := ⟨ws_of 1132 (by decide +kernel), ws_of 41 (by decide +kernel)⟩
theorem k_X8_346 : KV RX8 346 yX8_countEstateThings cX8_countEstateThings 6 (some .int) 2 := ⟨bX8_countEstateThings, ws_of 1130 (by decide +kernel), biX8_countEstateThings.1, biX8_countEstateThings.2⟩
set_option maxRecDepth 100000 in
theorem bX6_isEmptyOf {own : String} {idx : Nat} : KB own idx yX6_isEmptyOf cX6_isEmptyOf 2 (some .boolean) 1 := ⟨aw_mem_ws (i := 1137) rfl rfl, h_ini_X6, ⟨⟨by decide, by decide⟩, by decide +kernel⟩⟩
theorem biX6_isEmptyOf : Cond.instanceMethod yX6_isEmptyOf ∈ WS ∧ Cond.selects RX6 yX6_isEmptyOf yX6_isEmptyOf ∈ WS := ⟨ws_of 1136 (by decide +kernel), ws_of 42 (by decide +kernel)⟩
theorem k_X8_359 : KVN RX8 359 yX6_isEmptyOf cX6_isEmptyOf 2 (some .boolean) 1 := ⟨bX6_isEmptyOf, ⟨"DeedProtocol", ws_of 1134 (by decide +kernel)⟩, biX6_isEmptyOf.1, biX6_isEmptyOf.2⟩
set_option maxRecDepth 100000 in
theorem bX8_endGuardianships {own : String} {idx : Nat} : KB own idx yX8_endGuardianships cX8_endGuardianships 4 none 1 := ⟨aw_mem_ws (i := 1143) rfl rfl, h_ini_X8, ⟨⟨by decide, by decide⟩, by decide +kernel⟩⟩
theorem biX8_endGuardianships : Cond.instanceMethod yX8_endGuardianships ∈ WS ∧ Cond.selects RX8 yX8_endGuardianships yX8_endGuardianships ∈ WS := ⟨ws_of 1142 (by decide +kernel), ws_of 43 (by decide +kernel)⟩
theorem k_X8_352 : KV RX8 352 yX8_endGuardianships cX8_endGuardianships 4 none 1 := ⟨bX8_endGuardianships, ws_of 1140 (by decide +kernel), biX8_endGuardianships.1, biX8_endGuardianships.2⟩
set_option maxRecDepth 100000 in
theorem bX8_entry {own : String} {idx : Nat} : KB own idx yX8_entry cX8_entry 4 (some .int) 2 := ⟨aw_mem_ws (i := 1150) rfl rfl, h_ini_X8, ⟨⟨by decide, by decide⟩, by decide +kernel⟩⟩
theorem biX8_entry : Cond.instanceMethod yX8_entry ∈ WS ∧ Cond.selects RX8 yX8_entry yX8_entry ∈ WS := ⟨ws_of 1148 (by decide +kernel), ws_of 1149 (by decide +kernel)⟩
theorem k_L_88 : KV RL 88 yX8_entry cX8_entry 4 (some .int) 2 := ⟨bX8_entry, ws_of 1147 (by decide +kernel), biX8_entry.1, biX8_entry.2⟩
set_option maxRecDepth 100000 in
theorem bX8_search {own : String} {idx : Nat} : KB own idx yX8_search cX8_search 7 (some .int) 3 := ⟨aw_mem_ws (i := 1158) rfl rfl, h_ini_X8, ⟨⟨by decide, by decide⟩, by decide +kernel⟩⟩
theorem biX8_search : Cond.instanceMethod yX8_search ∈ WS ∧ Cond.selects RX8 yX8_search yX8_search ∈ WS := ⟨ws_of 1156 (by decide +kernel), ws_of 1157 (by decide +kernel)⟩
theorem k_L_91 : KV RL 91 yX8_search cX8_search 7 (some .int) 3 := ⟨bX8_search, ws_of 1155 (by decide +kernel), biX8_search.1, biX8_search.2⟩
set_option maxRecDepth 100000 in
theorem bX8_pledge {own : String} {idx : Nat} : KB own idx yX8_pledge cX8_pledge 7 (some .int) 2 := ⟨aw_mem_ws (i := 1166) rfl rfl, h_ini_X8, ⟨⟨by decide, by decide⟩, by decide +kernel⟩⟩
theorem biX8_pledge : Cond.instanceMethod yX8_pledge ∈ WS ∧ Cond.selects RX8 yX8_pledge yX8_pledge ∈ WS := ⟨ws_of 1164 (by decide +kernel), ws_of 1165 (by decide +kernel)⟩
theorem k_L_95 : KV RL 95 yX8_pledge cX8_pledge 7 (some .int) 2 := ⟨bX8_pledge, ws_of 1163 (by decide +kernel), biX8_pledge.1, biX8_pledge.2⟩
set_option maxRecDepth 100000 in
theorem bX8_share {own : String} {idx : Nat} : KB own idx yX8_share cX8_share 5 (some .int) 3 := ⟨aw_mem_ws (i := 1174) rfl rfl, h_ini_X8, ⟨⟨by decide, by decide⟩, by decide +kernel⟩⟩
theorem biX8_share : Cond.instanceMethod yX8_share ∈ WS ∧ Cond.selects RX8 yX8_share yX8_share ∈ WS := ⟨ws_of 1172 (by decide +kernel), ws_of 1173 (by decide +kernel)⟩
theorem k_L_98 : KV RL 98 yX8_share cX8_share 5 (some .int) 3 := ⟨bX8_share, ws_of 1171 (by decide +kernel), biX8_share.1, biX8_share.2⟩
set_option maxRecDepth 100000 in
theorem bX8_holderAt {own : String} {idx : Nat} : KB own idx yX8_holderAt cX8_holderAt 2 (some .int) 1 := ⟨aw_mem_ws (i := 1178) rfl rfl, h_ini_X8, ⟨⟨by decide, by decide⟩, by decide +kernel⟩⟩
theorem biX8_holderAt : Cond.instanceMethod yX8_holderAt ∈ WS ∧ Cond.selects RX8 yX8_holderAt yX8_holderAt ∈ WS := ⟨ws_of 1177 (by decide +kernel), ws_of 44 (by decide +kernel)⟩
theorem k_X8_376 : KV RX8 376 yX8_holderAt cX8_holderAt 2 (some .int) 1 := ⟨bX8_holderAt, ws_of 1175 (by decide +kernel), biX8_holderAt.1, biX8_holderAt.2⟩
set_option maxRecDepth 100000 in
theorem bX6_termOf {own : String} {idx : Nat} : KB own idx yX6_termOf cX6_termOf 3 (some .int) 2 := ⟨aw_mem_ws (i := 1182) rfl rfl, h_ini_X6, ⟨⟨by decide, by decide⟩, by decide +kernel⟩⟩
theorem biX6_termOf : Cond.instanceMethod yX6_termOf ∈ WS ∧ Cond.selects RX6 yX6_termOf yX6_termOf ∈ WS := ⟨ws_of 1181 (by decide +kernel), ws_of 45 (by decide +kernel)⟩
theorem k_X8_380 : KVN RX8 380 yX6_termOf cX6_termOf 3 (some .int) 2 := ⟨bX6_termOf, ⟨"DeedProtocol", ws_of 1179 (by decide +kernel)⟩, biX6_termOf.1, biX6_termOf.2⟩
set_option maxRecDepth 100000 in
theorem bX8_shareAnew {own : String} {idx : Nat} : KB own idx yX8_shareAnew cX8_shareAnew 8 (some .int) 3 := ⟨aw_mem_ws (i := 1189) rfl rfl, h_ini_X8, ⟨⟨by decide, by decide⟩, by decide +kernel⟩⟩
theorem biX8_shareAnew : Cond.instanceMethod yX8_shareAnew ∈ WS ∧ Cond.selects RX8 yX8_shareAnew yX8_shareAnew ∈ WS := ⟨ws_of 1187 (by decide +kernel), ws_of 1188 (by decide +kernel)⟩
theorem k_L_102 : KV RL 102 yX8_shareAnew cX8_shareAnew 8 (some .int) 3 := ⟨bX8_shareAnew, ws_of 1186 (by decide +kernel), biX8_shareAnew.1, biX8_shareAnew.2⟩
theorem k_X8_387 : KVN RX8 387 yX6_startWith cX6_startWith 3 none 1 := ⟨bX6_startWith, ⟨"DeedProtocol", ws_of 1190 (by decide +kernel)⟩, biX6_startWith.1, biX6_startWith.2⟩
set_option maxRecDepth 100000 in
theorem bX8_pass {own : String} {idx : Nat} : KB own idx yX8_pass cX8_pass 2 (some .int) 1 := ⟨aw_mem_ws (i := 1197) rfl rfl, h_ini_X8, ⟨⟨by decide, by decide⟩, by decide +kernel⟩⟩
theorem biX8_pass : Cond.instanceMethod yX8_pass ∈ WS ∧ Cond.selects RX8 yX8_pass yX8_pass ∈ WS := ⟨ws_of 1195 (by decide +kernel), ws_of 1196 (by decide +kernel)⟩
theorem k_L_105 : KV RL 105 yX8_pass cX8_pass 2 (some .int) 1 := ⟨bX8_pass, ws_of 1194 (by decide +kernel), biX8_pass.1, biX8_pass.2⟩
set_option maxRecDepth 100000 in
theorem bX9_init {own : String} {idx : Nat} : KB own idx yX9_init cX9_init 1 none 0 := ⟨aw_mem_ws (i := 1203) rfl rfl, h_ini_X9, ⟨⟨by decide, by decide⟩, by decide +kernel⟩⟩
theorem biX9_init : Cond.instanceMethod yX9_init ∈ WS := ws_of 1202 (by decide +kernel)
theorem k_L_111 : KI RL 111 yX9_init cX9_init 1 0 := ⟨bX9_init, ws_of 1201 (by decide +kernel), rfl, biX9_init⟩
set_option maxRecDepth 100000 in
theorem bX9_thrown {own : String} {idx : Nat} : KB own idx yX9_thrown cX9_thrown 1 (some .int) 0 := ⟨aw_mem_ws (i := 1339) rfl rfl, h_ini_X9, ⟨⟨by decide, by decide⟩, by decide +kernel⟩⟩
theorem biX9_thrown : Cond.instanceMethod yX9_thrown ∈ WS ∧ Cond.selects RX9 yX9_thrown yX9_thrown ∈ WS := ⟨ws_of 1337 (by decide +kernel), ws_of 1338 (by decide +kernel)⟩
theorem k_L_118 : KV RL 118 yX9_thrown cX9_thrown 1 (some .int) 0 := ⟨bX9_thrown, ws_of 1336 (by decide +kernel), biX9_thrown.1, biX9_thrown.2⟩
set_option maxRecDepth 100000 in
theorem bX9_person {own : String} {idx : Nat} : KB own idx yX9_person cX9_person 3 (some .int) 2 := ⟨aw_mem_ws (i := 1343) rfl rfl, h_ini_X9, ⟨⟨by decide, by decide⟩, by decide +kernel⟩⟩
theorem biX9_person : Cond.instanceMethod yX9_person ∈ WS ∧ Cond.selects RX9 yX9_person yX9_person ∈ WS := ⟨ws_of 1341 (by decide +kernel), ws_of 1342 (by decide +kernel)⟩
theorem k_L_117 : KV RL 117 yX9_person cX9_person 3 (some .int) 2 := ⟨bX9_person, ws_of 1340 (by decide +kernel), biX9_person.1, biX9_person.2⟩
set_option maxRecDepth 100000 in
theorem bX9_in {own : String} {idx : Nat} : KB own idx yX9_in cX9_in 3 (some .boolean) 3 := ⟨aw_mem_ws (i := 1346) rfl rfl, h_ini_X9, ⟨⟨by decide, by decide⟩, by decide +kernel⟩⟩
theorem bsX9_in : Cond.static yX9_in ∈ WS := ws_of 1345 (by decide +kernel)
theorem k_X9_124 : KS RX9 124 yX9_in cX9_in 3 (some .boolean) 3 := ⟨bX9_in, ws_of 1344 (by decide +kernel), bsX9_in⟩
set_option maxRecDepth 100000 in
theorem bX9_child {own : String} {idx : Nat} : KB own idx yX9_child cX9_child 3 (some .int) 2 := ⟨aw_mem_ws (i := 1350) rfl rfl, h_ini_X9, ⟨⟨by decide, by decide⟩, by decide +kernel⟩⟩
theorem biX9_child : Cond.instanceMethod yX9_child ∈ WS ∧ Cond.selects RX9 yX9_child yX9_child ∈ WS := ⟨ws_of 1348 (by decide +kernel), ws_of 1349 (by decide +kernel)⟩
theorem k_L_125 : KV RL 125 yX9_child cX9_child 3 (some .int) 2 := ⟨bX9_child, ws_of 1347 (by decide +kernel), biX9_child.1, biX9_child.2⟩
set_option maxRecDepth 100000 in
theorem bX9_isPerson {own : String} {idx : Nat} : KB own idx yX9_isPerson cX9_isPerson 2 (some .boolean) 1 := ⟨aw_mem_ws (i := 1354) rfl rfl, h_ini_X9, ⟨⟨by decide, by decide⟩, by decide +kernel⟩⟩
theorem biX9_isPerson : Cond.instanceMethod yX9_isPerson ∈ WS ∧ Cond.selects RX9 yX9_isPerson yX9_isPerson ∈ WS := ⟨ws_of 1353 (by decide +kernel), ws_of 46 (by decide +kernel)⟩
theorem k_X9_137 : KV RX9 137 yX9_isPerson cX9_isPerson 2 (some .boolean) 1 := ⟨bX9_isPerson, ws_of 1351 (by decide +kernel), biX9_isPerson.1, biX9_isPerson.2⟩
set_option maxRecDepth 100000 in
theorem bX9_isChild {own : String} {idx : Nat} : KB own idx yX9_isChild cX9_isChild 5 (some .boolean) 2 := ⟨aw_mem_ws (i := 1358) rfl rfl, h_ini_X9, ⟨⟨by decide, by decide⟩, by decide +kernel⟩⟩
theorem biX9_isChild : Cond.instanceMethod yX9_isChild ∈ WS ∧ Cond.selects RX9 yX9_isChild yX9_isChild ∈ WS := ⟨ws_of 1357 (by decide +kernel), ws_of 47 (by decide +kernel)⟩
theorem k_X9_141 : KV RX9 141 yX9_isChild cX9_isChild 5 (some .boolean) 2 := ⟨bX9_isChild, ws_of 1355 (by decide +kernel), biX9_isChild.1, biX9_isChild.2⟩
set_option maxRecDepth 100000 in
theorem bX9_guard {own : String} {idx : Nat} : KB own idx yX9_guard cX9_guard 4 (some .int) 2 := ⟨aw_mem_ws (i := 1362) rfl rfl, h_ini_X9, ⟨⟨by decide, by decide⟩, by decide +kernel⟩⟩
theorem biX9_guard : Cond.instanceMethod yX9_guard ∈ WS ∧ Cond.selects RX9 yX9_guard yX9_guard ∈ WS := ⟨ws_of 1360 (by decide +kernel), ws_of 1361 (by decide +kernel)⟩
theorem k_L_128 : KV RL 128 yX9_guard cX9_guard 4 (some .int) 2 := ⟨bX9_guard, ws_of 1359 (by decide +kernel), biX9_guard.1, biX9_guard.2⟩
set_option maxRecDepth 100000 in
theorem bX9_thing {own : String} {idx : Nat} : KB own idx yX9_thing cX9_thing 4 (some .int) 2 := ⟨aw_mem_ws (i := 1366) rfl rfl, h_ini_X9, ⟨⟨by decide, by decide⟩, by decide +kernel⟩⟩
theorem biX9_thing : Cond.instanceMethod yX9_thing ∈ WS ∧ Cond.selects RX9 yX9_thing yX9_thing ∈ WS := ⟨ws_of 1364 (by decide +kernel), ws_of 1365 (by decide +kernel)⟩
theorem k_L_131 : KV RL 131 yX9_thing cX9_thing 4 (some .int) 2 := ⟨bX9_thing, ws_of 1363 (by decide +kernel), biX9_thing.1, biX9_thing.2⟩
set_option maxRecDepth 100000 in
theorem bX9_isAble {own : String} {idx : Nat} : KB own idx yX9_isAble cX9_isAble 2 (some .boolean) 1 := ⟨aw_mem_ws (i := 1371) rfl rfl, h_ini_X9, ⟨⟨by decide, by decide⟩, by decide +kernel⟩⟩
theorem biX9_isAble : Cond.instanceMethod yX9_isAble ∈ WS ∧ Cond.selects RX9 yX9_isAble yX9_isAble ∈ WS := ⟨ws_of 1369 (by decide +kernel), ws_of 1370 (by decide +kernel)⟩
theorem k_L_135 : KV RL 135 yX9_isAble cX9_isAble 2 (some .boolean) 1 := ⟨bX9_isAble, ws_of 1368 (by decide +kernel), biX9_isAble.1, biX9_isAble.2⟩
set_option maxRecDepth 100000 in
theorem bX9_able {own : String} {idx : Nat} : KB own idx yX9_able cX9_able 2 (some .boolean) 1 := ⟨aw_mem_ws (i := 1375) rfl rfl, h_ini_X9, ⟨⟨by decide, by decide⟩, by decide +kernel⟩⟩
theorem biX9_able : Cond.instanceMethod yX9_able ∈ WS ∧ Cond.selects RX9 yX9_able yX9_able ∈ WS := ⟨ws_of 1374 (by decide +kernel), ws_of 48 (by decide +kernel)⟩
theorem k_X9_146 : KV RX9 146 yX9_able cX9_able 2 (some .boolean) 1 := ⟨bX9_able, ws_of 1372 (by decide +kernel), biX9_able.1, biX9_able.2⟩
set_option maxRecDepth 100000 in
theorem bX9_draft {own : String} {idx : Nat} : KB own idx yX9_draft cX9_draft 8 (some .int) 6 := ⟨aw_mem_ws (i := 1379) rfl rfl, h_ini_X9, ⟨⟨by decide, by decide⟩, by decide +kernel⟩⟩
theorem biX9_draft : Cond.instanceMethod yX9_draft ∈ WS ∧ Cond.selects RX9 yX9_draft yX9_draft ∈ WS := ⟨ws_of 1377 (by decide +kernel), ws_of 1378 (by decide +kernel)⟩
theorem k_L_139 : KV RL 139 yX9_draft cX9_draft 8 (some .int) 6 := ⟨bX9_draft, ws_of 1376 (by decide +kernel), biX9_draft.1, biX9_draft.2⟩
set_option maxRecDepth 100000 in
theorem bX9_isThing {own : String} {idx : Nat} : KB own idx yX9_isThing cX9_isThing 2 (some .boolean) 1 := ⟨aw_mem_ws (i := 1383) rfl rfl, h_ini_X9, ⟨⟨by decide, by decide⟩, by decide +kernel⟩⟩
theorem biX9_isThing : Cond.instanceMethod yX9_isThing ∈ WS ∧ Cond.selects RX9 yX9_isThing yX9_isThing ∈ WS := ⟨ws_of 1382 (by decide +kernel), ws_of 49 (by decide +kernel)⟩
theorem k_X9_149 : KV RX9 149 yX9_isThing cX9_isThing 2 (some .boolean) 1 := ⟨bX9_isThing, ws_of 1380 (by decide +kernel), biX9_isThing.1, biX9_isThing.2⟩
set_option maxRecDepth 100000 in
theorem bX9_hasRoom {own : String} {idx : Nat} : KB own idx yX9_hasRoom cX9_hasRoom 3 (some .boolean) 2 := ⟨aw_mem_ws (i := 1387) rfl rfl, h_ini_X9, ⟨⟨by decide, by decide⟩, by decide +kernel⟩⟩
theorem biX9_hasRoom : Cond.instanceMethod yX9_hasRoom ∈ WS ∧ Cond.selects RX9 yX9_hasRoom yX9_hasRoom ∈ WS := ⟨ws_of 1386 (by decide +kernel), ws_of 50 (by decide +kernel)⟩
theorem k_X9_152 : KV RX9 152 yX9_hasRoom cX9_hasRoom 3 (some .boolean) 2 := ⟨bX9_hasRoom, ws_of 1384 (by decide +kernel), biX9_hasRoom.1, biX9_hasRoom.2⟩
set_option maxRecDepth 100000 in
theorem bX9_drafts {own : String} {idx : Nat} : KB own idx yX9_drafts cX9_drafts 4 (some .int) 3 := ⟨aw_mem_ws (i := 1391) rfl rfl, h_ini_X9, ⟨⟨by decide, by decide⟩, by decide +kernel⟩⟩
theorem biX9_drafts : Cond.instanceMethod yX9_drafts ∈ WS ∧ Cond.selects RX9 yX9_drafts yX9_drafts ∈ WS := ⟨ws_of 1390 (by decide +kernel), ws_of 51 (by decide +kernel)⟩
theorem k_X9_155 : KV RX9 155 yX9_drafts cX9_drafts 4 (some .int) 3 := ⟨bX9_drafts, ws_of 1388 (by decide +kernel), biX9_drafts.1, biX9_drafts.2⟩
set_option maxRecDepth 100000 in
theorem bX9_power {own : String} {idx : Nat} : KB own idx yX9_power cX9_power 7 (some .int) 5 := ⟨aw_mem_ws (i := 1395) rfl rfl, h_ini_X9, ⟨⟨by decide, by decide⟩, by decide +kernel⟩⟩
theorem biX9_power : Cond.instanceMethod yX9_power ∈ WS ∧ Cond.selects RX9 yX9_power yX9_power ∈ WS := ⟨ws_of 1393 (by decide +kernel), ws_of 1394 (by decide +kernel)⟩
theorem k_L_143 : KV RL 143 yX9_power cX9_power 7 (some .int) 5 := ⟨bX9_power, ws_of 1392 (by decide +kernel), biX9_power.1, biX9_power.2⟩
set_option maxRecDepth 100000 in
theorem bX9_will {own : String} {idx : Nat} : KB own idx yX9_will cX9_will 5 (some .int) 4 := ⟨aw_mem_ws (i := 1399) rfl rfl, h_ini_X9, ⟨⟨by decide, by decide⟩, by decide +kernel⟩⟩
theorem biX9_will : Cond.instanceMethod yX9_will ∈ WS ∧ Cond.selects RX9 yX9_will yX9_will ∈ WS := ⟨ws_of 1397 (by decide +kernel), ws_of 1398 (by decide +kernel)⟩
theorem k_L_147 : KV RL 147 yX9_will cX9_will 5 (some .int) 4 := ⟨bX9_will, ws_of 1396 (by decide +kernel), biX9_will.1, biX9_will.2⟩
set_option maxRecDepth 100000 in
theorem bX9_sign {own : String} {idx : Nat} : KB own idx yX9_sign cX9_sign 13 (some .int) 4 := ⟨aw_mem_ws (i := 1403) rfl rfl, h_ini_X9, ⟨⟨by decide, by decide⟩, by decide +kernel⟩⟩
theorem biX9_sign : Cond.instanceMethod yX9_sign ∈ WS ∧ Cond.selects RX9 yX9_sign yX9_sign ∈ WS := ⟨ws_of 1401 (by decide +kernel), ws_of 1402 (by decide +kernel)⟩
theorem k_L_151 : KV RL 151 yX9_sign cX9_sign 13 (some .int) 4 := ⟨bX9_sign, ws_of 1400 (by decide +kernel), biX9_sign.1, biX9_sign.2⟩
set_option maxRecDepth 100000 in
theorem bX9_isDeed {own : String} {idx : Nat} : KB own idx yX9_isDeed cX9_isDeed 2 (some .boolean) 1 := ⟨aw_mem_ws (i := 1407) rfl rfl, h_ini_X9, ⟨⟨by decide, by decide⟩, by decide +kernel⟩⟩
theorem biX9_isDeed : Cond.instanceMethod yX9_isDeed ∈ WS ∧ Cond.selects RX9 yX9_isDeed yX9_isDeed ∈ WS := ⟨ws_of 1406 (by decide +kernel), ws_of 52 (by decide +kernel)⟩
theorem k_X9_165 : KV RX9 165 yX9_isDeed cX9_isDeed 2 (some .boolean) 1 := ⟨bX9_isDeed, ws_of 1404 (by decide +kernel), biX9_isDeed.1, biX9_isDeed.2⟩
set_option maxRecDepth 100000 in
theorem bX9_isGuardian {own : String} {idx : Nat} : KB own idx yX9_isGuardian cX9_isGuardian 3 (some .boolean) 2 := ⟨aw_mem_ws (i := 1411) rfl rfl, h_ini_X9, ⟨⟨by decide, by decide⟩, by decide +kernel⟩⟩
theorem biX9_isGuardian : Cond.instanceMethod yX9_isGuardian ∈ WS ∧ Cond.selects RX9 yX9_isGuardian yX9_isGuardian ∈ WS := ⟨ws_of 1410 (by decide +kernel), ws_of 53 (by decide +kernel)⟩
theorem k_X9_168 : KV RX9 168 yX9_isGuardian cX9_isGuardian 3 (some .boolean) 2 := ⟨bX9_isGuardian, ws_of 1408 (by decide +kernel), biX9_isGuardian.1, biX9_isGuardian.2⟩
set_option maxRecDepth 100000 in
theorem bX9_signsBy {own : String} {idx : Nat} : KB own idx yX9_signsBy cX9_signsBy 5 (some .boolean) 4 := ⟨aw_mem_ws (i := 1415) rfl rfl, h_ini_X9, ⟨⟨by decide, by decide⟩, by decide +kernel⟩⟩
theorem biX9_signsBy : Cond.instanceMethod yX9_signsBy ∈ WS ∧ Cond.selects RX9 yX9_signsBy yX9_signsBy ∈ WS := ⟨ws_of 1414 (by decide +kernel), ws_of 54 (by decide +kernel)⟩
theorem k_X9_171 : KV RX9 171 yX9_signsBy cX9_signsBy 5 (some .boolean) 4 := ⟨bX9_signsBy, ws_of 1412 (by decide +kernel), biX9_signsBy.1, biX9_signsBy.2⟩
set_option maxRecDepth 100000 in
theorem bX9_good {own : String} {idx : Nat} : KB own idx yX9_good cX9_good 4 (some .boolean) 1 := ⟨aw_mem_ws (i := 1419) rfl rfl, h_ini_X9, ⟨⟨by decide, by decide⟩, by decide +kernel⟩⟩
theorem biX9_good : Cond.instanceMethod yX9_good ∈ WS ∧ Cond.selects RX9 yX9_good yX9_good ∈ WS := ⟨ws_of 1418 (by decide +kernel), ws_of 55 (by decide +kernel)⟩
theorem k_X9_162 : KV RX9 162 yX9_good cX9_good 4 (some .boolean) 1 := ⟨bX9_good, ws_of 1416 (by decide +kernel), biX9_good.1, biX9_good.2⟩
set_option maxRecDepth 100000 in
theorem bX9_isGoodAlone {own : String} {idx : Nat} : KB own idx yX9_isGoodAlone cX9_isGoodAlone 3 (some .boolean) 1 := ⟨aw_mem_ws (i := 1423) rfl rfl, h_ini_X9, ⟨⟨by decide, by decide⟩, by decide +kernel⟩⟩
theorem biX9_isGoodAlone : Cond.instanceMethod yX9_isGoodAlone ∈ WS ∧ Cond.selects RX9 yX9_isGoodAlone yX9_isGoodAlone ∈ WS := ⟨ws_of 1422 (by decide +kernel), ws_of 56 (by decide +kernel)⟩
theorem k_X9_159 : KV RX9 159 yX9_isGoodAlone cX9_isGoodAlone 3 (some .boolean) 1 := ⟨bX9_isGoodAlone, ws_of 1420 (by decide +kernel), biX9_isGoodAlone.1, biX9_isGoodAlone.2⟩
set_option maxRecDepth 100000 in
theorem bX9_add {own : String} {idx : Nat} : KB own idx yX9_add cX9_add 3 (some .int) 2 := ⟨aw_mem_ws (i := 1427) rfl rfl, h_ini_X9, ⟨⟨by decide, by decide⟩, by decide +kernel⟩⟩
theorem biX9_add : Cond.instanceMethod yX9_add ∈ WS ∧ Cond.selects RX9 yX9_add yX9_add ∈ WS := ⟨ws_of 1425 (by decide +kernel), ws_of 1426 (by decide +kernel)⟩
theorem k_L_154 : KV RL 154 yX9_add cX9_add 3 (some .int) 2 := ⟨bX9_add, ws_of 1424 (by decide +kernel), biX9_add.1, biX9_add.2⟩
set_option maxRecDepth 100000 in
theorem bX9_witness {own : String} {idx : Nat} : KB own idx yX9_witness cX9_witness 4 (some .int) 2 := ⟨aw_mem_ws (i := 1431) rfl rfl, h_ini_X9, ⟨⟨by decide, by decide⟩, by decide +kernel⟩⟩
theorem biX9_witness : Cond.instanceMethod yX9_witness ∈ WS ∧ Cond.selects RX9 yX9_witness yX9_witness ∈ WS := ⟨ws_of 1429 (by decide +kernel), ws_of 1430 (by decide +kernel)⟩
theorem k_L_157 : KV RL 157 yX9_witness cX9_witness 4 (some .int) 2 := ⟨bX9_witness, ws_of 1428 (by decide +kernel), biX9_witness.1, biX9_witness.2⟩
set_option maxRecDepth 100000 in
theorem bX9_isKin {own : String} {idx : Nat} : KB own idx yX9_isKin cX9_isKin 3 (some .boolean) 2 := ⟨aw_mem_ws (i := 1435) rfl rfl, h_ini_X9, ⟨⟨by decide, by decide⟩, by decide +kernel⟩⟩
theorem biX9_isKin : Cond.instanceMethod yX9_isKin ∈ WS ∧ Cond.selects RX9 yX9_isKin yX9_isKin ∈ WS := ⟨ws_of 1434 (by decide +kernel), ws_of 57 (by decide +kernel)⟩
theorem k_X9_175 : KV RX9 175 yX9_isKin cX9_isKin 3 (some .boolean) 2 := ⟨bX9_isKin, ws_of 1432 (by decide +kernel), biX9_isKin.1, biX9_isKin.2⟩
set_option maxRecDepth 100000 in
theorem bX9_close {own : String} {idx : Nat} : KB own idx yX9_close cX9_close 3 (some .int) 1 := ⟨aw_mem_ws (i := 1439) rfl rfl, h_ini_X9, ⟨⟨by decide, by decide⟩, by decide +kernel⟩⟩
theorem biX9_close : Cond.instanceMethod yX9_close ∈ WS ∧ Cond.selects RX9 yX9_close yX9_close ∈ WS := ⟨ws_of 1437 (by decide +kernel), ws_of 1438 (by decide +kernel)⟩
theorem k_L_160 : KV RL 160 yX9_close cX9_close 3 (some .int) 1 := ⟨bX9_close, ws_of 1436 (by decide +kernel), biX9_close.1, biX9_close.2⟩
set_option maxRecDepth 100000 in
theorem bX9_isOfThing {own : String} {idx : Nat} : KB own idx yX9_isOfThing cX9_isOfThing 2 (some .boolean) 1 := ⟨aw_mem_ws (i := 1443) rfl rfl, h_ini_X9, ⟨⟨by decide, by decide⟩, by decide +kernel⟩⟩
theorem biX9_isOfThing : Cond.instanceMethod yX9_isOfThing ∈ WS ∧ Cond.selects RX9 yX9_isOfThing yX9_isOfThing ∈ WS := ⟨ws_of 1442 (by decide +kernel), ws_of 58 (by decide +kernel)⟩
theorem k_X9_178 : KV RX9 178 yX9_isOfThing cX9_isOfThing 2 (some .boolean) 1 := ⟨bX9_isOfThing, ws_of 1440 (by decide +kernel), biX9_isOfThing.1, biX9_isOfThing.2⟩
set_option maxRecDepth 100000 in
theorem bX9_needs {own : String} {idx : Nat} : KB own idx yX9_needs cX9_needs 3 (some .int) 1 := ⟨aw_mem_ws (i := 1447) rfl rfl, h_ini_X9, ⟨⟨by decide, by decide⟩, by decide +kernel⟩⟩
theorem biX9_needs : Cond.instanceMethod yX9_needs ∈ WS ∧ Cond.selects RX9 yX9_needs yX9_needs ∈ WS := ⟨ws_of 1446 (by decide +kernel), ws_of 59 (by decide +kernel)⟩
theorem k_X9_181 : KV RX9 181 yX9_needs cX9_needs 3 (some .int) 1 := ⟨bX9_needs, ws_of 1444 (by decide +kernel), biX9_needs.1, biX9_needs.2⟩
set_option maxRecDepth 100000 in
theorem bX9_deed {own : String} {idx : Nat} : KB own idx yX9_deed cX9_deed 3 (some .int) 2 := ⟨aw_mem_ws (i := 1451) rfl rfl, h_ini_X9, ⟨⟨by decide, by decide⟩, by decide +kernel⟩⟩
theorem biX9_deed : Cond.instanceMethod yX9_deed ∈ WS ∧ Cond.selects RX9 yX9_deed yX9_deed ∈ WS := ⟨ws_of 1449 (by decide +kernel), ws_of 1450 (by decide +kernel)⟩
theorem k_L_163 : KV RL 163 yX9_deed cX9_deed 3 (some .int) 2 := ⟨bX9_deed, ws_of 1448 (by decide +kernel), biX9_deed.1, biX9_deed.2⟩
set_option maxRecDepth 100000 in
theorem bX9_label {own : String} {idx : Nat} : KB own idx yX9_label cX9_label 4 (some .char) 2 := ⟨aw_mem_ws (i := 1455) rfl rfl, h_ini_X9, ⟨⟨by decide, by decide⟩, by decide +kernel⟩⟩
theorem biX9_label : Cond.instanceMethod yX9_label ∈ WS ∧ Cond.selects RX9 yX9_label yX9_label ∈ WS := ⟨ws_of 1453 (by decide +kernel), ws_of 1454 (by decide +kernel)⟩
theorem k_L_166 : KV RL 166 yX9_label cX9_label 4 (some .char) 2 := ⟨bX9_label, ws_of 1452 (by decide +kernel), biX9_label.1, biX9_label.2⟩
set_option maxRecDepth 100000 in
theorem bX9_letter {own : String} {idx : Nat} : KB own idx yX9_letter cX9_letter 1 (some .char) 1 := ⟨aw_mem_ws (i := 1458) rfl rfl, h_ini_X9, ⟨⟨by decide, by decide⟩, by decide +kernel⟩⟩
theorem bsX9_letter : Cond.static yX9_letter ∈ WS := ws_of 1457 (by decide +kernel)
theorem k_X9_188 : KS RX9 188 yX9_letter cX9_letter 1 (some .char) 1 := ⟨bX9_letter, ws_of 1456 (by decide +kernel), bsX9_letter⟩
set_option maxRecDepth 100000 in
theorem bX9_revoke {own : String} {idx : Nat} : KB own idx yX9_revoke cX9_revoke 4 (some .boolean) 2 := ⟨aw_mem_ws (i := 1462) rfl rfl, h_ini_X9, ⟨⟨by decide, by decide⟩, by decide +kernel⟩⟩
theorem biX9_revoke : Cond.instanceMethod yX9_revoke ∈ WS ∧ Cond.selects RX9 yX9_revoke yX9_revoke ∈ WS := ⟨ws_of 1460 (by decide +kernel), ws_of 1461 (by decide +kernel)⟩
theorem k_L_169 : KV RL 169 yX9_revoke cX9_revoke 4 (some .boolean) 2 := ⟨bX9_revoke, ws_of 1459 (by decide +kernel), biX9_revoke.1, biX9_revoke.2⟩
set_option maxRecDepth 100000 in
theorem bX9_isGood {own : String} {idx : Nat} : KB own idx yX9_isGood cX9_isGood 2 (some .boolean) 1 := ⟨aw_mem_ws (i := 1466) rfl rfl, h_ini_X9, ⟨⟨by decide, by decide⟩, by decide +kernel⟩⟩
theorem biX9_isGood : Cond.instanceMethod yX9_isGood ∈ WS ∧ Cond.selects RX9 yX9_isGood yX9_isGood ∈ WS := ⟨ws_of 1464 (by decide +kernel), ws_of 1465 (by decide +kernel)⟩
theorem k_L_172 : KV RL 172 yX9_isGood cX9_isGood 2 (some .boolean) 1 := ⟨bX9_isGood, ws_of 1463 (by decide +kernel), biX9_isGood.1, biX9_isGood.2⟩
set_option maxRecDepth 100000 in
theorem bX9_copy {own : String} {idx : Nat} : KB own idx yX9_copy cX9_copy 4 (some .int) 1 := ⟨aw_mem_ws (i := 1470) rfl rfl, h_ini_X9, ⟨⟨by decide, by decide⟩, by decide +kernel⟩⟩
theorem biX9_copy : Cond.instanceMethod yX9_copy ∈ WS ∧ Cond.selects RX9 yX9_copy yX9_copy ∈ WS := ⟨ws_of 1468 (by decide +kernel), ws_of 1469 (by decide +kernel)⟩
theorem k_L_175 : KV RL 175 yX9_copy cX9_copy 4 (some .int) 1 := ⟨bX9_copy, ws_of 1467 (by decide +kernel), biX9_copy.1, biX9_copy.2⟩
set_option maxRecDepth 100000 in
theorem bX9_lose {own : String} {idx : Nat} : KB own idx yX9_lose cX9_lose 3 (some .int) 1 := ⟨aw_mem_ws (i := 1474) rfl rfl, h_ini_X9, ⟨⟨by decide, by decide⟩, by decide +kernel⟩⟩
theorem biX9_lose : Cond.instanceMethod yX9_lose ∈ WS ∧ Cond.selects RX9 yX9_lose yX9_lose ∈ WS := ⟨ws_of 1472 (by decide +kernel), ws_of 1473 (by decide +kernel)⟩
theorem k_L_178 : KV RL 178 yX9_lose cX9_lose 3 (some .int) 1 := ⟨bX9_lose, ws_of 1471 (by decide +kernel), biX9_lose.1, biX9_lose.2⟩
set_option maxRecDepth 100000 in
theorem bX9_least {own : String} {idx : Nat} : KB own idx yX9_least cX9_least 2 (some .int) 1 := ⟨aw_mem_ws (i := 1478) rfl rfl, h_ini_X9, ⟨⟨by decide, by decide⟩, by decide +kernel⟩⟩
theorem biX9_least : Cond.instanceMethod yX9_least ∈ WS ∧ Cond.selects RX9 yX9_least yX9_least ∈ WS := ⟨ws_of 1477 (by decide +kernel), ws_of 60 (by decide +kernel)⟩
theorem k_X9_192 : KV RX9 192 yX9_least cX9_least 2 (some .int) 1 := ⟨bX9_least, ws_of 1475 (by decide +kernel), biX9_least.1, biX9_least.2⟩
set_option maxRecDepth 100000 in
theorem bX9_proof {own : String} {idx : Nat} : KB own idx yX9_proof cX9_proof 2 (some .int) 1 := ⟨aw_mem_ws (i := 1482) rfl rfl, h_ini_X9, ⟨⟨by decide, by decide⟩, by decide +kernel⟩⟩
theorem biX9_proof : Cond.instanceMethod yX9_proof ∈ WS ∧ Cond.selects RX9 yX9_proof yX9_proof ∈ WS := ⟨ws_of 1480 (by decide +kernel), ws_of 1481 (by decide +kernel)⟩
theorem k_L_181 : KV RL 181 yX9_proof cX9_proof 2 (some .int) 1 := ⟨bX9_proof, ws_of 1479 (by decide +kernel), biX9_proof.1, biX9_proof.2⟩
set_option maxRecDepth 100000 in
theorem bX9_enter {own : String} {idx : Nat} : KB own idx yX9_enter cX9_enter 5 (some .int) 1 := ⟨aw_mem_ws (i := 1486) rfl rfl, h_ini_X9, ⟨⟨by decide, by decide⟩, by decide +kernel⟩⟩
theorem biX9_enter : Cond.instanceMethod yX9_enter ∈ WS ∧ Cond.selects RX9 yX9_enter yX9_enter ∈ WS := ⟨ws_of 1484 (by decide +kernel), ws_of 1485 (by decide +kernel)⟩
theorem k_L_184 : KV RL 184 yX9_enter cX9_enter 5 (some .int) 1 := ⟨bX9_enter, ws_of 1483 (by decide +kernel), biX9_enter.1, biX9_enter.2⟩
set_option maxRecDepth 100000 in
theorem bX9_canEnter {own : String} {idx : Nat} : KB own idx yX9_canEnter cX9_canEnter 5 (some .boolean) 1 := ⟨aw_mem_ws (i := 1490) rfl rfl, h_ini_X9, ⟨⟨by decide, by decide⟩, by decide +kernel⟩⟩
theorem biX9_canEnter : Cond.instanceMethod yX9_canEnter ∈ WS ∧ Cond.selects RX9 yX9_canEnter yX9_canEnter ∈ WS := ⟨ws_of 1489 (by decide +kernel), ws_of 61 (by decide +kernel)⟩
theorem k_X9_211 : KV RX9 211 yX9_canEnter cX9_canEnter 5 (some .boolean) 1 := ⟨bX9_canEnter, ws_of 1487 (by decide +kernel), biX9_canEnter.1, biX9_canEnter.2⟩
set_option maxRecDepth 100000 in
theorem bX9_laysNew {own : String} {idx : Nat} : KB own idx yX9_laysNew cX9_laysNew 2 none 0 := ⟨aw_mem_ws (i := 1494) rfl rfl, h_ini_X9, ⟨⟨by decide, by decide⟩, by decide +kernel⟩⟩
theorem biX9_laysNew : Cond.instanceMethod yX9_laysNew ∈ WS ∧ Cond.selects RX9 yX9_laysNew yX9_laysNew ∈ WS := ⟨ws_of 1493 (by decide +kernel), ws_of 62 (by decide +kernel)⟩
theorem k_X9_204 : KV RX9 204 yX9_laysNew cX9_laysNew 2 none 0 := ⟨bX9_laysNew, ws_of 1491 (by decide +kernel), biX9_laysNew.1, biX9_laysNew.2⟩
set_option maxRecDepth 100000 in
theorem bX9_adds {own : String} {idx : Nat} : KB own idx yX9_adds cX9_adds 12 (some .boolean) 3 := ⟨aw_mem_ws (i := 1498) rfl rfl, h_ini_X9, ⟨⟨by decide, by decide⟩, by decide +kernel⟩⟩
theorem biX9_adds : Cond.instanceMethod yX9_adds ∈ WS ∧ Cond.selects RX9 yX9_adds yX9_adds ∈ WS := ⟨ws_of 1497 (by decide +kernel), ws_of 63 (by decide +kernel)⟩
theorem k_X9_207 : KV RX9 207 yX9_adds cX9_adds 12 (some .boolean) 3 := ⟨bX9_adds, ws_of 1495 (by decide +kernel), biX9_adds.1, biX9_adds.2⟩
set_option maxRecDepth 100000 in
theorem bX9_common {own : String} {idx : Nat} : KB own idx yX9_common cX9_common 10 (some .long) 2 := ⟨aw_mem_ws (i := 1501) rfl rfl, h_ini_X9, ⟨⟨by decide, by decide⟩, by decide +kernel⟩⟩
theorem bsX9_common : Cond.static yX9_common ∈ WS := ws_of 1500 (by decide +kernel)
theorem k_X9_195 : KS RX9 195 yX9_common cX9_common 10 (some .long) 2 := ⟨bX9_common, ws_of 1499 (by decide +kernel), bsX9_common⟩
set_option maxRecDepth 100000 in
theorem bX9_takesNew {own : String} {idx : Nat} : KB own idx yX9_takesNew cX9_takesNew 2 none 0 := ⟨aw_mem_ws (i := 1506) rfl rfl, h_ini_X9, ⟨⟨by decide, by decide⟩, by decide +kernel⟩⟩
theorem biX9_takesNew : Cond.instanceMethod yX9_takesNew ∈ WS ∧ Cond.selects RX9 yX9_takesNew yX9_takesNew ∈ WS := ⟨ws_of 1505 (by decide +kernel), ws_of 64 (by decide +kernel)⟩
theorem k_X9_214 : KV RX9 214 yX9_takesNew cX9_takesNew 2 none 0 := ⟨bX9_takesNew, ws_of 1503 (by decide +kernel), biX9_takesNew.1, biX9_takesNew.2⟩
set_option maxRecDepth 100000 in
theorem bX9_comes {own : String} {idx : Nat} : KB own idx yX9_comes cX9_comes 4 (some .int) 3 := ⟨aw_mem_ws (i := 1510) rfl rfl, h_ini_X9, ⟨⟨by decide, by decide⟩, by decide +kernel⟩⟩
theorem biX9_comes : Cond.instanceMethod yX9_comes ∈ WS ∧ Cond.selects RX9 yX9_comes yX9_comes ∈ WS := ⟨ws_of 1509 (by decide +kernel), ws_of 65 (by decide +kernel)⟩
theorem k_X9_221 : KV RX9 221 yX9_comes cX9_comes 4 (some .int) 3 := ⟨bX9_comes, ws_of 1507 (by decide +kernel), biX9_comes.1, biX9_comes.2⟩
set_option maxRecDepth 100000 in
theorem bX9_die {own : String} {idx : Nat} : KB own idx yX9_die cX9_die 5 (some .int) 1 := ⟨aw_mem_ws (i := 1514) rfl rfl, h_ini_X9, ⟨⟨by decide, by decide⟩, by decide +kernel⟩⟩
theorem biX9_die : Cond.instanceMethod yX9_die ∈ WS ∧ Cond.selects RX9 yX9_die yX9_die ∈ WS := ⟨ws_of 1512 (by decide +kernel), ws_of 1513 (by decide +kernel)⟩
theorem k_L_187 : KV RL 187 yX9_die cX9_die 5 (some .int) 1 := ⟨bX9_die, ws_of 1511 (by decide +kernel), biX9_die.1, biX9_die.2⟩
set_option maxRecDepth 100000 in
theorem bX9_leaves {own : String} {idx : Nat} : KB own idx yX9_leaves cX9_leaves 23 (some .boolean) 2 := ⟨aw_mem_ws (i := 1518) rfl rfl, h_ini_X9, ⟨⟨by decide, by decide⟩, by decide +kernel⟩⟩
theorem biX9_leaves : Cond.instanceMethod yX9_leaves ∈ WS ∧ Cond.selects RX9 yX9_leaves yX9_leaves ∈ WS := ⟨ws_of 1517 (by decide +kernel), ws_of 66 (by decide +kernel)⟩
theorem k_X9_237 : KV RX9 237 yX9_leaves cX9_leaves 23 (some .boolean) 2 := ⟨bX9_leaves, ws_of 1515 (by decide +kernel), biX9_leaves.1, biX9_leaves.2⟩
set_option maxRecDepth 100000 in
theorem bX9_willOf {own : String} {idx : Nat} : KB own idx yX9_willOf cX9_willOf 5 (some .int) 1 := ⟨aw_mem_ws (i := 1522) rfl rfl, h_ini_X9, ⟨⟨by decide, by decide⟩, by decide +kernel⟩⟩
theorem biX9_willOf : Cond.instanceMethod yX9_willOf ∈ WS ∧ Cond.selects RX9 yX9_willOf yX9_willOf ∈ WS := ⟨ws_of 1521 (by decide +kernel), ws_of 67 (by decide +kernel)⟩
theorem k_X9_228 : KV RX9 228 yX9_willOf cX9_willOf 5 (some .int) 1 := ⟨bX9_willOf, ws_of 1519 (by decide +kernel), biX9_willOf.1, biX9_willOf.2⟩
set_option maxRecDepth 100000 in
theorem bX9_heirs {own : String} {idx : Nat} : KB own idx yX9_heirs cX9_heirs 5 (some .int) 2 := ⟨aw_mem_ws (i := 1526) rfl rfl, h_ini_X9, ⟨⟨by decide, by decide⟩, by decide +kernel⟩⟩
theorem biX9_heirs : Cond.instanceMethod yX9_heirs ∈ WS ∧ Cond.selects RX9 yX9_heirs yX9_heirs ∈ WS := ⟨ws_of 1525 (by decide +kernel), ws_of 68 (by decide +kernel)⟩
theorem k_X9_231 : KV RX9 231 yX9_heirs cX9_heirs 5 (some .int) 2 := ⟨bX9_heirs, ws_of 1523 (by decide +kernel), biX9_heirs.1, biX9_heirs.2⟩
set_option maxRecDepth 100000 in
theorem bX9_isHeir {own : String} {idx : Nat} : KB own idx yX9_isHeir cX9_isHeir 4 (some .boolean) 3 := ⟨aw_mem_ws (i := 1530) rfl rfl, h_ini_X9, ⟨⟨by decide, by decide⟩, by decide +kernel⟩⟩
theorem biX9_isHeir : Cond.instanceMethod yX9_isHeir ∈ WS ∧ Cond.selects RX9 yX9_isHeir yX9_isHeir ∈ WS := ⟨ws_of 1529 (by decide +kernel), ws_of 69 (by decide +kernel)⟩
theorem k_X9_224 : KV RX9 224 yX9_isHeir cX9_isHeir 4 (some .boolean) 3 := ⟨bX9_isHeir, ws_of 1527 (by decide +kernel), biX9_isHeir.1, biX9_isHeir.2⟩
set_option maxRecDepth 100000 in
theorem bX9_entry {own : String} {idx : Nat} : KB own idx yX9_entry cX9_entry 3 (some .int) 2 := ⟨aw_mem_ws (i := 1535) rfl rfl, h_ini_X9, ⟨⟨by decide, by decide⟩, by decide +kernel⟩⟩
theorem biX9_entry : Cond.instanceMethod yX9_entry ∈ WS ∧ Cond.selects RX9 yX9_entry yX9_entry ∈ WS := ⟨ws_of 1533 (by decide +kernel), ws_of 1534 (by decide +kernel)⟩
theorem k_L_190 : KV RL 190 yX9_entry cX9_entry 3 (some .int) 2 := ⟨bX9_entry, ws_of 1532 (by decide +kernel), biX9_entry.1, biX9_entry.2⟩
set_option maxRecDepth 100000 in
theorem bX9_entries {own : String} {idx : Nat} : KB own idx yX9_entries cX9_entries 1 (some .int) 0 := ⟨aw_mem_ws (i := 1539) rfl rfl, h_ini_X9, ⟨⟨by decide, by decide⟩, by decide +kernel⟩⟩
theorem biX9_entries : Cond.instanceMethod yX9_entries ∈ WS ∧ Cond.selects RX9 yX9_entries yX9_entries ∈ WS := ⟨ws_of 1537 (by decide +kernel), ws_of 1538 (by decide +kernel)⟩
theorem k_L_194 : KV RL 194 yX9_entries cX9_entries 1 (some .int) 0 := ⟨bX9_entries, ws_of 1536 (by decide +kernel), biX9_entries.1, biX9_entries.2⟩
set_option maxRecDepth 100000 in
theorem bX9_search {own : String} {idx : Nat} : KB own idx yX9_search cX9_search 6 (some .int) 3 := ⟨aw_mem_ws (i := 1543) rfl rfl, h_ini_X9, ⟨⟨by decide, by decide⟩, by decide +kernel⟩⟩
theorem biX9_search : Cond.instanceMethod yX9_search ∈ WS ∧ Cond.selects RX9 yX9_search yX9_search ∈ WS := ⟨ws_of 1541 (by decide +kernel), ws_of 1542 (by decide +kernel)⟩
theorem k_L_198 : KV RL 198 yX9_search cX9_search 6 (some .int) 3 := ⟨bX9_search, ws_of 1540 (by decide +kernel), biX9_search.1, biX9_search.2⟩
set_option maxRecDepth 100000 in
theorem bX9_pledge {own : String} {idx : Nat} : KB own idx yX9_pledge cX9_pledge 5 (some .int) 2 := ⟨aw_mem_ws (i := 1547) rfl rfl, h_ini_X9, ⟨⟨by decide, by decide⟩, by decide +kernel⟩⟩
theorem biX9_pledge : Cond.instanceMethod yX9_pledge ∈ WS ∧ Cond.selects RX9 yX9_pledge yX9_pledge ∈ WS := ⟨ws_of 1545 (by decide +kernel), ws_of 1546 (by decide +kernel)⟩
theorem k_L_201 : KV RL 201 yX9_pledge cX9_pledge 5 (some .int) 2 := ⟨bX9_pledge, ws_of 1544 (by decide +kernel), biX9_pledge.1, biX9_pledge.2⟩
set_option maxRecDepth 100000 in
theorem bX9_share {own : String} {idx : Nat} : KB own idx yX9_share cX9_share 5 (some .int) 3 := ⟨aw_mem_ws (i := 1551) rfl rfl, h_ini_X9, ⟨⟨by decide, by decide⟩, by decide +kernel⟩⟩
theorem biX9_share : Cond.instanceMethod yX9_share ∈ WS ∧ Cond.selects RX9 yX9_share yX9_share ∈ WS := ⟨ws_of 1549 (by decide +kernel), ws_of 1550 (by decide +kernel)⟩
theorem k_L_205 : KV RL 205 yX9_share cX9_share 5 (some .int) 3 := ⟨bX9_share, ws_of 1548 (by decide +kernel), biX9_share.1, biX9_share.2⟩
set_option maxRecDepth 100000 in
theorem bX9_shareAnew {own : String} {idx : Nat} : KB own idx yX9_shareAnew cX9_shareAnew 4 (some .int) 3 := ⟨aw_mem_ws (i := 1555) rfl rfl, h_ini_X9, ⟨⟨by decide, by decide⟩, by decide +kernel⟩⟩
theorem biX9_shareAnew : Cond.instanceMethod yX9_shareAnew ∈ WS ∧ Cond.selects RX9 yX9_shareAnew yX9_shareAnew ∈ WS := ⟨ws_of 1553 (by decide +kernel), ws_of 1554 (by decide +kernel)⟩
theorem k_L_208 : KV RL 208 yX9_shareAnew cX9_shareAnew 4 (some .int) 3 := ⟨bX9_shareAnew, ws_of 1552 (by decide +kernel), biX9_shareAnew.1, biX9_shareAnew.2⟩
theorem k_X9_240 : KV RX9 240 yX9_share cX9_share 5 (some .int) 3 := ⟨bX9_share, ws_of 1556 (by decide +kernel), biX9_share.1, biX9_share.2⟩
set_option maxRecDepth 100000 in
theorem bX9_duties {own : String} {idx : Nat} : KB own idx yX9_duties cX9_duties 1 (some .long) 0 := ⟨aw_mem_ws (i := 1560) rfl rfl, h_ini_X9, ⟨⟨by decide, by decide⟩, by decide +kernel⟩⟩
theorem biX9_duties : Cond.instanceMethod yX9_duties ∈ WS ∧ Cond.selects RX9 yX9_duties yX9_duties ∈ WS := ⟨ws_of 1558 (by decide +kernel), ws_of 1559 (by decide +kernel)⟩
theorem k_L_213 : KV RL 213 yX9_duties cX9_duties 1 (some .long) 0 := ⟨bX9_duties, ws_of 1557 (by decide +kernel), biX9_duties.1, biX9_duties.2⟩
set_option maxRecDepth 100000 in
theorem bX9_pass {own : String} {idx : Nat} : KB own idx yX9_pass cX9_pass 2 (some .int) 1 := ⟨aw_mem_ws (i := 1564) rfl rfl, h_ini_X9, ⟨⟨by decide, by decide⟩, by decide +kernel⟩⟩
theorem biX9_pass : Cond.instanceMethod yX9_pass ∈ WS ∧ Cond.selects RX9 yX9_pass yX9_pass ∈ WS := ⟨ws_of 1562 (by decide +kernel), ws_of 1563 (by decide +kernel)⟩
theorem k_L_216 : KV RL 216 yX9_pass cX9_pass 2 (some .int) 1 := ⟨bX9_pass, ws_of 1561 (by decide +kernel), biX9_pass.1, biX9_pass.2⟩
theorem h_L_8 : Cond.classLink RL 8 "DeedProtocol" ∈ WS := ws_of 103 (by decide +kernel)
theorem h_new_X8 : Cond.instantiable RX8 8 ∈ WS := ws_of 104 (by decide +kernel)
theorem h_X8_9 : Cond.classLink RX8 9 "java/util/ArrayList" ∈ WS := ws_of 111 (by decide +kernel)
theorem h_new_Jx4a65c : Cond.instantiable RJx4a65c 3 ∈ WS := ws_of 112 (by decide +kernel)
theorem h_X8_25 : Cond.classLink RX8 25 "DeedProtocol$Shares" ∈ WS := ws_of 137 (by decide +kernel)
theorem h_new_X6 : Cond.instantiable RX6 2 ∈ WS := ws_of 138 (by decide +kernel)
theorem h_arr_long : Cond.arrayClass .long ∈ WS := ws_of 150 (by decide +kernel)
theorem h_L_13 : Cond.classLink RL 13 "java/lang/IllegalArgumentException" ∈ WS := ws_of 191 (by decide +kernel)
theorem h_L_15 : Cond.classLink RL 15 "java/lang/IllegalStateException" ∈ WS := ws_of 192 (by decide +kernel)
theorem h_X8_43 : Cond.classLink RX8 43 "java/lang/IllegalArgumentException" ∈ WS := ws_of 197 (by decide +kernel)
theorem h_arr_byte : Cond.arrayClass .byte ∈ WS := ws_of 264 (by decide +kernel)
theorem h_X8_54 : Cond.classLink RX8 54 "java/lang/IllegalStateException" ∈ WS := ws_of 265 (by decide +kernel)
theorem h_X8_59 : Cond.classLink RX8 59 "DeedProtocol$Person" ∈ WS := ws_of 281 (by decide +kernel)
theorem h_new_X5 : Cond.instantiable RX5 7 ∈ WS := ws_of 282 (by decide +kernel)
theorem q_J8_200 : Cond.constant RJ8 200 2147483639 ∈ WS := ws_of 336 (by decide +kernel)
theorem h_J7_110 : Cond.classLink RJ7 110 "[Ljava/lang/Object;" ∈ WS := ws_of 365 (by decide +kernel)
theorem h_J7_2 : Cond.classLink RJ7 2 "java/lang/Object" ∈ WS := ws_of 367 (by decide +kernel)
theorem h_Jx4a65c_7 : Cond.classLink RJx4a65c 7 "java/lang/Object" ∈ WS := ws_of 375 (by decide +kernel)
theorem h_L_21 : Cond.classLink RL 21 "java/lang/IndexOutOfBoundsException" ∈ WS := ws_of 379 (by decide +kernel)
theorem h_X8_242 : Cond.classLink RX8 242 "java/lang/IndexOutOfBoundsException" ∈ WS := ws_of 388 (by decide +kernel)
theorem q_J6_265 : Cond.constant RJ6 265 1431655765 ∈ WS := ws_of 426 (by decide +kernel)
theorem q_J6_266 : Cond.constant RJ6 266 858993459 ∈ WS := ws_of 427 (by decide +kernel)
theorem q_J6_267 : Cond.constant RJ6 267 252645135 ∈ WS := ws_of 428 (by decide +kernel)
theorem q_X8_106 : Cond.constant RX8 106 1000000 ∈ WS := ws_of 457 (by decide +kernel)
theorem h_X8_111 : Cond.classLink RX8 111 "DeedProtocol$Thing" ∈ WS := ws_of 460 (by decide +kernel)
theorem h_new_X7 : Cond.instantiable RX7 4 ∈ WS := ws_of 461 (by decide +kernel)
theorem h_X7_7 : Cond.classLink RX7 7 "DeedProtocol$Shares" ∈ WS := ws_of 466 (by decide +kernel)
theorem h_X8_137 : Cond.classLink RX8 137 "DeedProtocol$Deed" ∈ WS := ws_of 524 (by decide +kernel)
theorem h_new_X0 : Cond.instantiable RX0 15 ∈ WS := ws_of 525 (by decide +kernel)
theorem h_X0_9 : Cond.classLink RX0 9 "DeedProtocol$Papers" ∈ WS := ws_of 530 (by decide +kernel)
theorem h_new_X4 : Cond.instantiable RX4 2 ∈ WS := ws_of 531 (by decide +kernel)
theorem h_arr_int : Cond.arrayClass .int ∈ WS := ws_of 544 (by decide +kernel)
theorem h_X8_148 : Cond.classLink RX8 148 "DeedProtocol$Mandate" ∈ WS := ws_of 617 (by decide +kernel)
theorem h_new_X2 : Cond.instantiable RX2 5 ∈ WS := ws_of 618 (by decide +kernel)
theorem h_X8_247 : Cond.classLink RX8 247 "java/lang/StringBuilder" ∈ WS := ws_of 769 (by decide +kernel)
theorem h_new_J4 : Cond.instantiable RJ4 4 ∈ WS := ws_of 770 (by decide +kernel)
theorem q_J2_20 : Cond.constant RJ2 20 1073741823 ∈ WS := ws_of 786 (by decide +kernel)
theorem q_J5_39 : Cond.constant RJ5 39 2147483647 ∈ WS := ws_of 818 (by decide +kernel)
theorem h_J7_311 : Cond.classLink RJ7 311 "[B" ∈ WS := ws_of 828 (by decide +kernel)
theorem h_X8_446 : Cond.classLink RX8 446 "DeedProtocol$Move" ∈ WS := ws_of 996 (by decide +kernel)
theorem h_new_X3 : Cond.instantiable RX3 5 ∈ WS := ws_of 997 (by decide +kernel)
theorem q_X6_22 : Cond.constantLong RX6 22 1000000 ∈ WS := ws_of 1058 (by decide +kernel)
theorem q_X8_461 : Cond.constantLong RX8 461 20 ∈ WS := ws_of 1063 (by decide +kernel)
theorem q_X8_463 : Cond.constantLong RX8 463 100 ∈ WS := ws_of 1064 (by decide +kernel)
theorem h_X8_330 : Cond.classLink RX8 330 "DeedProtocol$Entry" ∈ WS := ws_of 1065 (by decide +kernel)
theorem h_new_X1 : Cond.instantiable RX1 5 ∈ WS := ws_of 1066 (by decide +kernel)
theorem h_L_109 : Cond.classLink RL 109 "DeedProtocolModel" ∈ WS := ws_of 1199 (by decide +kernel)
theorem h_new_X9 : Cond.instantiable RX9 43 ∈ WS := ws_of 1200 (by decide +kernel)
theorem h_arr_boolean : Cond.arrayClass .boolean ∈ WS := ws_of 1335 (by decide +kernel)
theorem q_X9_145 : Cond.constant RX9 145 1000000 ∈ WS := ws_of 1367 (by decide +kernel)
theorem q_X9_199 : Cond.constantLong RX9 199 1000000 ∈ WS := ws_of 1502 (by decide +kernel)
theorem q_X9_235 : Cond.constantLong RX9 235 2 ∈ WS := ws_of 1531 (by decide +kernel)
end
section
/-! the reference's state u: its int and boolean rows (1), its long rows (2), its counters (3), the day (4), the duties (5); names of rows: the fields' places -/
abbrev MU : Type := (Nat → Nat → Int32) × (Nat → Nat → Int64) × (Nat → Nat) × Int32 × Int64
abbrev MU.I (u : MU) : Nat → Nat → Int32 := u.1
abbrev MU.J (u : MU) : Nat → Nat → Int64 := u.2.1
abbrev MU.N (u : MU) : Nat → Nat := u.2.2.1
abbrev MU.day (u : MU) : Int32 := u.2.2.2.1
abbrev MU.dut (u : MU) : Int64 := u.2.2.2.2
def b2i (b : Bool) : Int32 := if b then 1 else 0
theorem b2i_t : b2i true = 1 := rfl
theorem b2i_f : b2i false = 0 := rfl
theorem b2i_0 {b : Bool} : b2i b = 0 ↔ b = false := by cases b <;> decide
theorem b2i_1 {b : Bool} : b2i b = 1 ↔ b = true := by cases b <;> decide
theorem nar_b2i (b : Bool) : vp_nar .boolean (b2i b) = b2i b := by cases b <;> decide
theorem nrw_b2i (b : Bool) : narrow .boolean (.int (b2i b)) = .int (b2i b) := by cases b <;> decide
theorem fit_b2i (b : Bool) : fits .boolean (.int (b2i b)) = true := by cases b <;> decide
def uI (u : MU) (k i : Nat) (v : Int32) : MU := (fun a => if a = k then upd (u.1 k) i v else u.1 a, u.2)
def uJ (u : MU) (k i : Nat) (v : Int64) : MU := (u.1, fun a => if a = k then vp_updL (u.2.1 k) i v else u.2.1 a, u.2.2)
def uN (u : MU) (k n : Nat) : MU := (u.1, u.2.1, fun a => if a = k then n else u.2.2.1 a, u.2.2.2)
def uD (u : MU) (d : Int32) : MU := (u.1, u.2.1, u.2.2.1, d, u.2.2.2.2)
def uT (u : MU) (d : Int64) : MU := (u.1, u.2.1, u.2.2.1, u.2.2.2.1, d)
def mk : Nat → Nat
  | 0 => 9 | 3 => 1 | 4 => 1 | 5 => 2 | 6 => 2 | 7 => 1 | 8 => 1 | 9 => 1 | 11 => 1 | 12 => 1 | 13 => 1 | 14 => 1 | 15 => 1 | 16 => 1 | 17 => 1 | 18 => 2 | 19 => 1 | 20 => 1 | 21 => 1 | 22 => 1 | 23 => 1 | 24 => 1 | 25 => 1 | 26 => 2 | 27 => 2 | 28 => 1 | 29 => 1 | 32 => 1 | 33 => 3 | 34 => 3 | 36 => 1 | 37 => 1 | 38 => 1 | 39 => 1 | 41 => 3 | 42 => 3
  | _ => 0
def mlen : Nat → Nat
  | 3 => 12 | 4 => 12 | 5 => 12 | 6 => 12 | 7 => 24 | 8 => 12 | 9 => 12 | 28 => 240 | 32 => 8 | 33 => 104 | 34 => 104 | 36 => 100 | 37 => 100 | 38 => 100 | 39 => 100 | 41 => 104 | 42 => 104
  | _ => 60
def mfs (ad : Nat → Nat) (th : Int32) (u : MU) : List Value :=
  [.int th, .int u.2.2.2.1, .int (nI (u.2.2.1 2)), .ref (ad 3), .ref (ad 4), .ref (ad 5), .ref (ad 6), .ref (ad 7), .ref (ad 8), .ref (ad 9), .int (nI (u.2.2.1 10)), .ref (ad 11), .ref (ad 12), .ref (ad 13), .ref (ad 14), .ref (ad 15), .ref (ad 16), .ref (ad 17), .ref (ad 18), .ref (ad 19), .ref (ad 20), .ref (ad 21), .ref (ad 22), .ref (ad 23), .ref (ad 24), .ref (ad 25), .ref (ad 26), .ref (ad 27), .ref (ad 28), .ref (ad 29), .int (nI (u.2.2.1 30)), .int (nI (u.2.2.1 31)), .ref (ad 32), .ref (ad 33), .ref (ad 34), .int (nI (u.2.2.1 35)), .ref (ad 36), .ref (ad 37), .ref (ad 38), .ref (ad 39), .long u.2.2.2.2, .ref (ad 41), .ref (ad 42)]
/-- the store holds the reference's object at ad 0, its rows at ad k -/
def MS (g : Gx) (ad : Nat → Nat) (th : Int32) (u : MU) (sg : Sg) : Prop :=
  sg (ad 0) = some (ob 11 (mfs ad th u)) ∧ (∀ k, mk k = 1 → sg (ad k) = some (arI g (mlen k) (u.1 k))) ∧ (∀ k, mk k = 2 → sg (ad k) = some (arZ g (mlen k) (u.1 k))) ∧ (∀ k, mk k = 3 → sg (ad k) = some (arJ g (mlen k) (u.2.1 k))) ∧ ∀ i j, mk i ≠ 0 → mk j ≠ 0 → ad i = ad j → i = j
/-- beside the reference's cells nothing has changed -/
def MF (ad : Nat → Nat) (sg0 sg : Sg) : Prop := ∀ a, (∀ i, mk i ≠ 0 → a ≠ ad i) → sg a = sg0 a
theorem MF.rf {ad : Nat → Nat} {sg : Sg} : MF ad sg sg := fun _ _ => rfl
theorem MF.tr {ad : Nat → Nat} {s1 s2 s3 : Sg} (h1 : MF ad s1 s2) (h2 : MF ad s2 s3) : MF ad s1 s3 := fun a h => (h2 a h).trans (h1 a h)
theorem MF.put {ad : Nat → Nat} {s1 s2 : Sg} (h : MF ad s1 s2) {k : Nat} (hk : mk k ≠ 0) {e : va_E} : MF ad s1 (sgu s2 (ad k) e) := fun a ha => by
  rw [sgu_n (ha k hk)]
  exact h a ha
theorem MS.setI {g : Gx} {ad : Nat → Nat} {th : Int32} {u : MU} {sg : Sg} (h : MS g ad th u sg) {k i : Nat} {v : Int32} (hk : mk k = 1) : MS g ad th (uI u k i v) (sgu sg (ad k) (arI g (mlen k) (upd (u.1 k) i v))) := by
  obtain ⟨h0, h1, h2, h3, hj⟩ := h
  have ne : ∀ j, mk j ≠ 0 → j ≠ k → ad j ≠ ad k := fun j hm hn z => hn (hj j k hm (by omega) z)
  refine ⟨?_, fun j hm => ?_, fun j hm => ?_, fun j hm => ?_, hj⟩
  · rw [sgu_n (ne 0 (by decide) (fun z => by rw [← z] at hk; cases hk))]
    exact h0
  · by_cases z : j = k
    · subst z
      rw [sgu_s]
      simp only [uI, if_true]
    · rw [sgu_n (ne j (by omega) z), h1 j hm]
      simp only [uI, if_neg z]
  · have z : j ≠ k := fun z => by subst z; omega
    rw [sgu_n (ne j (by omega) z), h2 j hm]
    simp only [uI, if_neg z]
  · have z : j ≠ k := fun z => by subst z; omega
    rw [sgu_n (ne j (by omega) z), h3 j hm]
    rfl
theorem MS.setZ {g : Gx} {ad : Nat → Nat} {th : Int32} {u : MU} {sg : Sg} (h : MS g ad th u sg) {k i : Nat} {v : Int32} (hk : mk k = 2) : MS g ad th (uI u k i v) (sgu sg (ad k) (arZ g (mlen k) (upd (u.1 k) i v))) := by
  obtain ⟨h0, h1, h2, h3, hj⟩ := h
  have ne : ∀ j, mk j ≠ 0 → j ≠ k → ad j ≠ ad k := fun j hm hn z => hn (hj j k hm (by omega) z)
  refine ⟨?_, fun j hm => ?_, fun j hm => ?_, fun j hm => ?_, hj⟩
  · rw [sgu_n (ne 0 (by decide) (fun z => by rw [← z] at hk; cases hk))]
    exact h0
  · have z : j ≠ k := fun z => by subst z; omega
    rw [sgu_n (ne j (by omega) z), h1 j hm]
    simp only [uI, if_neg z]
  · by_cases z : j = k
    · subst z
      rw [sgu_s]
      simp only [uI, if_true]
    · rw [sgu_n (ne j (by omega) z), h2 j hm]
      simp only [uI, if_neg z]
  · have z : j ≠ k := fun z => by subst z; omega
    rw [sgu_n (ne j (by omega) z), h3 j hm]
    rfl
theorem MS.setJ {g : Gx} {ad : Nat → Nat} {th : Int32} {u : MU} {sg : Sg} (h : MS g ad th u sg) {k i : Nat} {v : Int64} (hk : mk k = 3) : MS g ad th (uJ u k i v) (sgu sg (ad k) (arJ g (mlen k) (vp_updL (u.2.1 k) i v))) := by
  obtain ⟨h0, h1, h2, h3, hj⟩ := h
  have ne : ∀ j, mk j ≠ 0 → j ≠ k → ad j ≠ ad k := fun j hm hn z => hn (hj j k hm (by omega) z)
  refine ⟨?_, fun j hm => ?_, fun j hm => ?_, fun j hm => ?_, hj⟩
  · rw [sgu_n (ne 0 (by decide) (fun z => by rw [← z] at hk; cases hk))]
    exact h0
  · have z : j ≠ k := fun z => by subst z; omega
    rw [sgu_n (ne j (by omega) z), h1 j hm]
    rfl
  · have z : j ≠ k := fun z => by subst z; omega
    rw [sgu_n (ne j (by omega) z), h2 j hm]
    rfl
  · by_cases z : j = k
    · subst z
      rw [sgu_s]
      simp only [uJ, if_true]
    · rw [sgu_n (ne j (by omega) z), h3 j hm]
      simp only [uJ, if_neg z]
/-- a scalar's change: the object's fields alone -/
theorem MS.setS {g : Gx} {ad : Nat → Nat} {th th' : Int32} {u u' : MU} {sg : Sg} (h : MS g ad th u sg) (h1 : u'.1 = u.1) (h2 : u'.2.1 = u.2.1) : MS g ad th' u' (sgu sg (ad 0) (ob 11 (mfs ad th' u'))) := by
  obtain ⟨h0, g1, g2, g3, hj⟩ := h
  have ne : ∀ j, mk j ≠ 0 → j ≠ 0 → ad j ≠ ad 0 := fun j hm hn z => hn (hj j 0 hm (by decide) z)
  refine ⟨sgu_s, fun j hm => ?_, fun j hm => ?_, fun j hm => ?_, hj⟩
  · rw [sgu_n (ne j (by omega) (fun z => by subst z; cases hm)), g1 j hm, h1]
  · rw [sgu_n (ne j (by omega) (fun z => by subst z; cases hm)), g2 j hm, h1]
  · rw [sgu_n (ne j (by omega) (fun z => by subst z; cases hm)), g3 j hm, h2]
def rmM (h : Nat) : Room := { frames := h, cells := 0, slots := 0, locals := 40 * h }
section MW
variable {x : Cx} {Q : State → Prop} {c n : Nat} {sg sg0 : Sg} {pc : Nat} {ls : List (Nat × Value)} {st : List Value} {cc : ByteArray} {nL : Nat} {own : String} {R : Room} {ret : Option FieldType} {pc' : Nat} {ad : Nat → Nat} {th : Int32} {u : MU} {k i N : Nat} {z v : Int32}
theorem mw_iald (C : AWC x cc nL own R ret) (hM : MS x.g ad th u sg) (hk : mk k = 1) (hN : mlen k = N) (hz : z = nI i) (hi : i < N) (hdg : decode cc pc = .ok (.iaload, 1)) (hpc : pc + 1 = pc') (kk : AW x Q c n sg pc' ls (.int (u.1 k i) :: st)) : AW x Q c n sg pc ls (.int z :: .ref (ad k) :: st) := by
  subst hN; subst hz
  have hl : i < 2 ^ 31 := Nat.lt_of_lt_of_le hi (by have : mlen k ≤ 240 := (by unfold mlen; split <;> decide); omega)
  refine aw_iald C (hM.2.1 k hk) (vp_in_nI hi (by have : mlen k ≤ 240 := (by unfold mlen; split <;> decide); omega)) hdg hpc ?_
  rw [nI_clamp hl]
  exact kk
theorem mw_zald (C : AWC x cc nL own R ret) (hM : MS x.g ad th u sg) (hk : mk k = 2) (hN : mlen k = N) (hz : z = nI i) (hi : i < N) (hdg : decode cc pc = .ok (.baload, 1)) (hpc : pc + 1 = pc') (kk : AW x Q c n sg pc' ls (.int (u.1 k i) :: st)) : AW x Q c n sg pc ls (.int z :: .ref (ad k) :: st) := by
  subst hN; subst hz
  have hl : i < 2 ^ 31 := Nat.lt_of_lt_of_le hi (by have : mlen k ≤ 240 := (by unfold mlen; split <;> decide); omega)
  refine aw_zald C (hM.2.2.1 k hk) (vp_in_nI hi (by have : mlen k ≤ 240 := (by unfold mlen; split <;> decide); omega)) hdg hpc ?_
  rw [nI_clamp hl]
  exact kk
theorem mw_lald (C : AWC x cc nL own R ret) (hM : MS x.g ad th u sg) (hk : mk k = 3) (hN : mlen k = N) (hz : z = nI i) (hi : i < N) (hdg : decode cc pc = .ok (.laload, 1)) (hpc : pc + 1 = pc') (kk : AW x Q c n sg pc' ls (.long (u.2.1 k i) :: st)) : AW x Q c n sg pc ls (.int z :: .ref (ad k) :: st) := by
  subst hN; subst hz
  have hl : i < 2 ^ 31 := Nat.lt_of_lt_of_le hi (by have : mlen k ≤ 240 := (by unfold mlen; split <;> decide); omega)
  refine aw_lald C (hM.2.2.2.1 k hk) (vp_in_nI hi (by have : mlen k ≤ 240 := (by unfold mlen; split <;> decide); omega)) hdg hpc ?_
  rw [nI_clamp hl]
  exact kk
theorem mw_iast (C : AWC x cc nL own R ret) (hM : MS x.g ad th u sg) (hF : MF ad sg0 sg) (hk : mk k = 1) (hN : mlen k = N) (hz : z = nI i) (hi : i < N) (hdg : decode cc pc = .ok (.iastore, 1)) (hpc : pc + 1 = pc') (kk : ∀ sg', MS x.g ad th (uI u k i v) sg' → MF ad sg0 sg' → AW x Q c n sg' pc' ls st) : AW x Q c n sg pc ls (.int v :: .int z :: .ref (ad k) :: st) := by
  subst hN; subst hz
  have hl : i < 2 ^ 31 := Nat.lt_of_lt_of_le hi (by have : mlen k ≤ 240 := (by unfold mlen; split <;> decide); omega)
  refine aw_iast C (hM.2.1 k hk) (vp_in_nI hi (by have : mlen k ≤ 240 := (by unfold mlen; split <;> decide); omega)) hdg hpc ?_
  rw [nI_clamp hl]
  exact kk _ (hM.setI hk) (hF.put (by omega))
theorem mw_zast (C : AWC x cc nL own R ret) (hM : MS x.g ad th u sg) (hF : MF ad sg0 sg) (hk : mk k = 2) (hN : mlen k = N) (hz : z = nI i) (hi : i < N) (hv : vp_nar .boolean v = v) (hdg : decode cc pc = .ok (.bastore, 1)) (hpc : pc + 1 = pc') (kk : ∀ sg', MS x.g ad th (uI u k i v) sg' → MF ad sg0 sg' → AW x Q c n sg' pc' ls st) : AW x Q c n sg pc ls (.int v :: .int z :: .ref (ad k) :: st) := by
  subst hN; subst hz
  have hl : i < 2 ^ 31 := Nat.lt_of_lt_of_le hi (by have : mlen k ≤ 240 := (by unfold mlen; split <;> decide); omega)
  refine aw_zast C (hM.2.2.1 k hk) (vp_in_nI hi (by have : mlen k ≤ 240 := (by unfold mlen; split <;> decide); omega)) hv hdg hpc ?_
  rw [nI_clamp hl]
  exact kk _ (hM.setZ hk) (hF.put (by omega))
theorem mw_last {w : Int64} (C : AWC x cc nL own R ret) (hM : MS x.g ad th u sg) (hF : MF ad sg0 sg) (hk : mk k = 3) (hN : mlen k = N) (hz : z = nI i) (hi : i < N) (hdg : decode cc pc = .ok (.lastore, 1)) (hpc : pc + 1 = pc') (kk : ∀ sg', MS x.g ad th (uJ u k i w) sg' → MF ad sg0 sg' → AW x Q c n sg' pc' ls st) : AW x Q c n sg pc ls (.long w :: .int z :: .ref (ad k) :: st) := by
  subst hN; subst hz
  have hl : i < 2 ^ 31 := Nat.lt_of_lt_of_le hi (by have : mlen k ≤ 240 := (by unfold mlen; split <;> decide); omega)
  refine aw_last C (hM.2.2.2.1 k hk) (vp_in_nI hi (by have : mlen k ≤ 240 := (by unfold mlen; split <;> decide); omega)) hdg hpc ?_
  rw [nI_clamp hl]
  exact kk _ (hM.setJ hk) (hF.put (by omega))
theorem mw_put {idx kf : Nat} {w : Value} {th' : Int32} {u' : MU} (C : AWC x cc nL own R ret) (hM : MS x.g ad th u sg) (hF : MF ad sg0 sg) (F : FL own idx 11 kf RX9 TX9 43 tyX9) (hf : (TX9 kf).2.2.2 = false) (hn : narrow (tyX9 kf) w = w) (hfit : fits (tyX9 kf) w = true) (hfs : (mfs ad th u).set kf w = mfs ad th' u') (h1 : u'.1 = u.1) (h2 : u'.2.1 = u.2.1) (hdg : decode cc pc = .ok (.putfield idx, 3)) (hpc : pc + 3 = pc') (kk : ∀ sg', MS x.g ad th' u' sg' → MF ad sg0 sg' → AW x Q c n sg' pc' ls st) : AW x Q c n sg pc ls (w :: .ref (ad 0) :: st) := by
  refine aw_putf C F hf hM.1 hn hfit (by have := F.2.1; exact this) hfs hdg hpc ?_
  exact kk _ (hM.setS h1 h2) (hF.put (by decide))
end MW
end
