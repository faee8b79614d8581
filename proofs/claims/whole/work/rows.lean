section
-- ===== PART A: goes FIRST, ahead of the names: the tables' words, and 'selects' of the private methods out of them =====
/-- a private method of a class that the tables say can be made, by its rows of tables_1 -/
def lw_okq (q : MethodName × Nat) : Prop := (q.1.cls ≠ "java/lang/invoke/MethodHandle" ∧ q.1.cls ≠ "java/lang/invoke/VarHandle") ∧ Cond.instantiable q.1.cls q.2 ∈ tables_1 ∧ Cond.privateMethod q.1 ∈ tables_1 ∧ Cond.instanceMethod q.1 ∈ tables_1
theorem lw_p0 : lw_okq (⟨"SignHouse$Message", "makeHash", "()V"⟩, 3) := ⟨⟨by decide +kernel, by decide +kernel⟩, List.mem_of_getElem? (i := 214) (by decide +kernel), List.mem_of_getElem? (i := 222) (by decide +kernel), List.mem_of_getElem? (i := 223) (by decide +kernel)⟩
theorem lw_p1 : lw_okq (⟨"SignHouse$Sha256", "extendSchedule", "()V"⟩, 2) := ⟨⟨by decide +kernel, by decide +kernel⟩, List.mem_of_getElem? (i := 36) (by decide +kernel), List.mem_of_getElem? (i := 235) (by decide +kernel), List.mem_of_getElem? (i := 236) (by decide +kernel)⟩
theorem lw_p2 : lw_okq (⟨"SignHouse$Sha256", "mixBlock", "()V"⟩, 2) := ⟨⟨by decide +kernel, by decide +kernel⟩, List.mem_of_getElem? (i := 36) (by decide +kernel), List.mem_of_getElem? (i := 242) (by decide +kernel), List.mem_of_getElem? (i := 243) (by decide +kernel)⟩
theorem lw_p3 : lw_okq (⟨"SignHouse$Draw", "putWord", "(I)V"⟩, 5) := ⟨⟨by decide +kernel, by decide +kernel⟩, List.mem_of_getElem? (i := 30) (by decide +kernel), List.mem_of_getElem? (i := 311) (by decide +kernel), List.mem_of_getElem? (i := 312) (by decide +kernel)⟩
theorem lw_p4 : lw_okq (⟨"SignHouse$Hunt", "drawCandidate", "()V"⟩, 14) := ⟨⟨by decide +kernel, by decide +kernel⟩, List.mem_of_getElem? (i := 67) (by decide +kernel), List.mem_of_getElem? (i := 331) (by decide +kernel), List.mem_of_getElem? (i := 332) (by decide +kernel)⟩
theorem lw_p5 : lw_okq (⟨"SignHouse$Hunt", "hasSmallDivisor", "()Z"⟩, 14) := ⟨⟨by decide +kernel, by decide +kernel⟩, List.mem_of_getElem? (i := 67) (by decide +kernel), List.mem_of_getElem? (i := 349) (by decide +kernel), List.mem_of_getElem? (i := 350) (by decide +kernel)⟩
theorem lw_p6 : lw_okq (⟨"SignHouse$Hunt", "isGood", "()Z"⟩, 14) := ⟨⟨by decide +kernel, by decide +kernel⟩, List.mem_of_getElem? (i := 67) (by decide +kernel), List.mem_of_getElem? (i := 358) (by decide +kernel), List.mem_of_getElem? (i := 359) (by decide +kernel)⟩
theorem lw_p7 : lw_okq (⟨"SignHouse$Modulus", "inverseOfLowLimb", "()J"⟩, 9) := ⟨⟨by decide +kernel, by decide +kernel⟩, List.mem_of_getElem? (i := 74) (by decide +kernel), List.mem_of_getElem? (i := 388) (by decide +kernel), List.mem_of_getElem? (i := 389) (by decide +kernel)⟩
theorem lw_p8 : lw_okq (⟨"SignHouse$Modulus", "twice", "([JZ)V"⟩, 9) := ⟨⟨by decide +kernel, by decide +kernel⟩, List.mem_of_getElem? (i := 74) (by decide +kernel), List.mem_of_getElem? (i := 397) (by decide +kernel), List.mem_of_getElem? (i := 398) (by decide +kernel)⟩
theorem lw_p9 : lw_okq (⟨"SignHouse$Hunt", "passes", "(II)Z"⟩, 14) := ⟨⟨by decide +kernel, by decide +kernel⟩, List.mem_of_getElem? (i := 67) (by decide +kernel), List.mem_of_getElem? (i := 407) (by decide +kernel), List.mem_of_getElem? (i := 408) (by decide +kernel)⟩
theorem lw_p10 : lw_okq (⟨"SignHouse$Modulus", "multiplyCarried", "([J[J[J)V"⟩, 9) := ⟨⟨by decide +kernel, by decide +kernel⟩, List.mem_of_getElem? (i := 74) (by decide +kernel), List.mem_of_getElem? (i := 416) (by decide +kernel), List.mem_of_getElem? (i := 417) (by decide +kernel)⟩
theorem lw_p11 : lw_okq (⟨"SignHouse$Modulus", "addProduct", "([JJ)V"⟩, 9) := ⟨⟨by decide +kernel, by decide +kernel⟩, List.mem_of_getElem? (i := 74) (by decide +kernel), List.mem_of_getElem? (i := 423) (by decide +kernel), List.mem_of_getElem? (i := 424) (by decide +kernel)⟩
theorem lw_p12 : lw_okq (⟨"SignHouse$Modulus", "dropLowLimb", "()V"⟩, 9) := ⟨⟨by decide +kernel, by decide +kernel⟩, List.mem_of_getElem? (i := 74) (by decide +kernel), List.mem_of_getElem? (i := 427) (by decide +kernel), List.mem_of_getElem? (i := 428) (by decide +kernel)⟩
theorem lw_p13 : lw_okq (⟨"SignHouse$KeyRows", "findPrivateNumbers", "()V"⟩, 17) := ⟨⟨by decide +kernel, by decide +kernel⟩, List.mem_of_getElem? (i := 153) (by decide +kernel), List.mem_of_getElem? (i := 473) (by decide +kernel), List.mem_of_getElem? (i := 474) (by decide +kernel)⟩
theorem lw_p14 : lw_okq (⟨"SignHouse$KeyRows", "invertE", "([J[J)V"⟩, 17) := ⟨⟨by decide +kernel, by decide +kernel⟩, List.mem_of_getElem? (i := 153) (by decide +kernel), List.mem_of_getElem? (i := 478) (by decide +kernel), List.mem_of_getElem? (i := 479) (by decide +kernel)⟩
theorem lw_p15 : lw_okq (⟨"SignHouse$KeyRows", "findInverseOfQ", "()V"⟩, 17) := ⟨⟨by decide +kernel, by decide +kernel⟩, List.mem_of_getElem? (i := 153) (by decide +kernel), List.mem_of_getElem? (i := 489) (by decide +kernel), List.mem_of_getElem? (i := 490) (by decide +kernel)⟩
def lw_privs_1 : List (MethodName × Nat) := [(⟨"SignHouse$Message", "makeHash", "()V"⟩, 3), (⟨"SignHouse$Sha256", "extendSchedule", "()V"⟩, 2), (⟨"SignHouse$Sha256", "mixBlock", "()V"⟩, 2), (⟨"SignHouse$Draw", "putWord", "(I)V"⟩, 5), (⟨"SignHouse$Hunt", "drawCandidate", "()V"⟩, 14), (⟨"SignHouse$Hunt", "hasSmallDivisor", "()Z"⟩, 14), (⟨"SignHouse$Hunt", "isGood", "()Z"⟩, 14), (⟨"SignHouse$Modulus", "inverseOfLowLimb", "()J"⟩, 9), (⟨"SignHouse$Modulus", "twice", "([JZ)V"⟩, 9), (⟨"SignHouse$Hunt", "passes", "(II)Z"⟩, 14), (⟨"SignHouse$Modulus", "multiplyCarried", "([J[J[J)V"⟩, 9), (⟨"SignHouse$Modulus", "addProduct", "([JJ)V"⟩, 9), (⟨"SignHouse$Modulus", "dropLowLimb", "()V"⟩, 9), (⟨"SignHouse$KeyRows", "findPrivateNumbers", "()V"⟩, 17), (⟨"SignHouse$KeyRows", "invertE", "([J[J)V"⟩, 17), (⟨"SignHouse$KeyRows", "findInverseOfQ", "()V"⟩, 17)]
theorem lw_r1 : ∀ q ∈ lw_privs_1, lw_okq q := List.forall_mem_cons.mpr ⟨lw_p0, List.forall_mem_cons.mpr ⟨lw_p1, List.forall_mem_cons.mpr ⟨lw_p2, List.forall_mem_cons.mpr ⟨lw_p3, List.forall_mem_cons.mpr ⟨lw_p4, List.forall_mem_cons.mpr ⟨lw_p5, List.forall_mem_cons.mpr ⟨lw_p6, List.forall_mem_cons.mpr ⟨lw_p7, List.forall_mem_cons.mpr ⟨lw_p8, List.forall_mem_cons.mpr ⟨lw_p9, List.forall_mem_cons.mpr ⟨lw_p10, List.forall_mem_cons.mpr ⟨lw_p11, List.forall_mem_cons.mpr ⟨lw_p12, List.forall_mem_cons.mpr ⟨lw_p13, List.forall_mem_cons.mpr ⟨lw_p14, List.forall_mem_cons.mpr ⟨lw_p15, fun _ h => absurd h List.not_mem_nil⟩⟩⟩⟩⟩⟩⟩⟩⟩⟩⟩⟩⟩⟩⟩⟩
theorem lw_p16 : lw_okq (⟨"SignHouse", "bytesOfKeyPart", "(I)I"⟩, 12) := ⟨⟨by decide +kernel, by decide +kernel⟩, List.mem_of_getElem? (i := 16) (by decide +kernel), List.mem_of_getElem? (i := 519) (by decide +kernel), List.mem_of_getElem? (i := 520) (by decide +kernel)⟩
theorem lw_p17 : lw_okq (⟨"SignHouse", "byteOfKeyPart", "(II)I"⟩, 12) := ⟨⟨by decide +kernel, by decide +kernel⟩, List.mem_of_getElem? (i := 16) (by decide +kernel), List.mem_of_getElem? (i := 523) (by decide +kernel), List.mem_of_getElem? (i := 524) (by decide +kernel)⟩
theorem lw_p18 : lw_okq (⟨"SignHouse", "encodedByte", "(I)I"⟩, 12) := ⟨⟨by decide +kernel, by decide +kernel⟩, List.mem_of_getElem? (i := 16) (by decide +kernel), List.mem_of_getElem? (i := 575) (by decide +kernel), List.mem_of_getElem? (i := 576) (by decide +kernel)⟩
theorem lw_p19 : lw_okq (⟨"SignHouse", "writeEncoded", "([J)V"⟩, 12) := ⟨⟨by decide +kernel, by decide +kernel⟩, List.mem_of_getElem? (i := 16) (by decide +kernel), List.mem_of_getElem? (i := 585) (by decide +kernel), List.mem_of_getElem? (i := 586) (by decide +kernel)⟩
theorem lw_p20 : lw_okq (⟨"SignHouse", "digestKey", "(J)J"⟩, 12) := ⟨⟨by decide +kernel, by decide +kernel⟩, List.mem_of_getElem? (i := 16) (by decide +kernel), List.mem_of_getElem? (i := 644) (by decide +kernel), List.mem_of_getElem? (i := 645) (by decide +kernel)⟩
theorem lw_p21 : lw_okq (⟨"SignHouseModel", "examines", "()V"⟩, 23) := ⟨⟨by decide +kernel, by decide +kernel⟩, List.mem_of_getElem? (i := 652) (by decide +kernel), List.mem_of_getElem? (i := 811) (by decide +kernel), List.mem_of_getElem? (i := 812) (by decide +kernel)⟩
theorem lw_p22 : lw_okq (⟨"SignHouseModel", "clear", "(I)V"⟩, 23) := ⟨⟨by decide +kernel, by decide +kernel⟩, List.mem_of_getElem? (i := 652) (by decide +kernel), List.mem_of_getElem? (i := 815) (by decide +kernel), List.mem_of_getElem? (i := 816) (by decide +kernel)⟩
theorem lw_p23 : lw_okq (⟨"SignHouseModel", "draws", "()I"⟩, 23) := ⟨⟨by decide +kernel, by decide +kernel⟩, List.mem_of_getElem? (i := 652) (by decide +kernel), List.mem_of_getElem? (i := 819) (by decide +kernel), List.mem_of_getElem? (i := 820) (by decide +kernel)⟩
theorem lw_p24 : lw_okq (⟨"SignHouseModel", "lay", "(I)V"⟩, 23) := ⟨⟨by decide +kernel, by decide +kernel⟩, List.mem_of_getElem? (i := 652) (by decide +kernel), List.mem_of_getElem? (i := 823) (by decide +kernel), List.mem_of_getElem? (i := 824) (by decide +kernel)⟩
theorem lw_p25 : lw_okq (⟨"SignHouseModel", "hashes", "()V"⟩, 23) := ⟨⟨by decide +kernel, by decide +kernel⟩, List.mem_of_getElem? (i := 652) (by decide +kernel), List.mem_of_getElem? (i := 827) (by decide +kernel), List.mem_of_getElem? (i := 828) (by decide +kernel)⟩
theorem lw_p26 : lw_okq (⟨"SignHouseModel", "block", "(II)V"⟩, 23) := ⟨⟨by decide +kernel, by decide +kernel⟩, List.mem_of_getElem? (i := 652) (by decide +kernel), List.mem_of_getElem? (i := 831) (by decide +kernel), List.mem_of_getElem? (i := 832) (by decide +kernel)⟩
theorem lw_p27 : lw_okq (⟨"SignHouseModel", "padded", "(II)I"⟩, 23) := ⟨⟨by decide +kernel, by decide +kernel⟩, List.mem_of_getElem? (i := 652) (by decide +kernel), List.mem_of_getElem? (i := 835) (by decide +kernel), List.mem_of_getElem? (i := 836) (by decide +kernel)⟩
theorem lw_p28 : lw_okq (⟨"SignHouseModel", "hashByte", "(I)I"⟩, 23) := ⟨⟨by decide +kernel, by decide +kernel⟩, List.mem_of_getElem? (i := 652) (by decide +kernel), List.mem_of_getElem? (i := 842) (by decide +kernel), List.mem_of_getElem? (i := 843) (by decide +kernel)⟩
theorem lw_p29 : lw_okq (⟨"SignHouseModel", "byteTo", "(IIII)V"⟩, 23) := ⟨⟨by decide +kernel, by decide +kernel⟩, List.mem_of_getElem? (i := 652) (by decide +kernel), List.mem_of_getElem? (i := 846) (by decide +kernel), List.mem_of_getElem? (i := 847) (by decide +kernel)⟩
theorem lw_p30 : lw_okq (⟨"SignHouseModel", "isGood", "()Z"⟩, 23) := ⟨⟨by decide +kernel, by decide +kernel⟩, List.mem_of_getElem? (i := 652) (by decide +kernel), List.mem_of_getElem? (i := 851) (by decide +kernel), List.mem_of_getElem? (i := 852) (by decide +kernel)⟩
theorem lw_p31 : lw_okq (⟨"SignHouseModel", "isDivided", "()Z"⟩, 23) := ⟨⟨by decide +kernel, by decide +kernel⟩, List.mem_of_getElem? (i := 652) (by decide +kernel), List.mem_of_getElem? (i := 855) (by decide +kernel), List.mem_of_getElem? (i := 856) (by decide +kernel)⟩
def lw_privs_2 : List (MethodName × Nat) := [(⟨"SignHouse", "bytesOfKeyPart", "(I)I"⟩, 12), (⟨"SignHouse", "byteOfKeyPart", "(II)I"⟩, 12), (⟨"SignHouse", "encodedByte", "(I)I"⟩, 12), (⟨"SignHouse", "writeEncoded", "([J)V"⟩, 12), (⟨"SignHouse", "digestKey", "(J)J"⟩, 12), (⟨"SignHouseModel", "examines", "()V"⟩, 23), (⟨"SignHouseModel", "clear", "(I)V"⟩, 23), (⟨"SignHouseModel", "draws", "()I"⟩, 23), (⟨"SignHouseModel", "lay", "(I)V"⟩, 23), (⟨"SignHouseModel", "hashes", "()V"⟩, 23), (⟨"SignHouseModel", "block", "(II)V"⟩, 23), (⟨"SignHouseModel", "padded", "(II)I"⟩, 23), (⟨"SignHouseModel", "hashByte", "(I)I"⟩, 23), (⟨"SignHouseModel", "byteTo", "(IIII)V"⟩, 23), (⟨"SignHouseModel", "isGood", "()Z"⟩, 23), (⟨"SignHouseModel", "isDivided", "()Z"⟩, 23)]
theorem lw_r2 : ∀ q ∈ lw_privs_2, lw_okq q := List.forall_mem_cons.mpr ⟨lw_p16, List.forall_mem_cons.mpr ⟨lw_p17, List.forall_mem_cons.mpr ⟨lw_p18, List.forall_mem_cons.mpr ⟨lw_p19, List.forall_mem_cons.mpr ⟨lw_p20, List.forall_mem_cons.mpr ⟨lw_p21, List.forall_mem_cons.mpr ⟨lw_p22, List.forall_mem_cons.mpr ⟨lw_p23, List.forall_mem_cons.mpr ⟨lw_p24, List.forall_mem_cons.mpr ⟨lw_p25, List.forall_mem_cons.mpr ⟨lw_p26, List.forall_mem_cons.mpr ⟨lw_p27, List.forall_mem_cons.mpr ⟨lw_p28, List.forall_mem_cons.mpr ⟨lw_p29, List.forall_mem_cons.mpr ⟨lw_p30, List.forall_mem_cons.mpr ⟨lw_p31, fun _ h => absurd h List.not_mem_nil⟩⟩⟩⟩⟩⟩⟩⟩⟩⟩⟩⟩⟩⟩⟩⟩
theorem lw_p32 : lw_okq (⟨"SignHouseModel", "restSmall", "(II)I"⟩, 23) := ⟨⟨by decide +kernel, by decide +kernel⟩, List.mem_of_getElem? (i := 652) (by decide +kernel), List.mem_of_getElem? (i := 859) (by decide +kernel), List.mem_of_getElem? (i := 860) (by decide +kernel)⟩
theorem lw_p33 : lw_okq (⟨"SignHouseModel", "compare", "(II)I"⟩, 23) := ⟨⟨by decide +kernel, by decide +kernel⟩, List.mem_of_getElem? (i := 652) (by decide +kernel), List.mem_of_getElem? (i := 864) (by decide +kernel), List.mem_of_getElem? (i := 865) (by decide +kernel)⟩
theorem lw_p34 : lw_okq (⟨"SignHouseModel", "passes", "()Z"⟩, 23) := ⟨⟨by decide +kernel, by decide +kernel⟩, List.mem_of_getElem? (i := 652) (by decide +kernel), List.mem_of_getElem? (i := 868) (by decide +kernel), List.mem_of_getElem? (i := 869) (by decide +kernel)⟩
theorem lw_p35 : lw_okq (⟨"SignHouseModel", "copy", "(II)V"⟩, 23) := ⟨⟨by decide +kernel, by decide +kernel⟩, List.mem_of_getElem? (i := 652) (by decide +kernel), List.mem_of_getElem? (i := 872) (by decide +kernel), List.mem_of_getElem? (i := 873) (by decide +kernel)⟩
theorem lw_p36 : lw_okq (⟨"SignHouseModel", "takesSmall", "(II)V"⟩, 23) := ⟨⟨by decide +kernel, by decide +kernel⟩, List.mem_of_getElem? (i := 652) (by decide +kernel), List.mem_of_getElem? (i := 876) (by decide +kernel), List.mem_of_getElem? (i := 877) (by decide +kernel)⟩
theorem lw_p37 : lw_okq (⟨"SignHouseModel", "bit", "(II)Z"⟩, 23) := ⟨⟨by decide +kernel, by decide +kernel⟩, List.mem_of_getElem? (i := 652) (by decide +kernel), List.mem_of_getElem? (i := 881) (by decide +kernel), List.mem_of_getElem? (i := 882) (by decide +kernel)⟩
theorem lw_p38 : lw_okq (⟨"SignHouseModel", "moveRight", "(II)V"⟩, 23) := ⟨⟨by decide +kernel, by decide +kernel⟩, List.mem_of_getElem? (i := 652) (by decide +kernel), List.mem_of_getElem? (i := 885) (by decide +kernel), List.mem_of_getElem? (i := 886) (by decide +kernel)⟩
theorem lw_p39 : lw_okq (⟨"SignHouseModel", "passesBy", "(II)Z"⟩, 23) := ⟨⟨by decide +kernel, by decide +kernel⟩, List.mem_of_getElem? (i := 652) (by decide +kernel), List.mem_of_getElem? (i := 892) (by decide +kernel), List.mem_of_getElem? (i := 893) (by decide +kernel)⟩
theorem lw_p40 : lw_okq (⟨"SignHouseModel", "small", "(II)V"⟩, 23) := ⟨⟨by decide +kernel, by decide +kernel⟩, List.mem_of_getElem? (i := 652) (by decide +kernel), List.mem_of_getElem? (i := 896) (by decide +kernel), List.mem_of_getElem? (i := 897) (by decide +kernel)⟩
theorem lw_p41 : lw_okq (⟨"SignHouseModel", "powers", "(III)V"⟩, 23) := ⟨⟨by decide +kernel, by decide +kernel⟩, List.mem_of_getElem? (i := 652) (by decide +kernel), List.mem_of_getElem? (i := 900) (by decide +kernel), List.mem_of_getElem? (i := 901) (by decide +kernel)⟩
theorem lw_p42 : lw_okq (⟨"SignHouseModel", "leaves", "(II)V"⟩, 23) := ⟨⟨by decide +kernel, by decide +kernel⟩, List.mem_of_getElem? (i := 652) (by decide +kernel), List.mem_of_getElem? (i := 904) (by decide +kernel), List.mem_of_getElem? (i := 905) (by decide +kernel)⟩
theorem lw_p43 : lw_okq (⟨"SignHouseModel", "longOf", "(I)I"⟩, 23) := ⟨⟨by decide +kernel, by decide +kernel⟩, List.mem_of_getElem? (i := 652) (by decide +kernel), List.mem_of_getElem? (i := 908) (by decide +kernel), List.mem_of_getElem? (i := 909) (by decide +kernel)⟩
theorem lw_p44 : lw_okq (⟨"SignHouseModel", "moveLeft", "(III)V"⟩, 23) := ⟨⟨by decide +kernel, by decide +kernel⟩, List.mem_of_getElem? (i := 652) (by decide +kernel), List.mem_of_getElem? (i := 913) (by decide +kernel), List.mem_of_getElem? (i := 914) (by decide +kernel)⟩
theorem lw_p45 : lw_okq (⟨"SignHouseModel", "dividesAt", "(III)V"⟩, 23) := ⟨⟨by decide +kernel, by decide +kernel⟩, List.mem_of_getElem? (i := 652) (by decide +kernel), List.mem_of_getElem? (i := 917) (by decide +kernel), List.mem_of_getElem? (i := 918) (by decide +kernel)⟩
theorem lw_p46 : lw_okq (⟨"SignHouseModel", "times", "(III)V"⟩, 23) := ⟨⟨by decide +kernel, by decide +kernel⟩, List.mem_of_getElem? (i := 652) (by decide +kernel), List.mem_of_getElem? (i := 922) (by decide +kernel), List.mem_of_getElem? (i := 923) (by decide +kernel)⟩
theorem lw_p47 : lw_okq (⟨"SignHouseModel", "isSmall", "(II)Z"⟩, 23) := ⟨⟨by decide +kernel, by decide +kernel⟩, List.mem_of_getElem? (i := 652) (by decide +kernel), List.mem_of_getElem? (i := 926) (by decide +kernel), List.mem_of_getElem? (i := 927) (by decide +kernel)⟩
def lw_privs_3 : List (MethodName × Nat) := [(⟨"SignHouseModel", "restSmall", "(II)I"⟩, 23), (⟨"SignHouseModel", "compare", "(II)I"⟩, 23), (⟨"SignHouseModel", "passes", "()Z"⟩, 23), (⟨"SignHouseModel", "copy", "(II)V"⟩, 23), (⟨"SignHouseModel", "takesSmall", "(II)V"⟩, 23), (⟨"SignHouseModel", "bit", "(II)Z"⟩, 23), (⟨"SignHouseModel", "moveRight", "(II)V"⟩, 23), (⟨"SignHouseModel", "passesBy", "(II)Z"⟩, 23), (⟨"SignHouseModel", "small", "(II)V"⟩, 23), (⟨"SignHouseModel", "powers", "(III)V"⟩, 23), (⟨"SignHouseModel", "leaves", "(II)V"⟩, 23), (⟨"SignHouseModel", "longOf", "(I)I"⟩, 23), (⟨"SignHouseModel", "moveLeft", "(III)V"⟩, 23), (⟨"SignHouseModel", "dividesAt", "(III)V"⟩, 23), (⟨"SignHouseModel", "times", "(III)V"⟩, 23), (⟨"SignHouseModel", "isSmall", "(II)Z"⟩, 23)]
theorem lw_r3 : ∀ q ∈ lw_privs_3, lw_okq q := List.forall_mem_cons.mpr ⟨lw_p32, List.forall_mem_cons.mpr ⟨lw_p33, List.forall_mem_cons.mpr ⟨lw_p34, List.forall_mem_cons.mpr ⟨lw_p35, List.forall_mem_cons.mpr ⟨lw_p36, List.forall_mem_cons.mpr ⟨lw_p37, List.forall_mem_cons.mpr ⟨lw_p38, List.forall_mem_cons.mpr ⟨lw_p39, List.forall_mem_cons.mpr ⟨lw_p40, List.forall_mem_cons.mpr ⟨lw_p41, List.forall_mem_cons.mpr ⟨lw_p42, List.forall_mem_cons.mpr ⟨lw_p43, List.forall_mem_cons.mpr ⟨lw_p44, List.forall_mem_cons.mpr ⟨lw_p45, List.forall_mem_cons.mpr ⟨lw_p46, List.forall_mem_cons.mpr ⟨lw_p47, fun _ h => absurd h List.not_mem_nil⟩⟩⟩⟩⟩⟩⟩⟩⟩⟩⟩⟩⟩⟩⟩⟩
theorem lw_p48 : lw_okq (⟨"SignHouseModel", "makesKey", "()V"⟩, 23) := ⟨⟨by decide +kernel, by decide +kernel⟩, List.mem_of_getElem? (i := 652) (by decide +kernel), List.mem_of_getElem? (i := 930) (by decide +kernel), List.mem_of_getElem? (i := 931) (by decide +kernel)⟩
theorem lw_p49 : lw_okq (⟨"SignHouseModel", "inverse", "(II)V"⟩, 23) := ⟨⟨by decide +kernel, by decide +kernel⟩, List.mem_of_getElem? (i := 652) (by decide +kernel), List.mem_of_getElem? (i := 934) (by decide +kernel), List.mem_of_getElem? (i := 935) (by decide +kernel)⟩
theorem lw_p50 : lw_okq (⟨"SignHouseModel", "growsSmall", "(III)V"⟩, 23) := ⟨⟨by decide +kernel, by decide +kernel⟩, List.mem_of_getElem? (i := 652) (by decide +kernel), List.mem_of_getElem? (i := 939) (by decide +kernel), List.mem_of_getElem? (i := 940) (by decide +kernel)⟩
theorem lw_p51 : lw_okq (⟨"SignHouseModel", "shareSmall", "(II)V"⟩, 23) := ⟨⟨by decide +kernel, by decide +kernel⟩, List.mem_of_getElem? (i := 652) (by decide +kernel), List.mem_of_getElem? (i := 943) (by decide +kernel), List.mem_of_getElem? (i := 944) (by decide +kernel)⟩
theorem lw_p52 : lw_okq (⟨"SignHouseModel", "sizeOf", "(I)I"⟩, 23) := ⟨⟨by decide +kernel, by decide +kernel⟩, List.mem_of_getElem? (i := 652) (by decide +kernel), List.mem_of_getElem? (i := 955) (by decide +kernel), List.mem_of_getElem? (i := 956) (by decide +kernel)⟩
theorem lw_p53 : lw_okq (⟨"SignHouseModel", "byteAt", "(III)I"⟩, 23) := ⟨⟨by decide +kernel, by decide +kernel⟩, List.mem_of_getElem? (i := 652) (by decide +kernel), List.mem_of_getElem? (i := 959) (by decide +kernel), List.mem_of_getElem? (i := 960) (by decide +kernel)⟩
theorem lw_p54 : lw_okq (⟨"SignHouseModel", "hashesMessage", "()V"⟩, 23) := ⟨⟨by decide +kernel, by decide +kernel⟩, List.mem_of_getElem? (i := 652) (by decide +kernel), List.mem_of_getElem? (i := 979) (by decide +kernel), List.mem_of_getElem? (i := 980) (by decide +kernel)⟩
theorem lw_p55 : lw_okq (⟨"SignHouseModel", "encodes", "()V"⟩, 23) := ⟨⟨by decide +kernel, by decide +kernel⟩, List.mem_of_getElem? (i := 652) (by decide +kernel), List.mem_of_getElem? (i := 987) (by decide +kernel), List.mem_of_getElem? (i := 988) (by decide +kernel)⟩
theorem lw_p56 : lw_okq (⟨"SignHouseModel", "adds", "(II)V"⟩, 23) := ⟨⟨by decide +kernel, by decide +kernel⟩, List.mem_of_getElem? (i := 652) (by decide +kernel), List.mem_of_getElem? (i := 995) (by decide +kernel), List.mem_of_getElem? (i := 996) (by decide +kernel)⟩
theorem lw_p57 : lw_okq (⟨"SignHouseModel", "takes", "(II)V"⟩, 23) := ⟨⟨by decide +kernel, by decide +kernel⟩, List.mem_of_getElem? (i := 652) (by decide +kernel), List.mem_of_getElem? (i := 999) (by decide +kernel), List.mem_of_getElem? (i := 1000) (by decide +kernel)⟩
theorem lw_p58 : lw_okq (⟨"SignHouseModel", "exponentE", "()V"⟩, 23) := ⟨⟨by decide +kernel, by decide +kernel⟩, List.mem_of_getElem? (i := 652) (by decide +kernel), List.mem_of_getElem? (i := 1007) (by decide +kernel), List.mem_of_getElem? (i := 1008) (by decide +kernel)⟩
theorem lw_p59 : lw_okq (⟨"SignHouseModel", "mixed", "(JII)J"⟩, 23) := ⟨⟨by decide +kernel, by decide +kernel⟩, List.mem_of_getElem? (i := 652) (by decide +kernel), List.mem_of_getElem? (i := 1032) (by decide +kernel), List.mem_of_getElem? (i := 1033) (by decide +kernel)⟩
def lw_privs_4 : List (MethodName × Nat) := [(⟨"SignHouseModel", "makesKey", "()V"⟩, 23), (⟨"SignHouseModel", "inverse", "(II)V"⟩, 23), (⟨"SignHouseModel", "growsSmall", "(III)V"⟩, 23), (⟨"SignHouseModel", "shareSmall", "(II)V"⟩, 23), (⟨"SignHouseModel", "sizeOf", "(I)I"⟩, 23), (⟨"SignHouseModel", "byteAt", "(III)I"⟩, 23), (⟨"SignHouseModel", "hashesMessage", "()V"⟩, 23), (⟨"SignHouseModel", "encodes", "()V"⟩, 23), (⟨"SignHouseModel", "adds", "(II)V"⟩, 23), (⟨"SignHouseModel", "takes", "(II)V"⟩, 23), (⟨"SignHouseModel", "exponentE", "()V"⟩, 23), (⟨"SignHouseModel", "mixed", "(JII)J"⟩, 23)]
theorem lw_r4 : ∀ q ∈ lw_privs_4, lw_okq q := List.forall_mem_cons.mpr ⟨lw_p48, List.forall_mem_cons.mpr ⟨lw_p49, List.forall_mem_cons.mpr ⟨lw_p50, List.forall_mem_cons.mpr ⟨lw_p51, List.forall_mem_cons.mpr ⟨lw_p52, List.forall_mem_cons.mpr ⟨lw_p53, List.forall_mem_cons.mpr ⟨lw_p54, List.forall_mem_cons.mpr ⟨lw_p55, List.forall_mem_cons.mpr ⟨lw_p56, List.forall_mem_cons.mpr ⟨lw_p57, List.forall_mem_cons.mpr ⟨lw_p58, List.forall_mem_cons.mpr ⟨lw_p59, fun _ h => absurd h List.not_mem_nil⟩⟩⟩⟩⟩⟩⟩⟩⟩⟩⟩⟩
def lw_privs : List (MethodName × Nat) := lw_privs_1 ++ (lw_privs_2 ++ (lw_privs_3 ++ (lw_privs_4)))
def lw_tbl : List Cond := k2_sels lw_privs ++ tables_1
theorem lw_privs_ok : ∀ q ∈ lw_privs, lw_okq q := by
  show ∀ q ∈ lw_privs_1 ++ (lw_privs_2 ++ (lw_privs_3 ++ (lw_privs_4))), lw_okq q
  exact List.forall_mem_append.mpr ⟨lw_r1, List.forall_mem_append.mpr ⟨lw_r2, List.forall_mem_append.mpr ⟨lw_r3, lw_r4⟩⟩⟩
-- ===== end of PART A; then your names; then what follows =====
end
section
def RX0 : String := "SignHouse$Draw"
def TX0 : u_T := fun k => match k with
  | 0 => ("SignHouse$Draw", "bytes", "[B", true)
  | 1 => ("SignHouse$Draw", "block", "LSignHouse$Sha256;", true)
  | 2 => ("SignHouse$Draw", "wordCount", "I", false)
  | 3 => ("SignHouse$Draw", "blocksMade", "I", false)
  | _ => ("SignHouse$Draw", "bytesLeft", "I", false)
def tyX0 : Nat → FieldType := fun k => match k with
  | 0 => .array .byte
  | 1 => .object "SignHouse$Sha256"
  | 2 => .int
  | 3 => .int
  | _ => .int
theorem nmX0 : ∀ a, a < 5 → ∀ b, b < 5 → a ≠ b → (TX0 a).2.1 ≠ (TX0 b).2.1 := by decide +kernel
theorem tyX0_ok : ∀ k, k < 5 → parseFieldDescriptor (TX0 k).2.2.1 = some (tyX0 k) := by decide +kernel
abbrev cX0_init : ByteArray := prog_2_method_1_code
def yX0_init : MethodName := ⟨RX0, "<init>", "()V"⟩
abbrev cX0_clear : ByteArray := prog_2_method_2_code
def yX0_clear : MethodName := ⟨RX0, "clear", "()V"⟩
abbrev cX0_wordCount : ByteArray := prog_2_method_3_code
def yX0_wordCount : MethodName := ⟨RX0, "wordCount", "()I"⟩
abbrev cX0_addWord : ByteArray := prog_2_method_4_code
def yX0_addWord : MethodName := ⟨RX0, "addWord", "(I)V"⟩
abbrev cX0_nextByte : ByteArray := prog_2_method_5_code
def yX0_nextByte : MethodName := ⟨RX0, "nextByte", "()I"⟩
abbrev cX0_putWord : ByteArray := prog_2_method_6_code
def yX0_putWord : MethodName := ⟨RX0, "putWord", "(I)V"⟩
def RX1 : String := "SignHouse$Hunt"
def TX1 : u_T := fun k => match k with
  | 0 => ("SignHouse$Hunt", "draw", "LSignHouse$Draw;", true)
  | 1 => ("SignHouse$Hunt", "half", "I", true)
  | 2 => ("SignHouse$Hunt", "rounds", "I", true)
  | 3 => ("SignHouse$Hunt", "byCandidate", "LSignHouse$Modulus;", true)
  | 4 => ("SignHouse$Hunt", "candidate", "[J", true)
  | 5 => ("SignHouse$Hunt", "candidateLessOne", "[J", true)
  | 6 => ("SignHouse$Hunt", "oddPart", "[J", true)
  | 7 => ("SignHouse$Hunt", "rest", "[J", true)
  | 8 => ("SignHouse$Hunt", "first", "[J", true)
  | 9 => ("SignHouse$Hunt", "second", "[J", true)
  | 10 => ("SignHouse$Hunt", "begun", "Z", false)
  | 11 => ("SignHouse$Hunt", "primesFound", "I", false)
  | 12 => ("SignHouse$Hunt", "examined", "I", false)
  | _ => ("SignHouse$Hunt", "undivided", "I", false)
def tyX1 : Nat → FieldType := fun k => match k with
  | 0 => .object "SignHouse$Draw"
  | 1 => .int
  | 2 => .int
  | 3 => .object "SignHouse$Modulus"
  | 4 => .array .long
  | 5 => .array .long
  | 6 => .array .long
  | 7 => .array .long
  | 8 => .array .long
  | 9 => .array .long
  | 10 => .boolean
  | 11 => .int
  | 12 => .int
  | _ => .int
theorem nmX1 : ∀ a, a < 14 → ∀ b, b < 14 → a ≠ b → (TX1 a).2.1 ≠ (TX1 b).2.1 := by decide +kernel
theorem tyX1_ok : ∀ k, k < 14 → parseFieldDescriptor (TX1 k).2.2.1 = some (tyX1 k) := by decide +kernel
abbrev cX1_init : ByteArray := prog_3_method_1_code
def yX1_init : MethodName := ⟨RX1, "<init>", "(LSignHouse$Draw;III)V"⟩
abbrev cX1_clear : ByteArray := prog_3_method_2_code
def yX1_clear : MethodName := ⟨RX1, "clear", "()V"⟩
abbrev cX1_begin : ByteArray := prog_3_method_3_code
def yX1_begin : MethodName := ⟨RX1, "begin", "()V"⟩
abbrev cX1_hasBegun : ByteArray := prog_3_method_4_code
def yX1_hasBegun : MethodName := ⟨RX1, "hasBegun", "()Z"⟩
abbrev cX1_hasBothPrimes : ByteArray := prog_3_method_5_code
def yX1_hasBothPrimes : MethodName := ⟨RX1, "hasBothPrimes", "()Z"⟩
abbrev cX1_firstPrime : ByteArray := prog_3_method_6_code
def yX1_firstPrime : MethodName := ⟨RX1, "firstPrime", "()[J"⟩
abbrev cX1_secondPrime : ByteArray := prog_3_method_7_code
def yX1_secondPrime : MethodName := ⟨RX1, "secondPrime", "()[J"⟩
abbrev cX1_examinedCount : ByteArray := prog_3_method_8_code
def yX1_examinedCount : MethodName := ⟨RX1, "examinedCount", "()I"⟩
abbrev cX1_undividedCount : ByteArray := prog_3_method_9_code
def yX1_undividedCount : MethodName := ⟨RX1, "undividedCount", "()I"⟩
abbrev cX1_examineNext : ByteArray := prog_3_method_10_code
def yX1_examineNext : MethodName := ⟨RX1, "examineNext", "()V"⟩
abbrev cX1_drawCandidate : ByteArray := prog_3_method_11_code
def yX1_drawCandidate : MethodName := ⟨RX1, "drawCandidate", "()V"⟩
abbrev cX1_hasSmallDivisor : ByteArray := prog_3_method_12_code
def yX1_hasSmallDivisor : MethodName := ⟨RX1, "hasSmallDivisor", "()Z"⟩
abbrev cX1_isGood : ByteArray := prog_3_method_13_code
def yX1_isGood : MethodName := ⟨RX1, "isGood", "()Z"⟩
abbrev cX1_passes : ByteArray := prog_3_method_14_code
def yX1_passes : MethodName := ⟨RX1, "passes", "(II)Z"⟩
def RX2 : String := "SignHouse$KeyRows"
def TX2 : u_T := fun k => match k with
  | 0 => ("SignHouse$KeyRows", "byN", "LSignHouse$Modulus;", true)
  | 1 => ("SignHouse$KeyRows", "byP", "LSignHouse$Modulus;", true)
  | 2 => ("SignHouse$KeyRows", "byQ", "LSignHouse$Modulus;", true)
  | 3 => ("SignHouse$KeyRows", "n", "[J", true)
  | 4 => ("SignHouse$KeyRows", "d", "[J", true)
  | 5 => ("SignHouse$KeyRows", "p", "[J", true)
  | 6 => ("SignHouse$KeyRows", "q", "[J", true)
  | 7 => ("SignHouse$KeyRows", "dP", "[J", true)
  | 8 => ("SignHouse$KeyRows", "dQ", "[J", true)
  | 9 => ("SignHouse$KeyRows", "qI", "[J", true)
  | 10 => ("SignHouse$KeyRows", "pLess", "[J", true)
  | 11 => ("SignHouse$KeyRows", "qLess", "[J", true)
  | 12 => ("SignHouse$KeyRows", "bothLess", "[J", true)
  | 13 => ("SignHouse$KeyRows", "multiple", "[J", true)
  | 14 => ("SignHouse$KeyRows", "restByP", "[J", true)
  | 15 => ("SignHouse$KeyRows", "restByQ", "[J", true)
  | _ => ("SignHouse$KeyRows", "made", "Z", false)
def tyX2 : Nat → FieldType := fun k => match k with
  | 0 => .object "SignHouse$Modulus"
  | 1 => .object "SignHouse$Modulus"
  | 2 => .object "SignHouse$Modulus"
  | 3 => .array .long
  | 4 => .array .long
  | 5 => .array .long
  | 6 => .array .long
  | 7 => .array .long
  | 8 => .array .long
  | 9 => .array .long
  | 10 => .array .long
  | 11 => .array .long
  | 12 => .array .long
  | 13 => .array .long
  | 14 => .array .long
  | 15 => .array .long
  | _ => .boolean
theorem nmX2 : ∀ a, a < 17 → ∀ b, b < 17 → a ≠ b → (TX2 a).2.1 ≠ (TX2 b).2.1 := by decide +kernel
theorem tyX2_ok : ∀ k, k < 17 → parseFieldDescriptor (TX2 k).2.2.1 = some (tyX2 k) := by decide +kernel
abbrev cX2_init : ByteArray := prog_4_method_1_code
def yX2_init : MethodName := ⟨RX2, "<init>", "(I)V"⟩
abbrev cX2_clear : ByteArray := prog_4_method_2_code
def yX2_clear : MethodName := ⟨RX2, "clear", "()V"⟩
abbrev cX2_stand : ByteArray := prog_4_method_3_code
def yX2_stand : MethodName := ⟨RX2, "stand", "()Z"⟩
abbrev cX2_part : ByteArray := prog_4_method_4_code
def yX2_part : MethodName := ⟨RX2, "part", "(I)[J"⟩
abbrev cX2_make : ByteArray := prog_4_method_5_code
def yX2_make : MethodName := ⟨RX2, "make", "([J[J)V"⟩
abbrev cX2_findPrivateNumbers : ByteArray := prog_4_method_6_code
def yX2_findPrivateNumbers : MethodName := ⟨RX2, "findPrivateNumbers", "()V"⟩
abbrev cX2_findInverseOfQ : ByteArray := prog_4_method_7_code
def yX2_findInverseOfQ : MethodName := ⟨RX2, "findInverseOfQ", "()V"⟩
abbrev cX2_invertE : ByteArray := prog_4_method_8_code
def yX2_invertE : MethodName := ⟨RX2, "invertE", "([J[J)V"⟩
abbrev cX2_inverseByE : ByteArray := prog_4_method_9_code
def yX2_inverseByE : MethodName := ⟨RX2, "inverseByE", "(J)J"⟩
abbrev cX2_isBelowN : ByteArray := prog_4_method_10_code
def yX2_isBelowN : MethodName := ⟨RX2, "isBelowN", "([J)Z"⟩
abbrev cX2_raisePublic : ByteArray := prog_4_method_11_code
def yX2_raisePublic : MethodName := ⟨RX2, "raisePublic", "([J[J)V"⟩
abbrev cX2_raisePrivate : ByteArray := prog_4_method_12_code
def yX2_raisePrivate : MethodName := ⟨RX2, "raisePrivate", "([J[J)V"⟩
abbrev cX2_makeSignature : ByteArray := prog_4_method_13_code
def yX2_makeSignature : MethodName := ⟨RX2, "makeSignature", "([J[J)V"⟩
def RX3 : String := "SignHouse$Message"
def TX3 : u_T := fun k => match k with
  | 0 => ("SignHouse$Message", "bytes", "[B", true)
  | 1 => ("SignHouse$Message", "sha", "LSignHouse$Sha256;", true)
  | _ => ("SignHouse$Message", "byteCount", "I", false)
def tyX3 : Nat → FieldType := fun k => match k with
  | 0 => .array .byte
  | 1 => .object "SignHouse$Sha256"
  | _ => .int
theorem nmX3 : ∀ a, a < 3 → ∀ b, b < 3 → a ≠ b → (TX3 a).2.1 ≠ (TX3 b).2.1 := by decide +kernel
theorem tyX3_ok : ∀ k, k < 3 → parseFieldDescriptor (TX3 k).2.2.1 = some (tyX3 k) := by decide +kernel
abbrev cX3_init : ByteArray := prog_5_method_1_code
def yX3_init : MethodName := ⟨RX3, "<init>", "()V"⟩
abbrev cX3_byteCount : ByteArray := prog_5_method_2_code
def yX3_byteCount : MethodName := ⟨RX3, "byteCount", "()I"⟩
abbrev cX3_append : ByteArray := prog_5_method_3_code
def yX3_append : MethodName := ⟨RX3, "append", "(JI)V"⟩
abbrev cX3_keepFirst : ByteArray := prog_5_method_4_code
def yX3_keepFirst : MethodName := ⟨RX3, "keepFirst", "(I)V"⟩
abbrev cX3_hashByte : ByteArray := prog_5_method_5_code
def yX3_hashByte : MethodName := ⟨RX3, "hashByte", "(I)I"⟩
abbrev cX3_makeHash : ByteArray := prog_5_method_6_code
def yX3_makeHash : MethodName := ⟨RX3, "makeHash", "()V"⟩
def RX4 : String := "SignHouse$Modulus"
def TX4 : u_T := fun k => match k with
  | 0 => ("SignHouse$Modulus", "width", "I", true)
  | 1 => ("SignHouse$Modulus", "modulus", "[J", true)
  | 2 => ("SignHouse$Modulus", "plainOne", "[J", true)
  | 3 => ("SignHouse$Modulus", "carriedOne", "[J", true)
  | 4 => ("SignHouse$Modulus", "carrier", "[J", true)
  | 5 => ("SignHouse$Modulus", "base", "[J", true)
  | 6 => ("SignHouse$Modulus", "result", "[J", true)
  | 7 => ("SignHouse$Modulus", "sum", "[J", true)
  | _ => ("SignHouse$Modulus", "negativeInverse", "J", false)
def tyX4 : Nat → FieldType := fun k => match k with
  | 0 => .int
  | 1 => .array .long
  | 2 => .array .long
  | 3 => .array .long
  | 4 => .array .long
  | 5 => .array .long
  | 6 => .array .long
  | 7 => .array .long
  | _ => .long
theorem nmX4 : ∀ a, a < 9 → ∀ b, b < 9 → a ≠ b → (TX4 a).2.1 ≠ (TX4 b).2.1 := by decide +kernel
theorem tyX4_ok : ∀ k, k < 9 → parseFieldDescriptor (TX4 k).2.2.1 = some (tyX4 k) := by decide +kernel
abbrev cX4_init : ByteArray := prog_6_method_1_code
def yX4_init : MethodName := ⟨RX4, "<init>", "(I)V"⟩
abbrev cX4_choose : ByteArray := prog_6_method_2_code
def yX4_choose : MethodName := ⟨RX4, "choose", "([J)V"⟩
abbrev cX4_inverseOfLowLimb : ByteArray := prog_6_method_3_code
def yX4_inverseOfLowLimb : MethodName := ⟨RX4, "inverseOfLowLimb", "()J"⟩
abbrev cX4_reduce : ByteArray := prog_6_method_4_code
def yX4_reduce : MethodName := ⟨RX4, "reduce", "([J[J)V"⟩
abbrev cX4_raise : ByteArray := prog_6_method_5_code
def yX4_raise : MethodName := ⟨RX4, "raise", "([J[J[J)V"⟩
abbrev cX4_times : ByteArray := prog_6_method_6_code
def yX4_times : MethodName := ⟨RX4, "times", "([J[J[J)V"⟩
abbrev cX4_twice : ByteArray := prog_6_method_7_code
def yX4_twice : MethodName := ⟨RX4, "twice", "([JZ)V"⟩
abbrev cX4_multiplyCarried : ByteArray := prog_6_method_8_code
def yX4_multiplyCarried : MethodName := ⟨RX4, "multiplyCarried", "([J[J[J)V"⟩
abbrev cX4_addProduct : ByteArray := prog_6_method_9_code
def yX4_addProduct : MethodName := ⟨RX4, "addProduct", "([JJ)V"⟩
abbrev cX4_dropLowLimb : ByteArray := prog_6_method_10_code
def yX4_dropLowLimb : MethodName := ⟨RX4, "dropLowLimb", "()V"⟩
def RX5 : String := "SignHouse$Rows"
def TX5 : u_T := fun k => match k with
  | _ => ("", "", "", false)
def tyX5 : Nat → FieldType := fun k => match k with
  | _ => .int
theorem nmX5 : ∀ a, a < 0 → ∀ b, b < 0 → a ≠ b → (TX5 a).2.1 ≠ (TX5 b).2.1 := by decide +kernel
theorem tyX5_ok : ∀ k, k < 0 → parseFieldDescriptor (TX5 k).2.2.1 = some (tyX5 k) := by decide +kernel
abbrev cX5_byteAt : ByteArray := prog_7_method_2_code
def yX5_byteAt : MethodName := ⟨RX5, "byteAt", "([JI)I"⟩
abbrev cX5_putByte : ByteArray := prog_7_method_3_code
def yX5_putByte : MethodName := ⟨RX5, "putByte", "([JII)V"⟩
abbrev cX5_bitAt : ByteArray := prog_7_method_4_code
def yX5_bitAt : MethodName := ⟨RX5, "bitAt", "([JI)Z"⟩
abbrev cX5_bitCount : ByteArray := prog_7_method_5_code
def yX5_bitCount : MethodName := ⟨RX5, "bitCount", "([J)I"⟩
abbrev cX5_copy : ByteArray := prog_7_method_6_code
def yX5_copy : MethodName := ⟨RX5, "copy", "([J[J)V"⟩
abbrev cX5_putSmall : ByteArray := prog_7_method_7_code
def yX5_putSmall : MethodName := ⟨RX5, "putSmall", "([JJ)V"⟩
abbrev cX5_isOne : ByteArray := prog_7_method_8_code
def yX5_isOne : MethodName := ⟨RX5, "isOne", "([J)Z"⟩
abbrev cX5_order : ByteArray := prog_7_method_9_code
def yX5_order : MethodName := ⟨RX5, "order", "([J[J)I"⟩
abbrev cX5_add : ByteArray := prog_7_method_10_code
def yX5_add : MethodName := ⟨RX5, "add", "([J[J)V"⟩
abbrev cX5_subtract : ByteArray := prog_7_method_11_code
def yX5_subtract : MethodName := ⟨RX5, "subtract", "([J[J[J)Z"⟩
abbrev cX5_lessen : ByteArray := prog_7_method_12_code
def yX5_lessen : MethodName := ⟨RX5, "lessen", "([JJ)V"⟩
abbrev cX5_halveUntilOdd : ByteArray := prog_7_method_13_code
def yX5_halveUntilOdd : MethodName := ⟨RX5, "halveUntilOdd", "([J)I"⟩
abbrev cX5_halve : ByteArray := prog_7_method_14_code
def yX5_halve : MethodName := ⟨RX5, "halve", "([J)V"⟩
abbrev cX5_multiply : ByteArray := prog_7_method_15_code
def yX5_multiply : MethodName := ⟨RX5, "multiply", "([J[J[J)V"⟩
abbrev cX5_remainder : ByteArray := prog_7_method_16_code
def yX5_remainder : MethodName := ⟨RX5, "remainder", "([JI)J"⟩
def RX6 : String := "SignHouse$Sha256"
def TX6 : u_T := fun k => match k with
  | 0 => ("SignHouse$Sha256", "state", "[I", true)
  | _ => ("SignHouse$Sha256", "schedule", "[I", true)
def tyX6 : Nat → FieldType := fun k => match k with
  | 0 => .array .int
  | _ => .array .int
theorem nmX6 : ∀ a, a < 2 → ∀ b, b < 2 → a ≠ b → (TX6 a).2.1 ≠ (TX6 b).2.1 := by decide +kernel
theorem tyX6_ok : ∀ k, k < 2 → parseFieldDescriptor (TX6 k).2.2.1 = some (tyX6 k) := by decide +kernel
abbrev cX6_init : ByteArray := prog_8_method_1_code
def yX6_init : MethodName := ⟨RX6, "<init>", "()V"⟩
abbrev cX6_hashFirst : ByteArray := prog_8_method_2_code
def yX6_hashFirst : MethodName := ⟨RX6, "hashFirst", "([BI)V"⟩
abbrev cX6_byteAt : ByteArray := prog_8_method_3_code
def yX6_byteAt : MethodName := ⟨RX6, "byteAt", "(I)I"⟩
abbrev cX6_paddedWord : ByteArray := prog_8_method_4_code
def yX6_paddedWord : MethodName := ⟨RX6, "paddedWord", "([BIII)I"⟩
abbrev cX6_extendSchedule : ByteArray := prog_8_method_5_code
def yX6_extendSchedule : MethodName := ⟨RX6, "extendSchedule", "()V"⟩
abbrev cX6_mixBlock : ByteArray := prog_8_method_6_code
def yX6_mixBlock : MethodName := ⟨RX6, "mixBlock", "()V"⟩
def RX7 : String := "SignHouse"
def TX7 : u_T := fun k => match k with
  | 0 => ("SignHouse", "half", "I", true)
  | 1 => ("SignHouse", "size", "I", true)
  | 2 => ("SignHouse", "rounds", "I", true)
  | 3 => ("SignHouse", "draw", "LSignHouse$Draw;", true)
  | 4 => ("SignHouse", "hunt", "LSignHouse$Hunt;", true)
  | 5 => ("SignHouse", "keyRows", "LSignHouse$KeyRows;", true)
  | 6 => ("SignHouse", "message", "LSignHouse$Message;", true)
  | 7 => ("SignHouse", "register", "[J", true)
  | 8 => ("SignHouse", "encodedRow", "[J", true)
  | 9 => ("SignHouse", "powerRow", "[J", true)
  | 10 => ("SignHouse", "signed", "I", false)
  | _ => ("SignHouse", "verified", "I", false)
def tyX7 : Nat → FieldType := fun k => match k with
  | 0 => .int
  | 1 => .int
  | 2 => .int
  | 3 => .object "SignHouse$Draw"
  | 4 => .object "SignHouse$Hunt"
  | 5 => .object "SignHouse$KeyRows"
  | 6 => .object "SignHouse$Message"
  | 7 => .array .long
  | 8 => .array .long
  | 9 => .array .long
  | 10 => .int
  | _ => .int
theorem nmX7 : ∀ a, a < 12 → ∀ b, b < 12 → a ≠ b → (TX7 a).2.1 ≠ (TX7 b).2.1 := by decide +kernel
theorem tyX7_ok : ∀ k, k < 12 → parseFieldDescriptor (TX7 k).2.2.1 = some (tyX7 k) := by decide +kernel
abbrev cX7_init : ByteArray := prog_1_method_1_code
def yX7_init : MethodName := ⟨RX7, "<init>", "(II)V"⟩
abbrev cX7_seed : ByteArray := prog_1_method_2_code
def yX7_seed : MethodName := ⟨RX7, "seed", "(I)I"⟩
abbrev cX7_search : ByteArray := prog_1_method_3_code
def yX7_search : MethodName := ⟨RX7, "search", "(I)I"⟩
abbrev cX7_forget : ByteArray := prog_1_method_4_code
def yX7_forget : MethodName := ⟨RX7, "forget", "()I"⟩
abbrev cX7_key : ByteArray := prog_1_method_5_code
def yX7_key : MethodName := ⟨RX7, "key", "(II)I"⟩
abbrev cX7_count : ByteArray := prog_1_method_6_code
def yX7_count : MethodName := ⟨RX7, "count", "(I)I"⟩
abbrev cX7_feed : ByteArray := prog_1_method_7_code
def yX7_feed : MethodName := ⟨RX7, "feed", "(JI)I"⟩
abbrev cX7_cut : ByteArray := prog_1_method_8_code
def yX7_cut : MethodName := ⟨RX7, "cut", "(I)I"⟩
abbrev cX7_hash : ByteArray := prog_1_method_9_code
def yX7_hash : MethodName := ⟨RX7, "hash", "(I)I"⟩
abbrev cX7_encoded : ByteArray := prog_1_method_10_code
def yX7_encoded : MethodName := ⟨RX7, "encoded", "(I)I"⟩
abbrev cX7_sign : ByteArray := prog_1_method_11_code
def yX7_sign : MethodName := ⟨RX7, "sign", "()I"⟩
abbrev cX7_verify : ByteArray := prog_1_method_12_code
def yX7_verify : MethodName := ⟨RX7, "verify", "()I"⟩
abbrev cX7_power : ByteArray := prog_1_method_13_code
def yX7_power : MethodName := ⟨RX7, "power", "(Z)I"⟩
abbrev cX7_encode : ByteArray := prog_1_method_14_code
def yX7_encode : MethodName := ⟨RX7, "encode", "()I"⟩
abbrev cX7_set : ByteArray := prog_1_method_15_code
def yX7_set : MethodName := ⟨RX7, "set", "(II)I"⟩
abbrev cX7_get : ByteArray := prog_1_method_16_code
def yX7_get : MethodName := ⟨RX7, "get", "(I)I"⟩
abbrev cX7_digest : ByteArray := prog_1_method_17_code
def yX7_digest : MethodName := ⟨RX7, "digest", "()J"⟩
abbrev cX7_digestKey : ByteArray := prog_1_method_18_code
def yX7_digestKey : MethodName := ⟨RX7, "digestKey", "(J)J"⟩
abbrev cX7_bytesOfKeyPart : ByteArray := prog_1_method_19_code
def yX7_bytesOfKeyPart : MethodName := ⟨RX7, "bytesOfKeyPart", "(I)I"⟩
abbrev cX7_byteOfKeyPart : ByteArray := prog_1_method_20_code
def yX7_byteOfKeyPart : MethodName := ⟨RX7, "byteOfKeyPart", "(II)I"⟩
abbrev cX7_encodedByte : ByteArray := prog_1_method_21_code
def yX7_encodedByte : MethodName := ⟨RX7, "encodedByte", "(I)I"⟩
abbrev cX7_writeEncoded : ByteArray := prog_1_method_22_code
def yX7_writeEncoded : MethodName := ⟨RX7, "writeEncoded", "([J)V"⟩
def RX8 : String := "SignHouseModel"
def TX8 : u_T := fun k => match k with
  | 0 => ("SignHouseModel", "x", "[I", true)
  | 1 => ("SignHouseModel", "half", "I", true)
  | 2 => ("SignHouseModel", "rounds", "I", true)
  | 3 => ("SignHouseModel", "buffer", "[I", true)
  | 4 => ("SignHouseModel", "buffered", "I", false)
  | 5 => ("SignHouseModel", "state", "[I", true)
  | 6 => ("SignHouseModel", "w", "[I", true)
  | 7 => ("SignHouseModel", "first", "[I", true)
  | 8 => ("SignHouseModel", "constant", "[I", true)
  | 9 => ("SignHouseModel", "seed", "[I", true)
  | 10 => ("SignHouseModel", "words", "I", false)
  | 11 => ("SignHouseModel", "begun", "Z", false)
  | 12 => ("SignHouseModel", "isKey", "Z", false)
  | 13 => ("SignHouseModel", "hasP", "Z", false)
  | 14 => ("SignHouseModel", "examined", "I", false)
  | 15 => ("SignHouseModel", "undivided", "I", false)
  | 16 => ("SignHouseModel", "drawBlock", "I", false)
  | 17 => ("SignHouseModel", "drawAt", "I", false)
  | 18 => ("SignHouseModel", "signed", "I", false)
  | 19 => ("SignHouseModel", "verified", "I", false)
  | 20 => ("SignHouseModel", "message", "[I", true)
  | 21 => ("SignHouseModel", "length", "I", false)
  | _ => ("SignHouseModel", "mark", "[I", true)
def tyX8 : Nat → FieldType := fun k => match k with
  | 0 => .array .int
  | 1 => .int
  | 2 => .int
  | 3 => .array .int
  | 4 => .int
  | 5 => .array .int
  | 6 => .array .int
  | 7 => .array .int
  | 8 => .array .int
  | 9 => .array .int
  | 10 => .int
  | 11 => .boolean
  | 12 => .boolean
  | 13 => .boolean
  | 14 => .int
  | 15 => .int
  | 16 => .int
  | 17 => .int
  | 18 => .int
  | 19 => .int
  | 20 => .array .int
  | 21 => .int
  | _ => .array .int
theorem nmX8 : ∀ a, a < 23 → ∀ b, b < 23 → a ≠ b → (TX8 a).2.1 ≠ (TX8 b).2.1 := by decide +kernel
theorem tyX8_ok : ∀ k, k < 23 → parseFieldDescriptor (TX8 k).2.2.1 = some (tyX8 k) := by decide +kernel
abbrev cX8_in : ByteArray := prog_10_method_2_code
def yX8_in : MethodName := ⟨RX8, "in", "(III)Z"⟩
abbrev cX8_init : ByteArray := prog_10_method_3_code
def yX8_init : MethodName := ⟨RX8, "<init>", "(II)V"⟩
abbrev cX8_clear : ByteArray := prog_10_method_4_code
def yX8_clear : MethodName := ⟨RX8, "clear", "(I)V"⟩
abbrev cX8_copy : ByteArray := prog_10_method_5_code
def yX8_copy : MethodName := ⟨RX8, "copy", "(II)V"⟩
abbrev cX8_small : ByteArray := prog_10_method_6_code
def yX8_small : MethodName := ⟨RX8, "small", "(II)V"⟩
abbrev cX8_longOf : ByteArray := prog_10_method_7_code
def yX8_longOf : MethodName := ⟨RX8, "longOf", "(I)I"⟩
abbrev cX8_compare : ByteArray := prog_10_method_8_code
def yX8_compare : MethodName := ⟨RX8, "compare", "(II)I"⟩
abbrev cX8_isSmall : ByteArray := prog_10_method_9_code
def yX8_isSmall : MethodName := ⟨RX8, "isSmall", "(II)Z"⟩
abbrev cX8_adds : ByteArray := prog_10_method_10_code
def yX8_adds : MethodName := ⟨RX8, "adds", "(II)V"⟩
abbrev cX8_takes : ByteArray := prog_10_method_11_code
def yX8_takes : MethodName := ⟨RX8, "takes", "(II)V"⟩
abbrev cX8_takesSmall : ByteArray := prog_10_method_12_code
def yX8_takesSmall : MethodName := ⟨RX8, "takesSmall", "(II)V"⟩
abbrev cX8_growsSmall : ByteArray := prog_10_method_13_code
def yX8_growsSmall : MethodName := ⟨RX8, "growsSmall", "(III)V"⟩
abbrev cX8_restSmall : ByteArray := prog_10_method_14_code
def yX8_restSmall : MethodName := ⟨RX8, "restSmall", "(II)I"⟩
abbrev cX8_shareSmall : ByteArray := prog_10_method_15_code
def yX8_shareSmall : MethodName := ⟨RX8, "shareSmall", "(II)V"⟩
abbrev cX8_moveLeft : ByteArray := prog_10_method_16_code
def yX8_moveLeft : MethodName := ⟨RX8, "moveLeft", "(III)V"⟩
abbrev cX8_moveRight : ByteArray := prog_10_method_17_code
def yX8_moveRight : MethodName := ⟨RX8, "moveRight", "(II)V"⟩
abbrev cX8_times : ByteArray := prog_10_method_18_code
def yX8_times : MethodName := ⟨RX8, "times", "(III)V"⟩
abbrev cX8_dividesAt : ByteArray := prog_10_method_19_code
def yX8_dividesAt : MethodName := ⟨RX8, "dividesAt", "(III)V"⟩
abbrev cX8_leaves : ByteArray := prog_10_method_20_code
def yX8_leaves : MethodName := ⟨RX8, "leaves", "(II)V"⟩
abbrev cX8_bit : ByteArray := prog_10_method_21_code
def yX8_bit : MethodName := ⟨RX8, "bit", "(II)Z"⟩
abbrev cX8_powers : ByteArray := prog_10_method_22_code
def yX8_powers : MethodName := ⟨RX8, "powers", "(III)V"⟩
abbrev cX8_byteAt : ByteArray := prog_10_method_23_code
def yX8_byteAt : MethodName := ⟨RX8, "byteAt", "(III)I"⟩
abbrev cX8_byteTo : ByteArray := prog_10_method_24_code
def yX8_byteTo : MethodName := ⟨RX8, "byteTo", "(IIII)V"⟩
abbrev cX8_padded : ByteArray := prog_10_method_25_code
def yX8_padded : MethodName := ⟨RX8, "padded", "(II)I"⟩
abbrev cX8_turned : ByteArray := prog_10_method_26_code
def yX8_turned : MethodName := ⟨RX8, "turned", "(II)I"⟩
abbrev cX8_block : ByteArray := prog_10_method_27_code
def yX8_block : MethodName := ⟨RX8, "block", "(II)V"⟩
abbrev cX8_hashes : ByteArray := prog_10_method_28_code
def yX8_hashes : MethodName := ⟨RX8, "hashes", "()V"⟩
abbrev cX8_hashByte : ByteArray := prog_10_method_29_code
def yX8_hashByte : MethodName := ⟨RX8, "hashByte", "(I)I"⟩
abbrev cX8_seed : ByteArray := prog_10_method_30_code
def yX8_seed : MethodName := ⟨RX8, "seed", "(I)I"⟩
abbrev cX8_lay : ByteArray := prog_10_method_31_code
def yX8_lay : MethodName := ⟨RX8, "lay", "(I)V"⟩
abbrev cX8_draws : ByteArray := prog_10_method_32_code
def yX8_draws : MethodName := ⟨RX8, "draws", "()I"⟩
abbrev cX8_isDivided : ByteArray := prog_10_method_33_code
def yX8_isDivided : MethodName := ⟨RX8, "isDivided", "()Z"⟩
abbrev cX8_base : ByteArray := prog_10_method_34_code
def yX8_base : MethodName := ⟨RX8, "base", "(I)I"⟩
abbrev cX8_passesBy : ByteArray := prog_10_method_35_code
def yX8_passesBy : MethodName := ⟨RX8, "passesBy", "(II)Z"⟩
abbrev cX8_passes : ByteArray := prog_10_method_36_code
def yX8_passes : MethodName := ⟨RX8, "passes", "()Z"⟩
abbrev cX8_isGood : ByteArray := prog_10_method_37_code
def yX8_isGood : MethodName := ⟨RX8, "isGood", "()Z"⟩
abbrev cX8_inverse : ByteArray := prog_10_method_38_code
def yX8_inverse : MethodName := ⟨RX8, "inverse", "(II)V"⟩
abbrev cX8_makesKey : ByteArray := prog_10_method_39_code
def yX8_makesKey : MethodName := ⟨RX8, "makesKey", "()V"⟩
abbrev cX8_examines : ByteArray := prog_10_method_40_code
def yX8_examines : MethodName := ⟨RX8, "examines", "()V"⟩
abbrev cX8_search : ByteArray := prog_10_method_41_code
def yX8_search : MethodName := ⟨RX8, "search", "(I)I"⟩
abbrev cX8_forget : ByteArray := prog_10_method_42_code
def yX8_forget : MethodName := ⟨RX8, "forget", "()I"⟩
abbrev cX8_sizeOf : ByteArray := prog_10_method_43_code
def yX8_sizeOf : MethodName := ⟨RX8, "sizeOf", "(I)I"⟩
abbrev cX8_key : ByteArray := prog_10_method_44_code
def yX8_key : MethodName := ⟨RX8, "key", "(II)I"⟩
abbrev cX8_count : ByteArray := prog_10_method_45_code
def yX8_count : MethodName := ⟨RX8, "count", "(I)I"⟩
abbrev cX8_feed : ByteArray := prog_10_method_46_code
def yX8_feed : MethodName := ⟨RX8, "feed", "(JI)I"⟩
abbrev cX8_cut : ByteArray := prog_10_method_47_code
def yX8_cut : MethodName := ⟨RX8, "cut", "(I)I"⟩
abbrev cX8_hashesMessage : ByteArray := prog_10_method_48_code
def yX8_hashesMessage : MethodName := ⟨RX8, "hashesMessage", "()V"⟩
abbrev cX8_hash : ByteArray := prog_10_method_49_code
def yX8_hash : MethodName := ⟨RX8, "hash", "(I)I"⟩
abbrev cX8_encodes : ByteArray := prog_10_method_50_code
def yX8_encodes : MethodName := ⟨RX8, "encodes", "()V"⟩
abbrev cX8_encoded : ByteArray := prog_10_method_51_code
def yX8_encoded : MethodName := ⟨RX8, "encoded", "(I)I"⟩
abbrev cX8_sign : ByteArray := prog_10_method_52_code
def yX8_sign : MethodName := ⟨RX8, "sign", "()I"⟩
abbrev cX8_exponentE : ByteArray := prog_10_method_53_code
def yX8_exponentE : MethodName := ⟨RX8, "exponentE", "()V"⟩
abbrev cX8_verify : ByteArray := prog_10_method_54_code
def yX8_verify : MethodName := ⟨RX8, "verify", "()I"⟩
abbrev cX8_power : ByteArray := prog_10_method_55_code
def yX8_power : MethodName := ⟨RX8, "power", "(Z)I"⟩
abbrev cX8_encode : ByteArray := prog_10_method_56_code
def yX8_encode : MethodName := ⟨RX8, "encode", "()I"⟩
abbrev cX8_set : ByteArray := prog_10_method_57_code
def yX8_set : MethodName := ⟨RX8, "set", "(II)I"⟩
abbrev cX8_get : ByteArray := prog_10_method_58_code
def yX8_get : MethodName := ⟨RX8, "get", "(I)I"⟩
abbrev cX8_mixed : ByteArray := prog_10_method_59_code
def yX8_mixed : MethodName := ⟨RX8, "mixed", "(JII)J"⟩
abbrev cX8_digest : ByteArray := prog_10_method_60_code
def yX8_digest : MethodName := ⟨RX8, "digest", "()J"⟩
def RJx145de : String := "java/io/Serializable"
def RJxb160c : String := "java/lang/Comparable"
def RJ6 : String := "java/lang/Integer"
abbrev cJ6_numberOfLeadingZeros_0f7a4 : ByteArray := prog_11_method_47_code
def yJ6_numberOfLeadingZeros_0f7a4 : MethodName := ⟨RJ6, "numberOfLeadingZeros", "(I)I"⟩
abbrev cJ6_rotateRight_7cf53 : ByteArray := prog_11_method_51_code
def yJ6_rotateRight_7cf53 : MethodName := ⟨RJ6, "rotateRight", "(II)I"⟩
def RJ13 : String := "java/lang/Long"
abbrev cJ13_numberOfLeadingZeros_95d88 : ByteArray := prog_12_method_48_code
def yJ13_numberOfLeadingZeros_95d88 : MethodName := ⟨RJ13, "numberOfLeadingZeros", "(J)I"⟩
def RJ9 : String := "java/lang/Math"
abbrev cJ9_max_7cf53 : ByteArray := prog_13_method_65_code
def yJ9_max_7cf53 : MethodName := ⟨RJ9, "max", "(II)I"⟩
abbrev cJ9_min_7cf53 : ByteArray := prog_13_method_69_code
def yJ9_min_7cf53 : MethodName := ⟨RJ9, "min", "(II)I"⟩
def RJxd2413 : String := "java/lang/Number"
def RJxfd54e : String := "java/lang/constant/Constable"
def RJx3cf43 : String := "java/lang/constant/ConstantDesc"
def RJ7 : String := "java/util/Arrays"
abbrev cJ7_fill_d0a16 : ByteArray := prog_15_method_101_code
def yJ7_fill_d0a16 : MethodName := ⟨RJ7, "fill", "([JJ)V"⟩
def RL : String := "SignHouseLaw"
abbrev cL_cell : ByteArray := method_2_code
def yL_cell : MethodName := ⟨RL, "cell", "([II)I"⟩
abbrev cL_law : ByteArray := code
def yL_law : MethodName := ⟨RL, "law", "([I)Z"⟩
abbrev vwCl : List vw_C := [(RX0, TX0, 5), (RX1, TX1, 14), (RX2, TX2, 17), (RX3, TX3, 3), (RX4, TX4, 9), (RX6, TX6, 2), (RX7, TX7, 12), (RX8, TX8, 23)]
end
section
theorem dX0_init_0 : decode cX0_init 0 = .ok (.aload_n 0, 1) := by decide +kernel
theorem dX0_init_1 : decode cX0_init 1 = .ok (.invokespecial 3, 3) := by decide +kernel
theorem dX0_init_4 : decode cX0_init 4 = .ok (.aload_n 0, 1) := by decide +kernel
theorem dX0_init_5 : decode cX0_init 5 = .ok (.bipush 68, 2) := by decide +kernel
theorem dX0_init_7 : decode cX0_init 7 = .ok (.newarray .byte, 2) := by decide +kernel
theorem dX0_init_9 : decode cX0_init 9 = .ok (.putfield 11, 3) := by decide +kernel
theorem dX0_init_12 : decode cX0_init 12 = .ok (.aload_n 0, 1) := by decide +kernel
theorem dX0_init_13 : decode cX0_init 13 = .ok (.new 15, 3) := by decide +kernel
theorem dX0_init_16 : decode cX0_init 16 = .ok (.dup, 1) := by decide +kernel
theorem dX0_init_17 : decode cX0_init 17 = .ok (.invokespecial 17, 3) := by decide +kernel
theorem dX0_init_20 : decode cX0_init 20 = .ok (.putfield 18, 3) := by decide +kernel
theorem dX0_init_23 : decode cX0_init 23 = .ok (.return_, 1) := by decide +kernel
theorem dX0_clear_0 : decode cX0_clear 0 = .ok (.aload_n 0, 1) := by decide +kernel
theorem dX0_clear_1 : decode cX0_clear 1 = .ok (.iconst 0, 1) := by decide +kernel
theorem dX0_clear_2 : decode cX0_clear 2 = .ok (.putfield 22, 3) := by decide +kernel
theorem dX0_clear_5 : decode cX0_clear 5 = .ok (.aload_n 0, 1) := by decide +kernel
theorem dX0_clear_6 : decode cX0_clear 6 = .ok (.iconst 0, 1) := by decide +kernel
theorem dX0_clear_7 : decode cX0_clear 7 = .ok (.putfield 26, 3) := by decide +kernel
theorem dX0_clear_10 : decode cX0_clear 10 = .ok (.aload_n 0, 1) := by decide +kernel
theorem dX0_clear_11 : decode cX0_clear 11 = .ok (.iconst 0, 1) := by decide +kernel
theorem dX0_clear_12 : decode cX0_clear 12 = .ok (.putfield 29, 3) := by decide +kernel
theorem dX0_clear_15 : decode cX0_clear 15 = .ok (.return_, 1) := by decide +kernel
theorem dX0_wordCount_0 : decode cX0_wordCount 0 = .ok (.aload_n 0, 1) := by decide +kernel
theorem dX0_wordCount_1 : decode cX0_wordCount 1 = .ok (.getfield 22, 3) := by decide +kernel
theorem dX0_wordCount_4 : decode cX0_wordCount 4 = .ok (.ireturn, 1) := by decide +kernel
theorem dX0_addWord_0 : decode cX0_addWord 0 = .ok (.aload_n 0, 1) := by decide +kernel
theorem dX0_addWord_1 : decode cX0_addWord 1 = .ok (.getfield 22, 3) := by decide +kernel
theorem dX0_addWord_4 : decode cX0_addWord 4 = .ok (.bipush 16, 2) := by decide +kernel
theorem dX0_addWord_6 : decode cX0_addWord 6 = .ok (.if_icmp .ge 18, 3) := by decide +kernel
theorem dX0_addWord_9 : decode cX0_addWord 9 = .ok (.aload_n 0, 1) := by decide +kernel
theorem dX0_addWord_10 : decode cX0_addWord 10 = .ok (.iload_n 1, 1) := by decide +kernel
theorem dX0_addWord_11 : decode cX0_addWord 11 = .ok (.invokevirtual 32, 3) := by decide +kernel
theorem dX0_addWord_14 : decode cX0_addWord 14 = .ok (.aload_n 0, 1) := by decide +kernel
theorem dX0_addWord_15 : decode cX0_addWord 15 = .ok (.dup, 1) := by decide +kernel
theorem dX0_addWord_16 : decode cX0_addWord 16 = .ok (.getfield 22, 3) := by decide +kernel
theorem dX0_addWord_19 : decode cX0_addWord 19 = .ok (.iconst 1, 1) := by decide +kernel
theorem dX0_addWord_20 : decode cX0_addWord 20 = .ok (.iadd, 1) := by decide +kernel
theorem dX0_addWord_21 : decode cX0_addWord 21 = .ok (.putfield 22, 3) := by decide +kernel
theorem dX0_addWord_24 : decode cX0_addWord 24 = .ok (.return_, 1) := by decide +kernel
theorem dX0_nextByte_0 : decode cX0_nextByte 0 = .ok (.aload_n 0, 1) := by decide +kernel
theorem dX0_nextByte_1 : decode cX0_nextByte 1 = .ok (.getfield 29, 3) := by decide +kernel
theorem dX0_nextByte_4 : decode cX0_nextByte 4 = .ok (.ifCond .ne 46, 3) := by decide +kernel
theorem dX0_nextByte_7 : decode cX0_nextByte 7 = .ok (.aload_n 0, 1) := by decide +kernel
theorem dX0_nextByte_8 : decode cX0_nextByte 8 = .ok (.aload_n 0, 1) := by decide +kernel
theorem dX0_nextByte_9 : decode cX0_nextByte 9 = .ok (.getfield 26, 3) := by decide +kernel
theorem dX0_nextByte_12 : decode cX0_nextByte 12 = .ok (.invokevirtual 32, 3) := by decide +kernel
theorem dX0_nextByte_15 : decode cX0_nextByte 15 = .ok (.aload_n 0, 1) := by decide +kernel
theorem dX0_nextByte_16 : decode cX0_nextByte 16 = .ok (.getfield 18, 3) := by decide +kernel
theorem dX0_nextByte_19 : decode cX0_nextByte 19 = .ok (.aload_n 0, 1) := by decide +kernel
theorem dX0_nextByte_20 : decode cX0_nextByte 20 = .ok (.getfield 11, 3) := by decide +kernel
theorem dX0_nextByte_23 : decode cX0_nextByte 23 = .ok (.iconst 4, 1) := by decide +kernel
theorem dX0_nextByte_24 : decode cX0_nextByte 24 = .ok (.aload_n 0, 1) := by decide +kernel
theorem dX0_nextByte_25 : decode cX0_nextByte 25 = .ok (.getfield 22, 3) := by decide +kernel
theorem dX0_nextByte_28 : decode cX0_nextByte 28 = .ok (.imul, 1) := by decide +kernel
theorem dX0_nextByte_29 : decode cX0_nextByte 29 = .ok (.iconst 4, 1) := by decide +kernel
theorem dX0_nextByte_30 : decode cX0_nextByte 30 = .ok (.iadd, 1) := by decide +kernel
theorem dX0_nextByte_31 : decode cX0_nextByte 31 = .ok (.invokevirtual 36, 3) := by decide +kernel
theorem dX0_nextByte_34 : decode cX0_nextByte 34 = .ok (.aload_n 0, 1) := by decide +kernel
theorem dX0_nextByte_35 : decode cX0_nextByte 35 = .ok (.dup, 1) := by decide +kernel
theorem dX0_nextByte_36 : decode cX0_nextByte 36 = .ok (.getfield 26, 3) := by decide +kernel
theorem dX0_nextByte_39 : decode cX0_nextByte 39 = .ok (.iconst 1, 1) := by decide +kernel
theorem dX0_nextByte_40 : decode cX0_nextByte 40 = .ok (.iadd, 1) := by decide +kernel
theorem dX0_nextByte_41 : decode cX0_nextByte 41 = .ok (.putfield 26, 3) := by decide +kernel
theorem dX0_nextByte_44 : decode cX0_nextByte 44 = .ok (.aload_n 0, 1) := by decide +kernel
theorem dX0_nextByte_45 : decode cX0_nextByte 45 = .ok (.bipush 32, 2) := by decide +kernel
theorem dX0_nextByte_47 : decode cX0_nextByte 47 = .ok (.putfield 29, 3) := by decide +kernel
theorem dX0_nextByte_50 : decode cX0_nextByte 50 = .ok (.aload_n 0, 1) := by decide +kernel
theorem dX0_nextByte_51 : decode cX0_nextByte 51 = .ok (.dup, 1) := by decide +kernel
theorem dX0_nextByte_52 : decode cX0_nextByte 52 = .ok (.getfield 29, 3) := by decide +kernel
theorem dX0_nextByte_55 : decode cX0_nextByte 55 = .ok (.iconst 1, 1) := by decide +kernel
theorem dX0_nextByte_56 : decode cX0_nextByte 56 = .ok (.isub, 1) := by decide +kernel
theorem dX0_nextByte_57 : decode cX0_nextByte 57 = .ok (.putfield 29, 3) := by decide +kernel
theorem dX0_nextByte_60 : decode cX0_nextByte 60 = .ok (.aload_n 0, 1) := by decide +kernel
theorem dX0_nextByte_61 : decode cX0_nextByte 61 = .ok (.getfield 18, 3) := by decide +kernel
theorem dX0_nextByte_64 : decode cX0_nextByte 64 = .ok (.bipush 31, 2) := by decide +kernel
theorem dX0_nextByte_66 : decode cX0_nextByte 66 = .ok (.aload_n 0, 1) := by decide +kernel
theorem dX0_nextByte_67 : decode cX0_nextByte 67 = .ok (.getfield 29, 3) := by decide +kernel
theorem dX0_nextByte_70 : decode cX0_nextByte 70 = .ok (.isub, 1) := by decide +kernel
theorem dX0_nextByte_71 : decode cX0_nextByte 71 = .ok (.invokevirtual 40, 3) := by decide +kernel
theorem dX0_nextByte_74 : decode cX0_nextByte 74 = .ok (.ireturn, 1) := by decide +kernel
theorem dX0_putWord_0 : decode cX0_putWord 0 = .ok (.iconst 0, 1) := by decide +kernel
theorem dX0_putWord_1 : decode cX0_putWord 1 = .ok (.istore_n 2, 1) := by decide +kernel
theorem dX0_putWord_2 : decode cX0_putWord 2 = .ok (.iload_n 2, 1) := by decide +kernel
theorem dX0_putWord_3 : decode cX0_putWord 3 = .ok (.iconst 4, 1) := by decide +kernel
theorem dX0_putWord_4 : decode cX0_putWord 4 = .ok (.if_icmp .ge 47, 3) := by decide +kernel
theorem dX0_putWord_7 : decode cX0_putWord 7 = .ok (.iconst 4, 1) := by decide +kernel
theorem dX0_putWord_8 : decode cX0_putWord 8 = .ok (.aload_n 0, 1) := by decide +kernel
theorem dX0_putWord_9 : decode cX0_putWord 9 = .ok (.getfield 22, 3) := by decide +kernel
theorem dX0_putWord_12 : decode cX0_putWord 12 = .ok (.imul, 1) := by decide +kernel
theorem dX0_putWord_13 : decode cX0_putWord 13 = .ok (.iload_n 2, 1) := by decide +kernel
theorem dX0_putWord_14 : decode cX0_putWord 14 = .ok (.iadd, 1) := by decide +kernel
theorem dX0_putWord_15 : decode cX0_putWord 15 = .ok (.istore_n 3, 1) := by decide +kernel
theorem dX0_putWord_16 : decode cX0_putWord 16 = .ok (.iload_n 3, 1) := by decide +kernel
theorem dX0_putWord_17 : decode cX0_putWord 17 = .ok (.ifCond .lt 28, 3) := by decide +kernel
theorem dX0_putWord_20 : decode cX0_putWord 20 = .ok (.iload_n 3, 1) := by decide +kernel
theorem dX0_putWord_21 : decode cX0_putWord 21 = .ok (.aload_n 0, 1) := by decide +kernel
theorem dX0_putWord_22 : decode cX0_putWord 22 = .ok (.getfield 11, 3) := by decide +kernel
theorem dX0_putWord_25 : decode cX0_putWord 25 = .ok (.arraylength, 1) := by decide +kernel
theorem dX0_putWord_26 : decode cX0_putWord 26 = .ok (.if_icmp .ge 19, 3) := by decide +kernel
theorem dX0_putWord_29 : decode cX0_putWord 29 = .ok (.aload_n 0, 1) := by decide +kernel
theorem dX0_putWord_30 : decode cX0_putWord 30 = .ok (.getfield 11, 3) := by decide +kernel
theorem dX0_putWord_33 : decode cX0_putWord 33 = .ok (.iload_n 3, 1) := by decide +kernel
theorem dX0_putWord_34 : decode cX0_putWord 34 = .ok (.iload_n 1, 1) := by decide +kernel
theorem dX0_putWord_35 : decode cX0_putWord 35 = .ok (.bipush 24, 2) := by decide +kernel
theorem dX0_putWord_37 : decode cX0_putWord 37 = .ok (.bipush 8, 2) := by decide +kernel
theorem dX0_putWord_39 : decode cX0_putWord 39 = .ok (.iload_n 2, 1) := by decide +kernel
theorem dX0_putWord_40 : decode cX0_putWord 40 = .ok (.imul, 1) := by decide +kernel
theorem dX0_putWord_41 : decode cX0_putWord 41 = .ok (.isub, 1) := by decide +kernel
theorem dX0_putWord_42 : decode cX0_putWord 42 = .ok (.iushr, 1) := by decide +kernel
theorem dX0_putWord_43 : decode cX0_putWord 43 = .ok (.i2b, 1) := by decide +kernel
theorem dX0_putWord_44 : decode cX0_putWord 44 = .ok (.bastore, 1) := by decide +kernel
theorem dX0_putWord_45 : decode cX0_putWord 45 = .ok (.iinc 2 1, 3) := by decide +kernel
theorem dX0_putWord_48 : decode cX0_putWord 48 = .ok (.goto (-46), 3) := by decide +kernel
theorem dX0_putWord_51 : decode cX0_putWord 51 = .ok (.return_, 1) := by decide +kernel
theorem dX1_init_0 : decode cX1_init 0 = .ok (.aload_n 0, 1) := by decide +kernel
theorem dX1_init_1 : decode cX1_init 1 = .ok (.invokespecial 1, 3) := by decide +kernel
theorem dX1_init_4 : decode cX1_init 4 = .ok (.aload_n 0, 1) := by decide +kernel
theorem dX1_init_5 : decode cX1_init 5 = .ok (.aload_n 1, 1) := by decide +kernel
theorem dX1_init_6 : decode cX1_init 6 = .ok (.putfield 7, 3) := by decide +kernel
theorem dX1_init_9 : decode cX1_init 9 = .ok (.aload_n 0, 1) := by decide +kernel
theorem dX1_init_10 : decode cX1_init 10 = .ok (.iload_n 2, 1) := by decide +kernel
theorem dX1_init_11 : decode cX1_init 11 = .ok (.putfield 13, 3) := by decide +kernel
theorem dX1_init_14 : decode cX1_init 14 = .ok (.aload_n 0, 1) := by decide +kernel
theorem dX1_init_15 : decode cX1_init 15 = .ok (.iload 4, 2) := by decide +kernel
theorem dX1_init_17 : decode cX1_init 17 = .ok (.putfield 17, 3) := by decide +kernel
theorem dX1_init_20 : decode cX1_init 20 = .ok (.iconst 1, 1) := by decide +kernel
theorem dX1_init_21 : decode cX1_init 21 = .ok (.iload_n 3, 1) := by decide +kernel
theorem dX1_init_22 : decode cX1_init 22 = .ok (.invokestatic 20, 3) := by decide +kernel
theorem dX1_init_25 : decode cX1_init 25 = .ok (.istore 5, 2) := by decide +kernel
theorem dX1_init_27 : decode cX1_init 27 = .ok (.aload_n 0, 1) := by decide +kernel
theorem dX1_init_28 : decode cX1_init 28 = .ok (.new 26, 3) := by decide +kernel
theorem dX1_init_31 : decode cX1_init 31 = .ok (.dup, 1) := by decide +kernel
theorem dX1_init_32 : decode cX1_init 32 = .ok (.iload 5, 2) := by decide +kernel
theorem dX1_init_34 : decode cX1_init 34 = .ok (.invokespecial 28, 3) := by decide +kernel
theorem dX1_init_37 : decode cX1_init 37 = .ok (.putfield 31, 3) := by decide +kernel
theorem dX1_init_40 : decode cX1_init 40 = .ok (.aload_n 0, 1) := by decide +kernel
theorem dX1_init_41 : decode cX1_init 41 = .ok (.iload 5, 2) := by decide +kernel
theorem dX1_init_43 : decode cX1_init 43 = .ok (.newarray .long, 2) := by decide +kernel
theorem dX1_init_45 : decode cX1_init 45 = .ok (.putfield 35, 3) := by decide +kernel
theorem dX1_init_48 : decode cX1_init 48 = .ok (.aload_n 0, 1) := by decide +kernel
theorem dX1_init_49 : decode cX1_init 49 = .ok (.iload 5, 2) := by decide +kernel
theorem dX1_init_51 : decode cX1_init 51 = .ok (.newarray .long, 2) := by decide +kernel
theorem dX1_init_53 : decode cX1_init 53 = .ok (.putfield 39, 3) := by decide +kernel
theorem dX1_init_56 : decode cX1_init 56 = .ok (.aload_n 0, 1) := by decide +kernel
theorem dX1_init_57 : decode cX1_init 57 = .ok (.iload 5, 2) := by decide +kernel
theorem dX1_init_59 : decode cX1_init 59 = .ok (.newarray .long, 2) := by decide +kernel
theorem dX1_init_61 : decode cX1_init 61 = .ok (.putfield 42, 3) := by decide +kernel
theorem dX1_init_64 : decode cX1_init 64 = .ok (.aload_n 0, 1) := by decide +kernel
theorem dX1_init_65 : decode cX1_init 65 = .ok (.iload 5, 2) := by decide +kernel
theorem dX1_init_67 : decode cX1_init 67 = .ok (.newarray .long, 2) := by decide +kernel
theorem dX1_init_69 : decode cX1_init 69 = .ok (.putfield 45, 3) := by decide +kernel
theorem dX1_init_72 : decode cX1_init 72 = .ok (.aload_n 0, 1) := by decide +kernel
theorem dX1_init_73 : decode cX1_init 73 = .ok (.iload 5, 2) := by decide +kernel
theorem dX1_init_75 : decode cX1_init 75 = .ok (.newarray .long, 2) := by decide +kernel
theorem dX1_init_77 : decode cX1_init 77 = .ok (.putfield 48, 3) := by decide +kernel
theorem dX1_init_80 : decode cX1_init 80 = .ok (.aload_n 0, 1) := by decide +kernel
theorem dX1_init_81 : decode cX1_init 81 = .ok (.iload 5, 2) := by decide +kernel
theorem dX1_init_83 : decode cX1_init 83 = .ok (.newarray .long, 2) := by decide +kernel
theorem dX1_init_85 : decode cX1_init 85 = .ok (.putfield 51, 3) := by decide +kernel
theorem dX1_init_88 : decode cX1_init 88 = .ok (.return_, 1) := by decide +kernel
theorem dX1_clear_0 : decode cX1_clear 0 = .ok (.aload_n 0, 1) := by decide +kernel
theorem dX1_clear_1 : decode cX1_clear 1 = .ok (.iconst 0, 1) := by decide +kernel
theorem dX1_clear_2 : decode cX1_clear 2 = .ok (.putfield 54, 3) := by decide +kernel
theorem dX1_clear_5 : decode cX1_clear 5 = .ok (.aload_n 0, 1) := by decide +kernel
theorem dX1_clear_6 : decode cX1_clear 6 = .ok (.iconst 0, 1) := by decide +kernel
theorem dX1_clear_7 : decode cX1_clear 7 = .ok (.putfield 58, 3) := by decide +kernel
theorem dX1_clear_10 : decode cX1_clear 10 = .ok (.aload_n 0, 1) := by decide +kernel
theorem dX1_clear_11 : decode cX1_clear 11 = .ok (.iconst 0, 1) := by decide +kernel
theorem dX1_clear_12 : decode cX1_clear 12 = .ok (.putfield 61, 3) := by decide +kernel
theorem dX1_clear_15 : decode cX1_clear 15 = .ok (.aload_n 0, 1) := by decide +kernel
theorem dX1_clear_16 : decode cX1_clear 16 = .ok (.iconst 0, 1) := by decide +kernel
theorem dX1_clear_17 : decode cX1_clear 17 = .ok (.putfield 64, 3) := by decide +kernel
theorem dX1_clear_20 : decode cX1_clear 20 = .ok (.return_, 1) := by decide +kernel
theorem dX1_begin_0 : decode cX1_begin 0 = .ok (.aload_n 0, 1) := by decide +kernel
theorem dX1_begin_1 : decode cX1_begin 1 = .ok (.iconst 1, 1) := by decide +kernel
theorem dX1_begin_2 : decode cX1_begin 2 = .ok (.putfield 54, 3) := by decide +kernel
theorem dX1_begin_5 : decode cX1_begin 5 = .ok (.return_, 1) := by decide +kernel
theorem dX1_hasBegun_0 : decode cX1_hasBegun 0 = .ok (.aload_n 0, 1) := by decide +kernel
theorem dX1_hasBegun_1 : decode cX1_hasBegun 1 = .ok (.getfield 54, 3) := by decide +kernel
theorem dX1_hasBegun_4 : decode cX1_hasBegun 4 = .ok (.ireturn, 1) := by decide +kernel
theorem dX1_hasBothPrimes_0 : decode cX1_hasBothPrimes 0 = .ok (.aload_n 0, 1) := by decide +kernel
theorem dX1_hasBothPrimes_1 : decode cX1_hasBothPrimes 1 = .ok (.getfield 58, 3) := by decide +kernel
theorem dX1_hasBothPrimes_4 : decode cX1_hasBothPrimes 4 = .ok (.iconst 2, 1) := by decide +kernel
theorem dX1_hasBothPrimes_5 : decode cX1_hasBothPrimes 5 = .ok (.if_icmp .ne 7, 3) := by decide +kernel
theorem dX1_hasBothPrimes_8 : decode cX1_hasBothPrimes 8 = .ok (.iconst 1, 1) := by decide +kernel
theorem dX1_hasBothPrimes_9 : decode cX1_hasBothPrimes 9 = .ok (.goto 4, 3) := by decide +kernel
theorem dX1_hasBothPrimes_12 : decode cX1_hasBothPrimes 12 = .ok (.iconst 0, 1) := by decide +kernel
theorem dX1_hasBothPrimes_13 : decode cX1_hasBothPrimes 13 = .ok (.ireturn, 1) := by decide +kernel
theorem dX1_firstPrime_0 : decode cX1_firstPrime 0 = .ok (.aload_n 0, 1) := by decide +kernel
theorem dX1_firstPrime_1 : decode cX1_firstPrime 1 = .ok (.getfield 48, 3) := by decide +kernel
theorem dX1_firstPrime_4 : decode cX1_firstPrime 4 = .ok (.areturn, 1) := by decide +kernel
theorem dX1_secondPrime_0 : decode cX1_secondPrime 0 = .ok (.aload_n 0, 1) := by decide +kernel
theorem dX1_secondPrime_1 : decode cX1_secondPrime 1 = .ok (.getfield 51, 3) := by decide +kernel
theorem dX1_secondPrime_4 : decode cX1_secondPrime 4 = .ok (.areturn, 1) := by decide +kernel
theorem dX1_examinedCount_0 : decode cX1_examinedCount 0 = .ok (.aload_n 0, 1) := by decide +kernel
theorem dX1_examinedCount_1 : decode cX1_examinedCount 1 = .ok (.getfield 61, 3) := by decide +kernel
theorem dX1_examinedCount_4 : decode cX1_examinedCount 4 = .ok (.ireturn, 1) := by decide +kernel
theorem dX1_undividedCount_0 : decode cX1_undividedCount 0 = .ok (.aload_n 0, 1) := by decide +kernel
theorem dX1_undividedCount_1 : decode cX1_undividedCount 1 = .ok (.getfield 64, 3) := by decide +kernel
theorem dX1_undividedCount_4 : decode cX1_undividedCount 4 = .ok (.ireturn, 1) := by decide +kernel
theorem dX1_examineNext_0 : decode cX1_examineNext 0 = .ok (.aload_n 0, 1) := by decide +kernel
theorem dX1_examineNext_1 : decode cX1_examineNext 1 = .ok (.invokevirtual 67, 3) := by decide +kernel
theorem dX1_examineNext_4 : decode cX1_examineNext 4 = .ok (.aload_n 0, 1) := by decide +kernel
theorem dX1_examineNext_5 : decode cX1_examineNext 5 = .ok (.dup, 1) := by decide +kernel
theorem dX1_examineNext_6 : decode cX1_examineNext 6 = .ok (.getfield 61, 3) := by decide +kernel
theorem dX1_examineNext_9 : decode cX1_examineNext 9 = .ok (.iconst 1, 1) := by decide +kernel
theorem dX1_examineNext_10 : decode cX1_examineNext 10 = .ok (.iadd, 1) := by decide +kernel
theorem dX1_examineNext_11 : decode cX1_examineNext 11 = .ok (.putfield 61, 3) := by decide +kernel
theorem dX1_examineNext_14 : decode cX1_examineNext 14 = .ok (.aload_n 0, 1) := by decide +kernel
theorem dX1_examineNext_15 : decode cX1_examineNext 15 = .ok (.invokevirtual 70, 3) := by decide +kernel
theorem dX1_examineNext_18 : decode cX1_examineNext 18 = .ok (.ifCond .eq 4, 3) := by decide +kernel
theorem dX1_examineNext_21 : decode cX1_examineNext 21 = .ok (.return_, 1) := by decide +kernel
theorem dX1_examineNext_22 : decode cX1_examineNext 22 = .ok (.aload_n 0, 1) := by decide +kernel
theorem dX1_examineNext_23 : decode cX1_examineNext 23 = .ok (.dup, 1) := by decide +kernel
theorem dX1_examineNext_24 : decode cX1_examineNext 24 = .ok (.getfield 64, 3) := by decide +kernel
theorem dX1_examineNext_27 : decode cX1_examineNext 27 = .ok (.iconst 1, 1) := by decide +kernel
theorem dX1_examineNext_28 : decode cX1_examineNext 28 = .ok (.iadd, 1) := by decide +kernel
theorem dX1_examineNext_29 : decode cX1_examineNext 29 = .ok (.putfield 64, 3) := by decide +kernel
theorem dX1_examineNext_32 : decode cX1_examineNext 32 = .ok (.aload_n 0, 1) := by decide +kernel
theorem dX1_examineNext_33 : decode cX1_examineNext 33 = .ok (.invokevirtual 74, 3) := by decide +kernel
theorem dX1_examineNext_36 : decode cX1_examineNext 36 = .ok (.ifCond .eq 38, 3) := by decide +kernel
theorem dX1_examineNext_39 : decode cX1_examineNext 39 = .ok (.aload_n 0, 1) := by decide +kernel
theorem dX1_examineNext_40 : decode cX1_examineNext 40 = .ok (.getfield 58, 3) := by decide +kernel
theorem dX1_examineNext_43 : decode cX1_examineNext 43 = .ok (.ifCond .ne 10, 3) := by decide +kernel
theorem dX1_examineNext_46 : decode cX1_examineNext 46 = .ok (.aload_n 0, 1) := by decide +kernel
theorem dX1_examineNext_47 : decode cX1_examineNext 47 = .ok (.getfield 48, 3) := by decide +kernel
theorem dX1_examineNext_50 : decode cX1_examineNext 50 = .ok (.goto 7, 3) := by decide +kernel
theorem dX1_examineNext_53 : decode cX1_examineNext 53 = .ok (.aload_n 0, 1) := by decide +kernel
theorem dX1_examineNext_54 : decode cX1_examineNext 54 = .ok (.getfield 51, 3) := by decide +kernel
theorem dX1_examineNext_57 : decode cX1_examineNext 57 = .ok (.aload_n 0, 1) := by decide +kernel
theorem dX1_examineNext_58 : decode cX1_examineNext 58 = .ok (.getfield 35, 3) := by decide +kernel
theorem dX1_examineNext_61 : decode cX1_examineNext 61 = .ok (.invokestatic 77, 3) := by decide +kernel
theorem dX1_examineNext_64 : decode cX1_examineNext 64 = .ok (.aload_n 0, 1) := by decide +kernel
theorem dX1_examineNext_65 : decode cX1_examineNext 65 = .ok (.dup, 1) := by decide +kernel
theorem dX1_examineNext_66 : decode cX1_examineNext 66 = .ok (.getfield 58, 3) := by decide +kernel
theorem dX1_examineNext_69 : decode cX1_examineNext 69 = .ok (.iconst 1, 1) := by decide +kernel
theorem dX1_examineNext_70 : decode cX1_examineNext 70 = .ok (.iadd, 1) := by decide +kernel
theorem dX1_examineNext_71 : decode cX1_examineNext 71 = .ok (.putfield 58, 3) := by decide +kernel
theorem dX1_examineNext_74 : decode cX1_examineNext 74 = .ok (.return_, 1) := by decide +kernel
theorem dX1_drawCandidate_0 : decode cX1_drawCandidate 0 = .ok (.aload_n 0, 1) := by decide +kernel
theorem dX1_drawCandidate_1 : decode cX1_drawCandidate 1 = .ok (.getfield 13, 3) := by decide +kernel
theorem dX1_drawCandidate_4 : decode cX1_drawCandidate 4 = .ok (.iconst 1, 1) := by decide +kernel
theorem dX1_drawCandidate_5 : decode cX1_drawCandidate 5 = .ok (.isub, 1) := by decide +kernel
theorem dX1_drawCandidate_6 : decode cX1_drawCandidate 6 = .ok (.istore_n 1, 1) := by decide +kernel
theorem dX1_drawCandidate_7 : decode cX1_drawCandidate 7 = .ok (.iload_n 1, 1) := by decide +kernel
theorem dX1_drawCandidate_8 : decode cX1_drawCandidate 8 = .ok (.ifCond .lt 52, 3) := by decide +kernel
theorem dX1_drawCandidate_11 : decode cX1_drawCandidate 11 = .ok (.aload_n 0, 1) := by decide +kernel
theorem dX1_drawCandidate_12 : decode cX1_drawCandidate 12 = .ok (.getfield 7, 3) := by decide +kernel
theorem dX1_drawCandidate_15 : decode cX1_drawCandidate 15 = .ok (.invokevirtual 83, 3) := by decide +kernel
theorem dX1_drawCandidate_18 : decode cX1_drawCandidate 18 = .ok (.istore_n 2, 1) := by decide +kernel
theorem dX1_drawCandidate_19 : decode cX1_drawCandidate 19 = .ok (.iload_n 1, 1) := by decide +kernel
theorem dX1_drawCandidate_20 : decode cX1_drawCandidate 20 = .ok (.aload_n 0, 1) := by decide +kernel
theorem dX1_drawCandidate_21 : decode cX1_drawCandidate 21 = .ok (.getfield 13, 3) := by decide +kernel
theorem dX1_drawCandidate_24 : decode cX1_drawCandidate 24 = .ok (.iconst 1, 1) := by decide +kernel
theorem dX1_drawCandidate_25 : decode cX1_drawCandidate 25 = .ok (.isub, 1) := by decide +kernel
theorem dX1_drawCandidate_26 : decode cX1_drawCandidate 26 = .ok (.if_icmp .ne 9, 3) := by decide +kernel
theorem dX1_drawCandidate_29 : decode cX1_drawCandidate 29 = .ok (.iload_n 2, 1) := by decide +kernel
theorem dX1_drawCandidate_30 : decode cX1_drawCandidate 30 = .ok (.sipush 192, 3) := by decide +kernel
theorem dX1_drawCandidate_33 : decode cX1_drawCandidate 33 = .ok (.ior, 1) := by decide +kernel
theorem dX1_drawCandidate_34 : decode cX1_drawCandidate 34 = .ok (.istore_n 2, 1) := by decide +kernel
theorem dX1_drawCandidate_35 : decode cX1_drawCandidate 35 = .ok (.aload_n 0, 1) := by decide +kernel
theorem dX1_drawCandidate_36 : decode cX1_drawCandidate 36 = .ok (.getfield 35, 3) := by decide +kernel
theorem dX1_drawCandidate_39 : decode cX1_drawCandidate 39 = .ok (.iload_n 1, 1) := by decide +kernel
theorem dX1_drawCandidate_40 : decode cX1_drawCandidate 40 = .ok (.iload_n 1, 1) := by decide +kernel
theorem dX1_drawCandidate_41 : decode cX1_drawCandidate 41 = .ok (.ifCond .ne 9, 3) := by decide +kernel
theorem dX1_drawCandidate_44 : decode cX1_drawCandidate 44 = .ok (.iload_n 2, 1) := by decide +kernel
theorem dX1_drawCandidate_45 : decode cX1_drawCandidate 45 = .ok (.iconst 1, 1) := by decide +kernel
theorem dX1_drawCandidate_46 : decode cX1_drawCandidate 46 = .ok (.ior, 1) := by decide +kernel
theorem dX1_drawCandidate_47 : decode cX1_drawCandidate 47 = .ok (.goto 4, 3) := by decide +kernel
theorem dX1_drawCandidate_50 : decode cX1_drawCandidate 50 = .ok (.iload_n 2, 1) := by decide +kernel
theorem dX1_drawCandidate_51 : decode cX1_drawCandidate 51 = .ok (.invokestatic 89, 3) := by decide +kernel
theorem dX1_drawCandidate_54 : decode cX1_drawCandidate 54 = .ok (.iinc 1 (-1), 3) := by decide +kernel
theorem dX1_drawCandidate_57 : decode cX1_drawCandidate 57 = .ok (.goto (-50), 3) := by decide +kernel
theorem dX1_drawCandidate_60 : decode cX1_drawCandidate 60 = .ok (.return_, 1) := by decide +kernel
theorem dX1_hasSmallDivisor_0 : decode cX1_hasSmallDivisor 0 = .ok (.getstatic 93, 3) := by decide +kernel
theorem dX1_hasSmallDivisor_3 : decode cX1_hasSmallDivisor 3 = .ok (.astore_n 1, 1) := by decide +kernel
theorem dX1_hasSmallDivisor_4 : decode cX1_hasSmallDivisor 4 = .ok (.aload_n 1, 1) := by decide +kernel
theorem dX1_hasSmallDivisor_5 : decode cX1_hasSmallDivisor 5 = .ok (.arraylength, 1) := by decide +kernel
theorem dX1_hasSmallDivisor_6 : decode cX1_hasSmallDivisor 6 = .ok (.istore_n 2, 1) := by decide +kernel
theorem dX1_hasSmallDivisor_7 : decode cX1_hasSmallDivisor 7 = .ok (.iconst 0, 1) := by decide +kernel
theorem dX1_hasSmallDivisor_8 : decode cX1_hasSmallDivisor 8 = .ok (.istore_n 3, 1) := by decide +kernel
theorem dX1_hasSmallDivisor_9 : decode cX1_hasSmallDivisor 9 = .ok (.iload_n 3, 1) := by decide +kernel
theorem dX1_hasSmallDivisor_10 : decode cX1_hasSmallDivisor 10 = .ok (.iload_n 2, 1) := by decide +kernel
theorem dX1_hasSmallDivisor_11 : decode cX1_hasSmallDivisor 11 = .ok (.if_icmp .ge 30, 3) := by decide +kernel
theorem dX1_hasSmallDivisor_14 : decode cX1_hasSmallDivisor 14 = .ok (.aload_n 1, 1) := by decide +kernel
theorem dX1_hasSmallDivisor_15 : decode cX1_hasSmallDivisor 15 = .ok (.iload_n 3, 1) := by decide +kernel
theorem dX1_hasSmallDivisor_16 : decode cX1_hasSmallDivisor 16 = .ok (.iaload, 1) := by decide +kernel
theorem dX1_hasSmallDivisor_17 : decode cX1_hasSmallDivisor 17 = .ok (.istore 4, 2) := by decide +kernel
theorem dX1_hasSmallDivisor_19 : decode cX1_hasSmallDivisor 19 = .ok (.aload_n 0, 1) := by decide +kernel
theorem dX1_hasSmallDivisor_20 : decode cX1_hasSmallDivisor 20 = .ok (.getfield 35, 3) := by decide +kernel
theorem dX1_hasSmallDivisor_23 : decode cX1_hasSmallDivisor 23 = .ok (.iload 4, 2) := by decide +kernel
theorem dX1_hasSmallDivisor_25 : decode cX1_hasSmallDivisor 25 = .ok (.invokestatic 97, 3) := by decide +kernel
theorem dX1_hasSmallDivisor_28 : decode cX1_hasSmallDivisor 28 = .ok (.lconst 0, 1) := by decide +kernel
theorem dX1_hasSmallDivisor_29 : decode cX1_hasSmallDivisor 29 = .ok (.lcmp, 1) := by decide +kernel
theorem dX1_hasSmallDivisor_30 : decode cX1_hasSmallDivisor 30 = .ok (.ifCond .ne 5, 3) := by decide +kernel
theorem dX1_hasSmallDivisor_33 : decode cX1_hasSmallDivisor 33 = .ok (.iconst 1, 1) := by decide +kernel
theorem dX1_hasSmallDivisor_34 : decode cX1_hasSmallDivisor 34 = .ok (.ireturn, 1) := by decide +kernel
theorem dX1_hasSmallDivisor_35 : decode cX1_hasSmallDivisor 35 = .ok (.iinc 3 1, 3) := by decide +kernel
theorem dX1_hasSmallDivisor_38 : decode cX1_hasSmallDivisor 38 = .ok (.goto (-29), 3) := by decide +kernel
theorem dX1_hasSmallDivisor_41 : decode cX1_hasSmallDivisor 41 = .ok (.iconst 0, 1) := by decide +kernel
theorem dX1_hasSmallDivisor_42 : decode cX1_hasSmallDivisor 42 = .ok (.ireturn, 1) := by decide +kernel
theorem dX1_isGood_0 : decode cX1_isGood 0 = .ok (.aload_n 0, 1) := by decide +kernel
theorem dX1_isGood_1 : decode cX1_isGood 1 = .ok (.getfield 35, 3) := by decide +kernel
theorem dX1_isGood_4 : decode cX1_isGood 4 = .ok (.ldc 103, 2) := by decide +kernel
theorem dX1_isGood_6 : decode cX1_isGood 6 = .ok (.invokestatic 97, 3) := by decide +kernel
theorem dX1_isGood_9 : decode cX1_isGood 9 = .ok (.lconst 1, 1) := by decide +kernel
theorem dX1_isGood_10 : decode cX1_isGood 10 = .ok (.lcmp, 1) := by decide +kernel
theorem dX1_isGood_11 : decode cX1_isGood 11 = .ok (.ifCond .ne 5, 3) := by decide +kernel
theorem dX1_isGood_14 : decode cX1_isGood 14 = .ok (.iconst 0, 1) := by decide +kernel
theorem dX1_isGood_15 : decode cX1_isGood 15 = .ok (.ireturn, 1) := by decide +kernel
theorem dX1_isGood_16 : decode cX1_isGood 16 = .ok (.aload_n 0, 1) := by decide +kernel
theorem dX1_isGood_17 : decode cX1_isGood 17 = .ok (.getfield 58, 3) := by decide +kernel
theorem dX1_isGood_20 : decode cX1_isGood 20 = .ok (.ifCond .le 19, 3) := by decide +kernel
theorem dX1_isGood_23 : decode cX1_isGood 23 = .ok (.aload_n 0, 1) := by decide +kernel
theorem dX1_isGood_24 : decode cX1_isGood 24 = .ok (.getfield 35, 3) := by decide +kernel
theorem dX1_isGood_27 : decode cX1_isGood 27 = .ok (.aload_n 0, 1) := by decide +kernel
theorem dX1_isGood_28 : decode cX1_isGood 28 = .ok (.getfield 48, 3) := by decide +kernel
theorem dX1_isGood_31 : decode cX1_isGood 31 = .ok (.invokestatic 104, 3) := by decide +kernel
theorem dX1_isGood_34 : decode cX1_isGood 34 = .ok (.ifCond .ne 5, 3) := by decide +kernel
theorem dX1_isGood_37 : decode cX1_isGood 37 = .ok (.iconst 0, 1) := by decide +kernel
theorem dX1_isGood_38 : decode cX1_isGood 38 = .ok (.ireturn, 1) := by decide +kernel
theorem dX1_isGood_39 : decode cX1_isGood 39 = .ok (.aload_n 0, 1) := by decide +kernel
theorem dX1_isGood_40 : decode cX1_isGood 40 = .ok (.getfield 39, 3) := by decide +kernel
theorem dX1_isGood_43 : decode cX1_isGood 43 = .ok (.aload_n 0, 1) := by decide +kernel
theorem dX1_isGood_44 : decode cX1_isGood 44 = .ok (.getfield 35, 3) := by decide +kernel
theorem dX1_isGood_47 : decode cX1_isGood 47 = .ok (.invokestatic 77, 3) := by decide +kernel
theorem dX1_isGood_50 : decode cX1_isGood 50 = .ok (.aload_n 0, 1) := by decide +kernel
theorem dX1_isGood_51 : decode cX1_isGood 51 = .ok (.getfield 39, 3) := by decide +kernel
theorem dX1_isGood_54 : decode cX1_isGood 54 = .ok (.lconst 1, 1) := by decide +kernel
theorem dX1_isGood_55 : decode cX1_isGood 55 = .ok (.invokestatic 108, 3) := by decide +kernel
theorem dX1_isGood_58 : decode cX1_isGood 58 = .ok (.aload_n 0, 1) := by decide +kernel
theorem dX1_isGood_59 : decode cX1_isGood 59 = .ok (.getfield 42, 3) := by decide +kernel
theorem dX1_isGood_62 : decode cX1_isGood 62 = .ok (.aload_n 0, 1) := by decide +kernel
theorem dX1_isGood_63 : decode cX1_isGood 63 = .ok (.getfield 39, 3) := by decide +kernel
theorem dX1_isGood_66 : decode cX1_isGood 66 = .ok (.invokestatic 77, 3) := by decide +kernel
theorem dX1_isGood_69 : decode cX1_isGood 69 = .ok (.aload_n 0, 1) := by decide +kernel
theorem dX1_isGood_70 : decode cX1_isGood 70 = .ok (.getfield 42, 3) := by decide +kernel
theorem dX1_isGood_73 : decode cX1_isGood 73 = .ok (.invokestatic 112, 3) := by decide +kernel
theorem dX1_isGood_76 : decode cX1_isGood 76 = .ok (.istore_n 1, 1) := by decide +kernel
theorem dX1_isGood_77 : decode cX1_isGood 77 = .ok (.aload_n 0, 1) := by decide +kernel
theorem dX1_isGood_78 : decode cX1_isGood 78 = .ok (.getfield 31, 3) := by decide +kernel
theorem dX1_isGood_81 : decode cX1_isGood 81 = .ok (.aload_n 0, 1) := by decide +kernel
theorem dX1_isGood_82 : decode cX1_isGood 82 = .ok (.getfield 35, 3) := by decide +kernel
theorem dX1_isGood_85 : decode cX1_isGood 85 = .ok (.invokevirtual 116, 3) := by decide +kernel
theorem dX1_isGood_88 : decode cX1_isGood 88 = .ok (.iconst 0, 1) := by decide +kernel
theorem dX1_isGood_89 : decode cX1_isGood 89 = .ok (.istore_n 2, 1) := by decide +kernel
theorem dX1_isGood_90 : decode cX1_isGood 90 = .ok (.iload_n 2, 1) := by decide +kernel
theorem dX1_isGood_91 : decode cX1_isGood 91 = .ok (.aload_n 0, 1) := by decide +kernel
theorem dX1_isGood_92 : decode cX1_isGood 92 = .ok (.getfield 17, 3) := by decide +kernel
theorem dX1_isGood_95 : decode cX1_isGood 95 = .ok (.if_icmp .ge 32, 3) := by decide +kernel
theorem dX1_isGood_98 : decode cX1_isGood 98 = .ok (.iload_n 2, 1) := by decide +kernel
theorem dX1_isGood_99 : decode cX1_isGood 99 = .ok (.getstatic 120, 3) := by decide +kernel
theorem dX1_isGood_102 : decode cX1_isGood 102 = .ok (.arraylength, 1) := by decide +kernel
theorem dX1_isGood_103 : decode cX1_isGood 103 = .ok (.if_icmp .ge 24, 3) := by decide +kernel
theorem dX1_isGood_106 : decode cX1_isGood 106 = .ok (.aload_n 0, 1) := by decide +kernel
theorem dX1_isGood_107 : decode cX1_isGood 107 = .ok (.getstatic 120, 3) := by decide +kernel
theorem dX1_isGood_110 : decode cX1_isGood 110 = .ok (.iload_n 2, 1) := by decide +kernel
theorem dX1_isGood_111 : decode cX1_isGood 111 = .ok (.iaload, 1) := by decide +kernel
theorem dX1_isGood_112 : decode cX1_isGood 112 = .ok (.iload_n 1, 1) := by decide +kernel
theorem dX1_isGood_113 : decode cX1_isGood 113 = .ok (.invokevirtual 123, 3) := by decide +kernel
theorem dX1_isGood_116 : decode cX1_isGood 116 = .ok (.ifCond .ne 5, 3) := by decide +kernel
theorem dX1_isGood_119 : decode cX1_isGood 119 = .ok (.iconst 0, 1) := by decide +kernel
theorem dX1_isGood_120 : decode cX1_isGood 120 = .ok (.ireturn, 1) := by decide +kernel
theorem dX1_isGood_121 : decode cX1_isGood 121 = .ok (.iinc 2 1, 3) := by decide +kernel
theorem dX1_isGood_124 : decode cX1_isGood 124 = .ok (.goto (-34), 3) := by decide +kernel
theorem dX1_isGood_127 : decode cX1_isGood 127 = .ok (.iconst 1, 1) := by decide +kernel
theorem dX1_isGood_128 : decode cX1_isGood 128 = .ok (.ireturn, 1) := by decide +kernel
theorem dX1_passes_0 : decode cX1_passes 0 = .ok (.aload_n 0, 1) := by decide +kernel
theorem dX1_passes_1 : decode cX1_passes 1 = .ok (.getfield 45, 3) := by decide +kernel
theorem dX1_passes_4 : decode cX1_passes 4 = .ok (.iload_n 1, 1) := by decide +kernel
theorem dX1_passes_5 : decode cX1_passes 5 = .ok (.i2l, 1) := by decide +kernel
theorem dX1_passes_6 : decode cX1_passes 6 = .ok (.invokestatic 127, 3) := by decide +kernel
theorem dX1_passes_9 : decode cX1_passes 9 = .ok (.aload_n 0, 1) := by decide +kernel
theorem dX1_passes_10 : decode cX1_passes 10 = .ok (.getfield 31, 3) := by decide +kernel
theorem dX1_passes_13 : decode cX1_passes 13 = .ok (.aload_n 0, 1) := by decide +kernel
theorem dX1_passes_14 : decode cX1_passes 14 = .ok (.getfield 45, 3) := by decide +kernel
theorem dX1_passes_17 : decode cX1_passes 17 = .ok (.aload_n 0, 1) := by decide +kernel
theorem dX1_passes_18 : decode cX1_passes 18 = .ok (.getfield 45, 3) := by decide +kernel
theorem dX1_passes_21 : decode cX1_passes 21 = .ok (.aload_n 0, 1) := by decide +kernel
theorem dX1_passes_22 : decode cX1_passes 22 = .ok (.getfield 42, 3) := by decide +kernel
theorem dX1_passes_25 : decode cX1_passes 25 = .ok (.invokevirtual 130, 3) := by decide +kernel
theorem dX1_passes_28 : decode cX1_passes 28 = .ok (.aload_n 0, 1) := by decide +kernel
theorem dX1_passes_29 : decode cX1_passes 29 = .ok (.getfield 45, 3) := by decide +kernel
theorem dX1_passes_32 : decode cX1_passes 32 = .ok (.invokestatic 134, 3) := by decide +kernel
theorem dX1_passes_35 : decode cX1_passes 35 = .ok (.ifCond .ne 17, 3) := by decide +kernel
theorem dX1_passes_38 : decode cX1_passes 38 = .ok (.aload_n 0, 1) := by decide +kernel
theorem dX1_passes_39 : decode cX1_passes 39 = .ok (.getfield 45, 3) := by decide +kernel
theorem dX1_passes_42 : decode cX1_passes 42 = .ok (.aload_n 0, 1) := by decide +kernel
theorem dX1_passes_43 : decode cX1_passes 43 = .ok (.getfield 39, 3) := by decide +kernel
theorem dX1_passes_46 : decode cX1_passes 46 = .ok (.invokestatic 104, 3) := by decide +kernel
theorem dX1_passes_49 : decode cX1_passes 49 = .ok (.ifCond .ne 5, 3) := by decide +kernel
theorem dX1_passes_52 : decode cX1_passes 52 = .ok (.iconst 1, 1) := by decide +kernel
theorem dX1_passes_53 : decode cX1_passes 53 = .ok (.ireturn, 1) := by decide +kernel
theorem dX1_passes_54 : decode cX1_passes 54 = .ok (.iconst 1, 1) := by decide +kernel
theorem dX1_passes_55 : decode cX1_passes 55 = .ok (.istore_n 3, 1) := by decide +kernel
theorem dX1_passes_56 : decode cX1_passes 56 = .ok (.iload_n 3, 1) := by decide +kernel
theorem dX1_passes_57 : decode cX1_passes 57 = .ok (.iload_n 2, 1) := by decide +kernel
theorem dX1_passes_58 : decode cX1_passes 58 = .ok (.if_icmp .ge 44, 3) := by decide +kernel
theorem dX1_passes_61 : decode cX1_passes 61 = .ok (.aload_n 0, 1) := by decide +kernel
theorem dX1_passes_62 : decode cX1_passes 62 = .ok (.getfield 31, 3) := by decide +kernel
theorem dX1_passes_65 : decode cX1_passes 65 = .ok (.aload_n 0, 1) := by decide +kernel
theorem dX1_passes_66 : decode cX1_passes 66 = .ok (.getfield 45, 3) := by decide +kernel
theorem dX1_passes_69 : decode cX1_passes 69 = .ok (.aload_n 0, 1) := by decide +kernel
theorem dX1_passes_70 : decode cX1_passes 70 = .ok (.getfield 45, 3) := by decide +kernel
theorem dX1_passes_73 : decode cX1_passes 73 = .ok (.aload_n 0, 1) := by decide +kernel
theorem dX1_passes_74 : decode cX1_passes 74 = .ok (.getfield 45, 3) := by decide +kernel
theorem dX1_passes_77 : decode cX1_passes 77 = .ok (.invokevirtual 138, 3) := by decide +kernel
theorem dX1_passes_80 : decode cX1_passes 80 = .ok (.aload_n 0, 1) := by decide +kernel
theorem dX1_passes_81 : decode cX1_passes 81 = .ok (.getfield 45, 3) := by decide +kernel
theorem dX1_passes_84 : decode cX1_passes 84 = .ok (.aload_n 0, 1) := by decide +kernel
theorem dX1_passes_85 : decode cX1_passes 85 = .ok (.getfield 39, 3) := by decide +kernel
theorem dX1_passes_88 : decode cX1_passes 88 = .ok (.invokestatic 104, 3) := by decide +kernel
theorem dX1_passes_91 : decode cX1_passes 91 = .ok (.ifCond .ne 5, 3) := by decide +kernel
theorem dX1_passes_94 : decode cX1_passes 94 = .ok (.iconst 1, 1) := by decide +kernel
theorem dX1_passes_95 : decode cX1_passes 95 = .ok (.ireturn, 1) := by decide +kernel
theorem dX1_passes_96 : decode cX1_passes 96 = .ok (.iinc 3 1, 3) := by decide +kernel
theorem dX1_passes_99 : decode cX1_passes 99 = .ok (.goto (-43), 3) := by decide +kernel
theorem dX1_passes_102 : decode cX1_passes 102 = .ok (.iconst 0, 1) := by decide +kernel
theorem dX1_passes_103 : decode cX1_passes 103 = .ok (.ireturn, 1) := by decide +kernel
theorem dX2_init_0 : decode cX2_init 0 = .ok (.aload_n 0, 1) := by decide +kernel
theorem dX2_init_1 : decode cX2_init 1 = .ok (.invokespecial 1, 3) := by decide +kernel
theorem dX2_init_4 : decode cX2_init 4 = .ok (.iconst 1, 1) := by decide +kernel
theorem dX2_init_5 : decode cX2_init 5 = .ok (.iload_n 1, 1) := by decide +kernel
theorem dX2_init_6 : decode cX2_init 6 = .ok (.invokestatic 7, 3) := by decide +kernel
theorem dX2_init_9 : decode cX2_init 9 = .ok (.istore_n 2, 1) := by decide +kernel
theorem dX2_init_10 : decode cX2_init 10 = .ok (.aload_n 0, 1) := by decide +kernel
theorem dX2_init_11 : decode cX2_init 11 = .ok (.new 13, 3) := by decide +kernel
theorem dX2_init_14 : decode cX2_init 14 = .ok (.dup, 1) := by decide +kernel
theorem dX2_init_15 : decode cX2_init 15 = .ok (.iconst 2, 1) := by decide +kernel
theorem dX2_init_16 : decode cX2_init 16 = .ok (.iload_n 2, 1) := by decide +kernel
theorem dX2_init_17 : decode cX2_init 17 = .ok (.imul, 1) := by decide +kernel
theorem dX2_init_18 : decode cX2_init 18 = .ok (.invokespecial 15, 3) := by decide +kernel
theorem dX2_init_21 : decode cX2_init 21 = .ok (.putfield 18, 3) := by decide +kernel
theorem dX2_init_24 : decode cX2_init 24 = .ok (.aload_n 0, 1) := by decide +kernel
theorem dX2_init_25 : decode cX2_init 25 = .ok (.new 13, 3) := by decide +kernel
theorem dX2_init_28 : decode cX2_init 28 = .ok (.dup, 1) := by decide +kernel
theorem dX2_init_29 : decode cX2_init 29 = .ok (.iload_n 2, 1) := by decide +kernel
theorem dX2_init_30 : decode cX2_init 30 = .ok (.invokespecial 15, 3) := by decide +kernel
theorem dX2_init_33 : decode cX2_init 33 = .ok (.putfield 24, 3) := by decide +kernel
theorem dX2_init_36 : decode cX2_init 36 = .ok (.aload_n 0, 1) := by decide +kernel
theorem dX2_init_37 : decode cX2_init 37 = .ok (.new 13, 3) := by decide +kernel
theorem dX2_init_40 : decode cX2_init 40 = .ok (.dup, 1) := by decide +kernel
theorem dX2_init_41 : decode cX2_init 41 = .ok (.iload_n 2, 1) := by decide +kernel
theorem dX2_init_42 : decode cX2_init 42 = .ok (.invokespecial 15, 3) := by decide +kernel
theorem dX2_init_45 : decode cX2_init 45 = .ok (.putfield 27, 3) := by decide +kernel
theorem dX2_init_48 : decode cX2_init 48 = .ok (.aload_n 0, 1) := by decide +kernel
theorem dX2_init_49 : decode cX2_init 49 = .ok (.iconst 2, 1) := by decide +kernel
theorem dX2_init_50 : decode cX2_init 50 = .ok (.iload_n 2, 1) := by decide +kernel
theorem dX2_init_51 : decode cX2_init 51 = .ok (.imul, 1) := by decide +kernel
theorem dX2_init_52 : decode cX2_init 52 = .ok (.newarray .long, 2) := by decide +kernel
theorem dX2_init_54 : decode cX2_init 54 = .ok (.putfield 30, 3) := by decide +kernel
theorem dX2_init_57 : decode cX2_init 57 = .ok (.aload_n 0, 1) := by decide +kernel
theorem dX2_init_58 : decode cX2_init 58 = .ok (.iconst 2, 1) := by decide +kernel
theorem dX2_init_59 : decode cX2_init 59 = .ok (.iload_n 2, 1) := by decide +kernel
theorem dX2_init_60 : decode cX2_init 60 = .ok (.imul, 1) := by decide +kernel
theorem dX2_init_61 : decode cX2_init 61 = .ok (.newarray .long, 2) := by decide +kernel
theorem dX2_init_63 : decode cX2_init 63 = .ok (.putfield 34, 3) := by decide +kernel
theorem dX2_init_66 : decode cX2_init 66 = .ok (.aload_n 0, 1) := by decide +kernel
theorem dX2_init_67 : decode cX2_init 67 = .ok (.iload_n 2, 1) := by decide +kernel
theorem dX2_init_68 : decode cX2_init 68 = .ok (.newarray .long, 2) := by decide +kernel
theorem dX2_init_70 : decode cX2_init 70 = .ok (.putfield 37, 3) := by decide +kernel
theorem dX2_init_73 : decode cX2_init 73 = .ok (.aload_n 0, 1) := by decide +kernel
theorem dX2_init_74 : decode cX2_init 74 = .ok (.iload_n 2, 1) := by decide +kernel
theorem dX2_init_75 : decode cX2_init 75 = .ok (.newarray .long, 2) := by decide +kernel
theorem dX2_init_77 : decode cX2_init 77 = .ok (.putfield 40, 3) := by decide +kernel
theorem dX2_init_80 : decode cX2_init 80 = .ok (.aload_n 0, 1) := by decide +kernel
theorem dX2_init_81 : decode cX2_init 81 = .ok (.iload_n 2, 1) := by decide +kernel
theorem dX2_init_82 : decode cX2_init 82 = .ok (.newarray .long, 2) := by decide +kernel
theorem dX2_init_84 : decode cX2_init 84 = .ok (.putfield 43, 3) := by decide +kernel
theorem dX2_init_87 : decode cX2_init 87 = .ok (.aload_n 0, 1) := by decide +kernel
theorem dX2_init_88 : decode cX2_init 88 = .ok (.iload_n 2, 1) := by decide +kernel
theorem dX2_init_89 : decode cX2_init 89 = .ok (.newarray .long, 2) := by decide +kernel
theorem dX2_init_91 : decode cX2_init 91 = .ok (.putfield 46, 3) := by decide +kernel
theorem dX2_init_94 : decode cX2_init 94 = .ok (.aload_n 0, 1) := by decide +kernel
theorem dX2_init_95 : decode cX2_init 95 = .ok (.iload_n 2, 1) := by decide +kernel
theorem dX2_init_96 : decode cX2_init 96 = .ok (.newarray .long, 2) := by decide +kernel
theorem dX2_init_98 : decode cX2_init 98 = .ok (.putfield 49, 3) := by decide +kernel
theorem dX2_init_101 : decode cX2_init 101 = .ok (.aload_n 0, 1) := by decide +kernel
theorem dX2_init_102 : decode cX2_init 102 = .ok (.iload_n 2, 1) := by decide +kernel
theorem dX2_init_103 : decode cX2_init 103 = .ok (.newarray .long, 2) := by decide +kernel
theorem dX2_init_105 : decode cX2_init 105 = .ok (.putfield 52, 3) := by decide +kernel
theorem dX2_init_108 : decode cX2_init 108 = .ok (.aload_n 0, 1) := by decide +kernel
theorem dX2_init_109 : decode cX2_init 109 = .ok (.iload_n 2, 1) := by decide +kernel
theorem dX2_init_110 : decode cX2_init 110 = .ok (.newarray .long, 2) := by decide +kernel
theorem dX2_init_112 : decode cX2_init 112 = .ok (.putfield 55, 3) := by decide +kernel
theorem dX2_init_115 : decode cX2_init 115 = .ok (.aload_n 0, 1) := by decide +kernel
theorem dX2_init_116 : decode cX2_init 116 = .ok (.iconst 2, 1) := by decide +kernel
theorem dX2_init_117 : decode cX2_init 117 = .ok (.iload_n 2, 1) := by decide +kernel
theorem dX2_init_118 : decode cX2_init 118 = .ok (.imul, 1) := by decide +kernel
theorem dX2_init_119 : decode cX2_init 119 = .ok (.newarray .long, 2) := by decide +kernel
theorem dX2_init_121 : decode cX2_init 121 = .ok (.putfield 58, 3) := by decide +kernel
theorem dX2_init_124 : decode cX2_init 124 = .ok (.aload_n 0, 1) := by decide +kernel
theorem dX2_init_125 : decode cX2_init 125 = .ok (.iconst 2, 1) := by decide +kernel
theorem dX2_init_126 : decode cX2_init 126 = .ok (.iload_n 2, 1) := by decide +kernel
theorem dX2_init_127 : decode cX2_init 127 = .ok (.imul, 1) := by decide +kernel
theorem dX2_init_128 : decode cX2_init 128 = .ok (.iconst 1, 1) := by decide +kernel
theorem dX2_init_129 : decode cX2_init 129 = .ok (.iadd, 1) := by decide +kernel
theorem dX2_init_130 : decode cX2_init 130 = .ok (.newarray .long, 2) := by decide +kernel
theorem dX2_init_132 : decode cX2_init 132 = .ok (.putfield 61, 3) := by decide +kernel
theorem dX2_init_135 : decode cX2_init 135 = .ok (.aload_n 0, 1) := by decide +kernel
theorem dX2_init_136 : decode cX2_init 136 = .ok (.iload_n 2, 1) := by decide +kernel
theorem dX2_init_137 : decode cX2_init 137 = .ok (.newarray .long, 2) := by decide +kernel
theorem dX2_init_139 : decode cX2_init 139 = .ok (.putfield 64, 3) := by decide +kernel
theorem dX2_init_142 : decode cX2_init 142 = .ok (.aload_n 0, 1) := by decide +kernel
theorem dX2_init_143 : decode cX2_init 143 = .ok (.iload_n 2, 1) := by decide +kernel
theorem dX2_init_144 : decode cX2_init 144 = .ok (.newarray .long, 2) := by decide +kernel
theorem dX2_init_146 : decode cX2_init 146 = .ok (.putfield 67, 3) := by decide +kernel
theorem dX2_init_149 : decode cX2_init 149 = .ok (.return_, 1) := by decide +kernel
theorem dX2_clear_0 : decode cX2_clear 0 = .ok (.aload_n 0, 1) := by decide +kernel
theorem dX2_clear_1 : decode cX2_clear 1 = .ok (.iconst 0, 1) := by decide +kernel
theorem dX2_clear_2 : decode cX2_clear 2 = .ok (.putfield 70, 3) := by decide +kernel
theorem dX2_clear_5 : decode cX2_clear 5 = .ok (.return_, 1) := by decide +kernel
theorem dX2_stand_0 : decode cX2_stand 0 = .ok (.aload_n 0, 1) := by decide +kernel
theorem dX2_stand_1 : decode cX2_stand 1 = .ok (.getfield 70, 3) := by decide +kernel
theorem dX2_stand_4 : decode cX2_stand 4 = .ok (.ireturn, 1) := by decide +kernel
theorem dX2_part_0 : decode cX2_part 0 = .ok (.iload_n 1, 1) := by decide +kernel
theorem dX2_part_1 : decode cX2_part 1 = .ok (.tableswitch 69 0 5 #[39, 44, 49, 54, 59, 64], 39) := by decide +kernel
theorem dX2_part_40 : decode cX2_part 40 = .ok (.aload_n 0, 1) := by decide +kernel
theorem dX2_part_41 : decode cX2_part 41 = .ok (.getfield 30, 3) := by decide +kernel
theorem dX2_part_44 : decode cX2_part 44 = .ok (.areturn, 1) := by decide +kernel
theorem dX2_part_45 : decode cX2_part 45 = .ok (.aload_n 0, 1) := by decide +kernel
theorem dX2_part_46 : decode cX2_part 46 = .ok (.getfield 34, 3) := by decide +kernel
theorem dX2_part_49 : decode cX2_part 49 = .ok (.areturn, 1) := by decide +kernel
theorem dX2_part_50 : decode cX2_part 50 = .ok (.aload_n 0, 1) := by decide +kernel
theorem dX2_part_51 : decode cX2_part 51 = .ok (.getfield 37, 3) := by decide +kernel
theorem dX2_part_54 : decode cX2_part 54 = .ok (.areturn, 1) := by decide +kernel
theorem dX2_part_55 : decode cX2_part 55 = .ok (.aload_n 0, 1) := by decide +kernel
theorem dX2_part_56 : decode cX2_part 56 = .ok (.getfield 40, 3) := by decide +kernel
theorem dX2_part_59 : decode cX2_part 59 = .ok (.areturn, 1) := by decide +kernel
theorem dX2_part_60 : decode cX2_part 60 = .ok (.aload_n 0, 1) := by decide +kernel
theorem dX2_part_61 : decode cX2_part 61 = .ok (.getfield 43, 3) := by decide +kernel
theorem dX2_part_64 : decode cX2_part 64 = .ok (.areturn, 1) := by decide +kernel
theorem dX2_part_65 : decode cX2_part 65 = .ok (.aload_n 0, 1) := by decide +kernel
theorem dX2_part_66 : decode cX2_part 66 = .ok (.getfield 46, 3) := by decide +kernel
theorem dX2_part_69 : decode cX2_part 69 = .ok (.areturn, 1) := by decide +kernel
theorem dX2_part_70 : decode cX2_part 70 = .ok (.aload_n 0, 1) := by decide +kernel
theorem dX2_part_71 : decode cX2_part 71 = .ok (.getfield 49, 3) := by decide +kernel
theorem dX2_part_74 : decode cX2_part 74 = .ok (.areturn, 1) := by decide +kernel
theorem dX2_make_0 : decode cX2_make 0 = .ok (.aload_n 1, 1) := by decide +kernel
theorem dX2_make_1 : decode cX2_make 1 = .ok (.aload_n 2, 1) := by decide +kernel
theorem dX2_make_2 : decode cX2_make 2 = .ok (.invokestatic 74, 3) := by decide +kernel
theorem dX2_make_5 : decode cX2_make 5 = .ok (.ifCond .lt 7, 3) := by decide +kernel
theorem dX2_make_8 : decode cX2_make 8 = .ok (.iconst 1, 1) := by decide +kernel
theorem dX2_make_9 : decode cX2_make 9 = .ok (.goto 4, 3) := by decide +kernel
theorem dX2_make_12 : decode cX2_make 12 = .ok (.iconst 0, 1) := by decide +kernel
theorem dX2_make_13 : decode cX2_make 13 = .ok (.istore_n 3, 1) := by decide +kernel
theorem dX2_make_14 : decode cX2_make 14 = .ok (.aload_n 0, 1) := by decide +kernel
theorem dX2_make_15 : decode cX2_make 15 = .ok (.getfield 37, 3) := by decide +kernel
theorem dX2_make_18 : decode cX2_make 18 = .ok (.iload_n 3, 1) := by decide +kernel
theorem dX2_make_19 : decode cX2_make 19 = .ok (.ifCond .eq 7, 3) := by decide +kernel
theorem dX2_make_22 : decode cX2_make 22 = .ok (.aload_n 1, 1) := by decide +kernel
theorem dX2_make_23 : decode cX2_make 23 = .ok (.goto 4, 3) := by decide +kernel
theorem dX2_make_26 : decode cX2_make 26 = .ok (.aload_n 2, 1) := by decide +kernel
theorem dX2_make_27 : decode cX2_make 27 = .ok (.invokestatic 80, 3) := by decide +kernel
theorem dX2_make_30 : decode cX2_make 30 = .ok (.aload_n 0, 1) := by decide +kernel
theorem dX2_make_31 : decode cX2_make 31 = .ok (.getfield 40, 3) := by decide +kernel
theorem dX2_make_34 : decode cX2_make 34 = .ok (.iload_n 3, 1) := by decide +kernel
theorem dX2_make_35 : decode cX2_make 35 = .ok (.ifCond .eq 7, 3) := by decide +kernel
theorem dX2_make_38 : decode cX2_make 38 = .ok (.aload_n 2, 1) := by decide +kernel
theorem dX2_make_39 : decode cX2_make 39 = .ok (.goto 4, 3) := by decide +kernel
theorem dX2_make_42 : decode cX2_make 42 = .ok (.aload_n 1, 1) := by decide +kernel
theorem dX2_make_43 : decode cX2_make 43 = .ok (.invokestatic 80, 3) := by decide +kernel
theorem dX2_make_46 : decode cX2_make 46 = .ok (.aload_n 0, 1) := by decide +kernel
theorem dX2_make_47 : decode cX2_make 47 = .ok (.getfield 30, 3) := by decide +kernel
theorem dX2_make_50 : decode cX2_make 50 = .ok (.aload_n 0, 1) := by decide +kernel
theorem dX2_make_51 : decode cX2_make 51 = .ok (.getfield 37, 3) := by decide +kernel
theorem dX2_make_54 : decode cX2_make 54 = .ok (.aload_n 0, 1) := by decide +kernel
theorem dX2_make_55 : decode cX2_make 55 = .ok (.getfield 40, 3) := by decide +kernel
theorem dX2_make_58 : decode cX2_make 58 = .ok (.invokestatic 84, 3) := by decide +kernel
theorem dX2_make_61 : decode cX2_make 61 = .ok (.aload_n 0, 1) := by decide +kernel
theorem dX2_make_62 : decode cX2_make 62 = .ok (.getfield 18, 3) := by decide +kernel
theorem dX2_make_65 : decode cX2_make 65 = .ok (.aload_n 0, 1) := by decide +kernel
theorem dX2_make_66 : decode cX2_make 66 = .ok (.getfield 30, 3) := by decide +kernel
theorem dX2_make_69 : decode cX2_make 69 = .ok (.invokevirtual 88, 3) := by decide +kernel
theorem dX2_make_72 : decode cX2_make 72 = .ok (.aload_n 0, 1) := by decide +kernel
theorem dX2_make_73 : decode cX2_make 73 = .ok (.getfield 24, 3) := by decide +kernel
theorem dX2_make_76 : decode cX2_make 76 = .ok (.aload_n 0, 1) := by decide +kernel
theorem dX2_make_77 : decode cX2_make 77 = .ok (.getfield 37, 3) := by decide +kernel
theorem dX2_make_80 : decode cX2_make 80 = .ok (.invokevirtual 88, 3) := by decide +kernel
theorem dX2_make_83 : decode cX2_make 83 = .ok (.aload_n 0, 1) := by decide +kernel
theorem dX2_make_84 : decode cX2_make 84 = .ok (.getfield 27, 3) := by decide +kernel
theorem dX2_make_87 : decode cX2_make 87 = .ok (.aload_n 0, 1) := by decide +kernel
theorem dX2_make_88 : decode cX2_make 88 = .ok (.getfield 40, 3) := by decide +kernel
theorem dX2_make_91 : decode cX2_make 91 = .ok (.invokevirtual 88, 3) := by decide +kernel
theorem dX2_make_94 : decode cX2_make 94 = .ok (.aload_n 0, 1) := by decide +kernel
theorem dX2_make_95 : decode cX2_make 95 = .ok (.invokevirtual 92, 3) := by decide +kernel
theorem dX2_make_98 : decode cX2_make 98 = .ok (.aload_n 0, 1) := by decide +kernel
theorem dX2_make_99 : decode cX2_make 99 = .ok (.invokevirtual 95, 3) := by decide +kernel
theorem dX2_make_102 : decode cX2_make 102 = .ok (.aload_n 0, 1) := by decide +kernel
theorem dX2_make_103 : decode cX2_make 103 = .ok (.iconst 1, 1) := by decide +kernel
theorem dX2_make_104 : decode cX2_make 104 = .ok (.putfield 70, 3) := by decide +kernel
theorem dX2_make_107 : decode cX2_make 107 = .ok (.return_, 1) := by decide +kernel
theorem dX2_findPrivateNumbers_0 : decode cX2_findPrivateNumbers 0 = .ok (.aload_n 0, 1) := by decide +kernel
theorem dX2_findPrivateNumbers_1 : decode cX2_findPrivateNumbers 1 = .ok (.getfield 52, 3) := by decide +kernel
theorem dX2_findPrivateNumbers_4 : decode cX2_findPrivateNumbers 4 = .ok (.aload_n 0, 1) := by decide +kernel
theorem dX2_findPrivateNumbers_5 : decode cX2_findPrivateNumbers 5 = .ok (.getfield 37, 3) := by decide +kernel
theorem dX2_findPrivateNumbers_8 : decode cX2_findPrivateNumbers 8 = .ok (.invokestatic 80, 3) := by decide +kernel
theorem dX2_findPrivateNumbers_11 : decode cX2_findPrivateNumbers 11 = .ok (.aload_n 0, 1) := by decide +kernel
theorem dX2_findPrivateNumbers_12 : decode cX2_findPrivateNumbers 12 = .ok (.getfield 52, 3) := by decide +kernel
theorem dX2_findPrivateNumbers_15 : decode cX2_findPrivateNumbers 15 = .ok (.lconst 1, 1) := by decide +kernel
theorem dX2_findPrivateNumbers_16 : decode cX2_findPrivateNumbers 16 = .ok (.invokestatic 98, 3) := by decide +kernel
theorem dX2_findPrivateNumbers_19 : decode cX2_findPrivateNumbers 19 = .ok (.aload_n 0, 1) := by decide +kernel
theorem dX2_findPrivateNumbers_20 : decode cX2_findPrivateNumbers 20 = .ok (.getfield 55, 3) := by decide +kernel
theorem dX2_findPrivateNumbers_23 : decode cX2_findPrivateNumbers 23 = .ok (.aload_n 0, 1) := by decide +kernel
theorem dX2_findPrivateNumbers_24 : decode cX2_findPrivateNumbers 24 = .ok (.getfield 40, 3) := by decide +kernel
theorem dX2_findPrivateNumbers_27 : decode cX2_findPrivateNumbers 27 = .ok (.invokestatic 80, 3) := by decide +kernel
theorem dX2_findPrivateNumbers_30 : decode cX2_findPrivateNumbers 30 = .ok (.aload_n 0, 1) := by decide +kernel
theorem dX2_findPrivateNumbers_31 : decode cX2_findPrivateNumbers 31 = .ok (.getfield 55, 3) := by decide +kernel
theorem dX2_findPrivateNumbers_34 : decode cX2_findPrivateNumbers 34 = .ok (.lconst 1, 1) := by decide +kernel
theorem dX2_findPrivateNumbers_35 : decode cX2_findPrivateNumbers 35 = .ok (.invokestatic 98, 3) := by decide +kernel
theorem dX2_findPrivateNumbers_38 : decode cX2_findPrivateNumbers 38 = .ok (.aload_n 0, 1) := by decide +kernel
theorem dX2_findPrivateNumbers_39 : decode cX2_findPrivateNumbers 39 = .ok (.getfield 58, 3) := by decide +kernel
theorem dX2_findPrivateNumbers_42 : decode cX2_findPrivateNumbers 42 = .ok (.aload_n 0, 1) := by decide +kernel
theorem dX2_findPrivateNumbers_43 : decode cX2_findPrivateNumbers 43 = .ok (.getfield 52, 3) := by decide +kernel
theorem dX2_findPrivateNumbers_46 : decode cX2_findPrivateNumbers 46 = .ok (.aload_n 0, 1) := by decide +kernel
theorem dX2_findPrivateNumbers_47 : decode cX2_findPrivateNumbers 47 = .ok (.getfield 55, 3) := by decide +kernel
theorem dX2_findPrivateNumbers_50 : decode cX2_findPrivateNumbers 50 = .ok (.invokestatic 84, 3) := by decide +kernel
theorem dX2_findPrivateNumbers_53 : decode cX2_findPrivateNumbers 53 = .ok (.aload_n 0, 1) := by decide +kernel
theorem dX2_findPrivateNumbers_54 : decode cX2_findPrivateNumbers 54 = .ok (.aload_n 0, 1) := by decide +kernel
theorem dX2_findPrivateNumbers_55 : decode cX2_findPrivateNumbers 55 = .ok (.getfield 34, 3) := by decide +kernel
theorem dX2_findPrivateNumbers_58 : decode cX2_findPrivateNumbers 58 = .ok (.aload_n 0, 1) := by decide +kernel
theorem dX2_findPrivateNumbers_59 : decode cX2_findPrivateNumbers 59 = .ok (.getfield 58, 3) := by decide +kernel
theorem dX2_findPrivateNumbers_62 : decode cX2_findPrivateNumbers 62 = .ok (.invokevirtual 102, 3) := by decide +kernel
theorem dX2_findPrivateNumbers_65 : decode cX2_findPrivateNumbers 65 = .ok (.aload_n 0, 1) := by decide +kernel
theorem dX2_findPrivateNumbers_66 : decode cX2_findPrivateNumbers 66 = .ok (.aload_n 0, 1) := by decide +kernel
theorem dX2_findPrivateNumbers_67 : decode cX2_findPrivateNumbers 67 = .ok (.getfield 43, 3) := by decide +kernel
theorem dX2_findPrivateNumbers_70 : decode cX2_findPrivateNumbers 70 = .ok (.aload_n 0, 1) := by decide +kernel
theorem dX2_findPrivateNumbers_71 : decode cX2_findPrivateNumbers 71 = .ok (.getfield 52, 3) := by decide +kernel
theorem dX2_findPrivateNumbers_74 : decode cX2_findPrivateNumbers 74 = .ok (.invokevirtual 102, 3) := by decide +kernel
theorem dX2_findPrivateNumbers_77 : decode cX2_findPrivateNumbers 77 = .ok (.aload_n 0, 1) := by decide +kernel
theorem dX2_findPrivateNumbers_78 : decode cX2_findPrivateNumbers 78 = .ok (.aload_n 0, 1) := by decide +kernel
theorem dX2_findPrivateNumbers_79 : decode cX2_findPrivateNumbers 79 = .ok (.getfield 46, 3) := by decide +kernel
theorem dX2_findPrivateNumbers_82 : decode cX2_findPrivateNumbers 82 = .ok (.aload_n 0, 1) := by decide +kernel
theorem dX2_findPrivateNumbers_83 : decode cX2_findPrivateNumbers 83 = .ok (.getfield 55, 3) := by decide +kernel
theorem dX2_findPrivateNumbers_86 : decode cX2_findPrivateNumbers 86 = .ok (.invokevirtual 102, 3) := by decide +kernel
theorem dX2_findPrivateNumbers_89 : decode cX2_findPrivateNumbers 89 = .ok (.return_, 1) := by decide +kernel
theorem dX2_findInverseOfQ_0 : decode cX2_findInverseOfQ 0 = .ok (.aload_n 0, 1) := by decide +kernel
theorem dX2_findInverseOfQ_1 : decode cX2_findInverseOfQ 1 = .ok (.getfield 52, 3) := by decide +kernel
theorem dX2_findInverseOfQ_4 : decode cX2_findInverseOfQ 4 = .ok (.aload_n 0, 1) := by decide +kernel
theorem dX2_findInverseOfQ_5 : decode cX2_findInverseOfQ 5 = .ok (.getfield 37, 3) := by decide +kernel
theorem dX2_findInverseOfQ_8 : decode cX2_findInverseOfQ 8 = .ok (.invokestatic 80, 3) := by decide +kernel
theorem dX2_findInverseOfQ_11 : decode cX2_findInverseOfQ 11 = .ok (.aload_n 0, 1) := by decide +kernel
theorem dX2_findInverseOfQ_12 : decode cX2_findInverseOfQ 12 = .ok (.getfield 52, 3) := by decide +kernel
theorem dX2_findInverseOfQ_15 : decode cX2_findInverseOfQ 15 = .ok (.ldc2_w 105, 3) := by decide +kernel
theorem dX2_findInverseOfQ_18 : decode cX2_findInverseOfQ 18 = .ok (.invokestatic 98, 3) := by decide +kernel
theorem dX2_findInverseOfQ_21 : decode cX2_findInverseOfQ 21 = .ok (.aload_n 0, 1) := by decide +kernel
theorem dX2_findInverseOfQ_22 : decode cX2_findInverseOfQ 22 = .ok (.getfield 24, 3) := by decide +kernel
theorem dX2_findInverseOfQ_25 : decode cX2_findInverseOfQ 25 = .ok (.aload_n 0, 1) := by decide +kernel
theorem dX2_findInverseOfQ_26 : decode cX2_findInverseOfQ 26 = .ok (.getfield 49, 3) := by decide +kernel
theorem dX2_findInverseOfQ_29 : decode cX2_findInverseOfQ 29 = .ok (.aload_n 0, 1) := by decide +kernel
theorem dX2_findInverseOfQ_30 : decode cX2_findInverseOfQ 30 = .ok (.getfield 40, 3) := by decide +kernel
theorem dX2_findInverseOfQ_33 : decode cX2_findInverseOfQ 33 = .ok (.aload_n 0, 1) := by decide +kernel
theorem dX2_findInverseOfQ_34 : decode cX2_findInverseOfQ 34 = .ok (.getfield 52, 3) := by decide +kernel
theorem dX2_findInverseOfQ_37 : decode cX2_findInverseOfQ 37 = .ok (.invokevirtual 107, 3) := by decide +kernel
theorem dX2_findInverseOfQ_40 : decode cX2_findInverseOfQ 40 = .ok (.return_, 1) := by decide +kernel
theorem dX2_invertE_0 : decode cX2_invertE 0 = .ok (.ldc2_w 110, 3) := by decide +kernel
theorem dX2_invertE_3 : decode cX2_invertE 3 = .ok (.aload_n 2, 1) := by decide +kernel
theorem dX2_invertE_4 : decode cX2_invertE 4 = .ok (.ldc 112, 2) := by decide +kernel
theorem dX2_invertE_6 : decode cX2_invertE 6 = .ok (.invokestatic 113, 3) := by decide +kernel
theorem dX2_invertE_9 : decode cX2_invertE 9 = .ok (.invokestatic 117, 3) := by decide +kernel
theorem dX2_invertE_12 : decode cX2_invertE 12 = .ok (.lsub, 1) := by decide +kernel
theorem dX2_invertE_13 : decode cX2_invertE 13 = .ok (.lstore_n 3, 1) := by decide +kernel
theorem dX2_invertE_14 : decode cX2_invertE 14 = .ok (.aload_n 2, 1) := by decide +kernel
theorem dX2_invertE_15 : decode cX2_invertE 15 = .ok (.arraylength, 1) := by decide +kernel
theorem dX2_invertE_16 : decode cX2_invertE 16 = .ok (.aload_n 0, 1) := by decide +kernel
theorem dX2_invertE_17 : decode cX2_invertE 17 = .ok (.getfield 61, 3) := by decide +kernel
theorem dX2_invertE_20 : decode cX2_invertE 20 = .ok (.arraylength, 1) := by decide +kernel
theorem dX2_invertE_21 : decode cX2_invertE 21 = .ok (.if_icmp .lt 4, 3) := by decide +kernel
theorem dX2_invertE_24 : decode cX2_invertE 24 = .ok (.return_, 1) := by decide +kernel
theorem dX2_invertE_25 : decode cX2_invertE 25 = .ok (.lconst 1, 1) := by decide +kernel
theorem dX2_invertE_26 : decode cX2_invertE 26 = .ok (.lstore 5, 2) := by decide +kernel
theorem dX2_invertE_28 : decode cX2_invertE 28 = .ok (.iconst 0, 1) := by decide +kernel
theorem dX2_invertE_29 : decode cX2_invertE 29 = .ok (.istore 7, 2) := by decide +kernel
theorem dX2_invertE_31 : decode cX2_invertE 31 = .ok (.iload 7, 2) := by decide +kernel
theorem dX2_invertE_33 : decode cX2_invertE 33 = .ok (.aload_n 2, 1) := by decide +kernel
theorem dX2_invertE_34 : decode cX2_invertE 34 = .ok (.arraylength, 1) := by decide +kernel
theorem dX2_invertE_35 : decode cX2_invertE 35 = .ok (.if_icmp .ge 40, 3) := by decide +kernel
theorem dX2_invertE_38 : decode cX2_invertE 38 = .ok (.aload_n 2, 1) := by decide +kernel
theorem dX2_invertE_39 : decode cX2_invertE 39 = .ok (.iload 7, 2) := by decide +kernel
theorem dX2_invertE_41 : decode cX2_invertE 41 = .ok (.laload, 1) := by decide +kernel
theorem dX2_invertE_42 : decode cX2_invertE 42 = .ok (.lload_n 3, 1) := by decide +kernel
theorem dX2_invertE_43 : decode cX2_invertE 43 = .ok (.lmul, 1) := by decide +kernel
theorem dX2_invertE_44 : decode cX2_invertE 44 = .ok (.lload 5, 2) := by decide +kernel
theorem dX2_invertE_46 : decode cX2_invertE 46 = .ok (.ladd, 1) := by decide +kernel
theorem dX2_invertE_47 : decode cX2_invertE 47 = .ok (.lstore 8, 2) := by decide +kernel
theorem dX2_invertE_49 : decode cX2_invertE 49 = .ok (.aload_n 0, 1) := by decide +kernel
theorem dX2_invertE_50 : decode cX2_invertE 50 = .ok (.getfield 61, 3) := by decide +kernel
theorem dX2_invertE_53 : decode cX2_invertE 53 = .ok (.iload 7, 2) := by decide +kernel
theorem dX2_invertE_55 : decode cX2_invertE 55 = .ok (.lload 8, 2) := by decide +kernel
theorem dX2_invertE_57 : decode cX2_invertE 57 = .ok (.ldc2_w 121, 3) := by decide +kernel
theorem dX2_invertE_60 : decode cX2_invertE 60 = .ok (.land, 1) := by decide +kernel
theorem dX2_invertE_61 : decode cX2_invertE 61 = .ok (.lastore, 1) := by decide +kernel
theorem dX2_invertE_62 : decode cX2_invertE 62 = .ok (.lload 8, 2) := by decide +kernel
theorem dX2_invertE_64 : decode cX2_invertE 64 = .ok (.bipush 32, 2) := by decide +kernel
theorem dX2_invertE_66 : decode cX2_invertE 66 = .ok (.lushr, 1) := by decide +kernel
theorem dX2_invertE_67 : decode cX2_invertE 67 = .ok (.lstore 5, 2) := by decide +kernel
theorem dX2_invertE_69 : decode cX2_invertE 69 = .ok (.iinc 7 1, 3) := by decide +kernel
theorem dX2_invertE_72 : decode cX2_invertE 72 = .ok (.goto (-41), 3) := by decide +kernel
theorem dX2_invertE_75 : decode cX2_invertE 75 = .ok (.aload_n 0, 1) := by decide +kernel
theorem dX2_invertE_76 : decode cX2_invertE 76 = .ok (.getfield 61, 3) := by decide +kernel
theorem dX2_invertE_79 : decode cX2_invertE 79 = .ok (.aload_n 2, 1) := by decide +kernel
theorem dX2_invertE_80 : decode cX2_invertE 80 = .ok (.arraylength, 1) := by decide +kernel
theorem dX2_invertE_81 : decode cX2_invertE 81 = .ok (.lload 5, 2) := by decide +kernel
theorem dX2_invertE_83 : decode cX2_invertE 83 = .ok (.lastore, 1) := by decide +kernel
theorem dX2_invertE_84 : decode cX2_invertE 84 = .ok (.lconst 0, 1) := by decide +kernel
theorem dX2_invertE_85 : decode cX2_invertE 85 = .ok (.lstore 7, 2) := by decide +kernel
theorem dX2_invertE_87 : decode cX2_invertE 87 = .ok (.aload_n 2, 1) := by decide +kernel
theorem dX2_invertE_88 : decode cX2_invertE 88 = .ok (.arraylength, 1) := by decide +kernel
theorem dX2_invertE_89 : decode cX2_invertE 89 = .ok (.istore 9, 2) := by decide +kernel
theorem dX2_invertE_91 : decode cX2_invertE 91 = .ok (.iload 9, 2) := by decide +kernel
theorem dX2_invertE_93 : decode cX2_invertE 93 = .ok (.ifCond .lt 49, 3) := by decide +kernel
theorem dX2_invertE_96 : decode cX2_invertE 96 = .ok (.lload 7, 2) := by decide +kernel
theorem dX2_invertE_98 : decode cX2_invertE 98 = .ok (.bipush 32, 2) := by decide +kernel
theorem dX2_invertE_100 : decode cX2_invertE 100 = .ok (.lshl, 1) := by decide +kernel
theorem dX2_invertE_101 : decode cX2_invertE 101 = .ok (.aload_n 0, 1) := by decide +kernel
theorem dX2_invertE_102 : decode cX2_invertE 102 = .ok (.getfield 61, 3) := by decide +kernel
theorem dX2_invertE_105 : decode cX2_invertE 105 = .ok (.iload 9, 2) := by decide +kernel
theorem dX2_invertE_107 : decode cX2_invertE 107 = .ok (.laload, 1) := by decide +kernel
theorem dX2_invertE_108 : decode cX2_invertE 108 = .ok (.lor, 1) := by decide +kernel
theorem dX2_invertE_109 : decode cX2_invertE 109 = .ok (.lstore 10, 2) := by decide +kernel
theorem dX2_invertE_111 : decode cX2_invertE 111 = .ok (.iload 9, 2) := by decide +kernel
theorem dX2_invertE_113 : decode cX2_invertE 113 = .ok (.aload_n 1, 1) := by decide +kernel
theorem dX2_invertE_114 : decode cX2_invertE 114 = .ok (.arraylength, 1) := by decide +kernel
theorem dX2_invertE_115 : decode cX2_invertE 115 = .ok (.if_icmp .ge 13, 3) := by decide +kernel
theorem dX2_invertE_118 : decode cX2_invertE 118 = .ok (.aload_n 1, 1) := by decide +kernel
theorem dX2_invertE_119 : decode cX2_invertE 119 = .ok (.iload 9, 2) := by decide +kernel
theorem dX2_invertE_121 : decode cX2_invertE 121 = .ok (.lload 10, 2) := by decide +kernel
theorem dX2_invertE_123 : decode cX2_invertE 123 = .ok (.ldc2_w 110, 3) := by decide +kernel
theorem dX2_invertE_126 : decode cX2_invertE 126 = .ok (.ldiv, 1) := by decide +kernel
theorem dX2_invertE_127 : decode cX2_invertE 127 = .ok (.lastore, 1) := by decide +kernel
theorem dX2_invertE_128 : decode cX2_invertE 128 = .ok (.lload 10, 2) := by decide +kernel
theorem dX2_invertE_130 : decode cX2_invertE 130 = .ok (.ldc2_w 110, 3) := by decide +kernel
theorem dX2_invertE_133 : decode cX2_invertE 133 = .ok (.lrem, 1) := by decide +kernel
theorem dX2_invertE_134 : decode cX2_invertE 134 = .ok (.lstore 7, 2) := by decide +kernel
theorem dX2_invertE_136 : decode cX2_invertE 136 = .ok (.iinc 9 (-1), 3) := by decide +kernel
theorem dX2_invertE_139 : decode cX2_invertE 139 = .ok (.goto (-48), 3) := by decide +kernel
theorem dX2_invertE_142 : decode cX2_invertE 142 = .ok (.return_, 1) := by decide +kernel
theorem dX2_inverseByE_0 : decode cX2_inverseByE 0 = .ok (.lconst 1, 1) := by decide +kernel
theorem dX2_inverseByE_1 : decode cX2_inverseByE 1 = .ok (.lstore_n 2, 1) := by decide +kernel
theorem dX2_inverseByE_2 : decode cX2_inverseByE 2 = .ok (.iconst 0, 1) := by decide +kernel
theorem dX2_inverseByE_3 : decode cX2_inverseByE 3 = .ok (.istore 4, 2) := by decide +kernel
theorem dX2_inverseByE_5 : decode cX2_inverseByE 5 = .ok (.iload 4, 2) := by decide +kernel
theorem dX2_inverseByE_7 : decode cX2_inverseByE 7 = .ok (.bipush 16, 2) := by decide +kernel
theorem dX2_inverseByE_9 : decode cX2_inverseByE 9 = .ok (.if_icmp .ge 23, 3) := by decide +kernel
theorem dX2_inverseByE_12 : decode cX2_inverseByE 12 = .ok (.lload_n 2, 1) := by decide +kernel
theorem dX2_inverseByE_13 : decode cX2_inverseByE 13 = .ok (.lload_n 2, 1) := by decide +kernel
theorem dX2_inverseByE_14 : decode cX2_inverseByE 14 = .ok (.lmul, 1) := by decide +kernel
theorem dX2_inverseByE_15 : decode cX2_inverseByE 15 = .ok (.ldc2_w 110, 3) := by decide +kernel
theorem dX2_inverseByE_18 : decode cX2_inverseByE 18 = .ok (.lrem, 1) := by decide +kernel
theorem dX2_inverseByE_19 : decode cX2_inverseByE 19 = .ok (.lload_n 0, 1) := by decide +kernel
theorem dX2_inverseByE_20 : decode cX2_inverseByE 20 = .ok (.lmul, 1) := by decide +kernel
theorem dX2_inverseByE_21 : decode cX2_inverseByE 21 = .ok (.ldc2_w 110, 3) := by decide +kernel
theorem dX2_inverseByE_24 : decode cX2_inverseByE 24 = .ok (.lrem, 1) := by decide +kernel
theorem dX2_inverseByE_25 : decode cX2_inverseByE 25 = .ok (.lstore_n 2, 1) := by decide +kernel
theorem dX2_inverseByE_26 : decode cX2_inverseByE 26 = .ok (.iinc 4 1, 3) := by decide +kernel
theorem dX2_inverseByE_29 : decode cX2_inverseByE 29 = .ok (.goto (-24), 3) := by decide +kernel
theorem dX2_inverseByE_32 : decode cX2_inverseByE 32 = .ok (.lload_n 2, 1) := by decide +kernel
theorem dX2_inverseByE_33 : decode cX2_inverseByE 33 = .ok (.lreturn, 1) := by decide +kernel
theorem dX2_isBelowN_0 : decode cX2_isBelowN 0 = .ok (.aload_n 1, 1) := by decide +kernel
theorem dX2_isBelowN_1 : decode cX2_isBelowN 1 = .ok (.aload_n 0, 1) := by decide +kernel
theorem dX2_isBelowN_2 : decode cX2_isBelowN 2 = .ok (.getfield 30, 3) := by decide +kernel
theorem dX2_isBelowN_5 : decode cX2_isBelowN 5 = .ok (.invokestatic 74, 3) := by decide +kernel
theorem dX2_isBelowN_8 : decode cX2_isBelowN 8 = .ok (.ifCond .ge 7, 3) := by decide +kernel
theorem dX2_isBelowN_11 : decode cX2_isBelowN 11 = .ok (.iconst 1, 1) := by decide +kernel
theorem dX2_isBelowN_12 : decode cX2_isBelowN 12 = .ok (.goto 4, 3) := by decide +kernel
theorem dX2_isBelowN_15 : decode cX2_isBelowN 15 = .ok (.iconst 0, 1) := by decide +kernel
theorem dX2_isBelowN_16 : decode cX2_isBelowN 16 = .ok (.ireturn, 1) := by decide +kernel
theorem dX2_raisePublic_0 : decode cX2_raisePublic 0 = .ok (.aload_n 0, 1) := by decide +kernel
theorem dX2_raisePublic_1 : decode cX2_raisePublic 1 = .ok (.getfield 18, 3) := by decide +kernel
theorem dX2_raisePublic_4 : decode cX2_raisePublic 4 = .ok (.aload_n 1, 1) := by decide +kernel
theorem dX2_raisePublic_5 : decode cX2_raisePublic 5 = .ok (.aload_n 2, 1) := by decide +kernel
theorem dX2_raisePublic_6 : decode cX2_raisePublic 6 = .ok (.getstatic 123, 3) := by decide +kernel
theorem dX2_raisePublic_9 : decode cX2_raisePublic 9 = .ok (.invokevirtual 107, 3) := by decide +kernel
theorem dX2_raisePublic_12 : decode cX2_raisePublic 12 = .ok (.return_, 1) := by decide +kernel
theorem dX2_raisePrivate_0 : decode cX2_raisePrivate 0 = .ok (.aload_n 0, 1) := by decide +kernel
theorem dX2_raisePrivate_1 : decode cX2_raisePrivate 1 = .ok (.getfield 18, 3) := by decide +kernel
theorem dX2_raisePrivate_4 : decode cX2_raisePrivate 4 = .ok (.aload_n 1, 1) := by decide +kernel
theorem dX2_raisePrivate_5 : decode cX2_raisePrivate 5 = .ok (.aload_n 2, 1) := by decide +kernel
theorem dX2_raisePrivate_6 : decode cX2_raisePrivate 6 = .ok (.aload_n 0, 1) := by decide +kernel
theorem dX2_raisePrivate_7 : decode cX2_raisePrivate 7 = .ok (.getfield 34, 3) := by decide +kernel
theorem dX2_raisePrivate_10 : decode cX2_raisePrivate 10 = .ok (.invokevirtual 107, 3) := by decide +kernel
theorem dX2_raisePrivate_13 : decode cX2_raisePrivate 13 = .ok (.return_, 1) := by decide +kernel
theorem dX2_makeSignature_0 : decode cX2_makeSignature 0 = .ok (.aload_n 0, 1) := by decide +kernel
theorem dX2_makeSignature_1 : decode cX2_makeSignature 1 = .ok (.getfield 24, 3) := by decide +kernel
theorem dX2_makeSignature_4 : decode cX2_makeSignature 4 = .ok (.aload_n 0, 1) := by decide +kernel
theorem dX2_makeSignature_5 : decode cX2_makeSignature 5 = .ok (.getfield 64, 3) := by decide +kernel
theorem dX2_makeSignature_8 : decode cX2_makeSignature 8 = .ok (.aload_n 2, 1) := by decide +kernel
theorem dX2_makeSignature_9 : decode cX2_makeSignature 9 = .ok (.invokevirtual 126, 3) := by decide +kernel
theorem dX2_makeSignature_12 : decode cX2_makeSignature 12 = .ok (.aload_n 0, 1) := by decide +kernel
theorem dX2_makeSignature_13 : decode cX2_makeSignature 13 = .ok (.getfield 24, 3) := by decide +kernel
theorem dX2_makeSignature_16 : decode cX2_makeSignature 16 = .ok (.aload_n 0, 1) := by decide +kernel
theorem dX2_makeSignature_17 : decode cX2_makeSignature 17 = .ok (.getfield 64, 3) := by decide +kernel
theorem dX2_makeSignature_20 : decode cX2_makeSignature 20 = .ok (.aload_n 0, 1) := by decide +kernel
theorem dX2_makeSignature_21 : decode cX2_makeSignature 21 = .ok (.getfield 64, 3) := by decide +kernel
theorem dX2_makeSignature_24 : decode cX2_makeSignature 24 = .ok (.aload_n 0, 1) := by decide +kernel
theorem dX2_makeSignature_25 : decode cX2_makeSignature 25 = .ok (.getfield 43, 3) := by decide +kernel
theorem dX2_makeSignature_28 : decode cX2_makeSignature 28 = .ok (.invokevirtual 107, 3) := by decide +kernel
theorem dX2_makeSignature_31 : decode cX2_makeSignature 31 = .ok (.aload_n 0, 1) := by decide +kernel
theorem dX2_makeSignature_32 : decode cX2_makeSignature 32 = .ok (.getfield 27, 3) := by decide +kernel
theorem dX2_makeSignature_35 : decode cX2_makeSignature 35 = .ok (.aload_n 0, 1) := by decide +kernel
theorem dX2_makeSignature_36 : decode cX2_makeSignature 36 = .ok (.getfield 67, 3) := by decide +kernel
theorem dX2_makeSignature_39 : decode cX2_makeSignature 39 = .ok (.aload_n 2, 1) := by decide +kernel
theorem dX2_makeSignature_40 : decode cX2_makeSignature 40 = .ok (.invokevirtual 126, 3) := by decide +kernel
theorem dX2_makeSignature_43 : decode cX2_makeSignature 43 = .ok (.aload_n 0, 1) := by decide +kernel
theorem dX2_makeSignature_44 : decode cX2_makeSignature 44 = .ok (.getfield 27, 3) := by decide +kernel
theorem dX2_makeSignature_47 : decode cX2_makeSignature 47 = .ok (.aload_n 0, 1) := by decide +kernel
theorem dX2_makeSignature_48 : decode cX2_makeSignature 48 = .ok (.getfield 67, 3) := by decide +kernel
theorem dX2_makeSignature_51 : decode cX2_makeSignature 51 = .ok (.aload_n 0, 1) := by decide +kernel
theorem dX2_makeSignature_52 : decode cX2_makeSignature 52 = .ok (.getfield 67, 3) := by decide +kernel
theorem dX2_makeSignature_55 : decode cX2_makeSignature 55 = .ok (.aload_n 0, 1) := by decide +kernel
theorem dX2_makeSignature_56 : decode cX2_makeSignature 56 = .ok (.getfield 46, 3) := by decide +kernel
theorem dX2_makeSignature_59 : decode cX2_makeSignature 59 = .ok (.invokevirtual 107, 3) := by decide +kernel
theorem dX2_makeSignature_62 : decode cX2_makeSignature 62 = .ok (.aload_n 0, 1) := by decide +kernel
theorem dX2_makeSignature_63 : decode cX2_makeSignature 63 = .ok (.getfield 64, 3) := by decide +kernel
theorem dX2_makeSignature_66 : decode cX2_makeSignature 66 = .ok (.aload_n 0, 1) := by decide +kernel
theorem dX2_makeSignature_67 : decode cX2_makeSignature 67 = .ok (.getfield 64, 3) := by decide +kernel
theorem dX2_makeSignature_70 : decode cX2_makeSignature 70 = .ok (.aload_n 0, 1) := by decide +kernel
theorem dX2_makeSignature_71 : decode cX2_makeSignature 71 = .ok (.getfield 67, 3) := by decide +kernel
theorem dX2_makeSignature_74 : decode cX2_makeSignature 74 = .ok (.invokestatic 129, 3) := by decide +kernel
theorem dX2_makeSignature_77 : decode cX2_makeSignature 77 = .ok (.ifCond .eq 14, 3) := by decide +kernel
theorem dX2_makeSignature_80 : decode cX2_makeSignature 80 = .ok (.aload_n 0, 1) := by decide +kernel
theorem dX2_makeSignature_81 : decode cX2_makeSignature 81 = .ok (.getfield 64, 3) := by decide +kernel
theorem dX2_makeSignature_84 : decode cX2_makeSignature 84 = .ok (.aload_n 0, 1) := by decide +kernel
theorem dX2_makeSignature_85 : decode cX2_makeSignature 85 = .ok (.getfield 37, 3) := by decide +kernel
theorem dX2_makeSignature_88 : decode cX2_makeSignature 88 = .ok (.invokestatic 133, 3) := by decide +kernel
theorem dX2_makeSignature_91 : decode cX2_makeSignature 91 = .ok (.aload_n 0, 1) := by decide +kernel
theorem dX2_makeSignature_92 : decode cX2_makeSignature 92 = .ok (.getfield 24, 3) := by decide +kernel
theorem dX2_makeSignature_95 : decode cX2_makeSignature 95 = .ok (.aload_n 0, 1) := by decide +kernel
theorem dX2_makeSignature_96 : decode cX2_makeSignature 96 = .ok (.getfield 64, 3) := by decide +kernel
theorem dX2_makeSignature_99 : decode cX2_makeSignature 99 = .ok (.aload_n 0, 1) := by decide +kernel
theorem dX2_makeSignature_100 : decode cX2_makeSignature 100 = .ok (.getfield 64, 3) := by decide +kernel
theorem dX2_makeSignature_103 : decode cX2_makeSignature 103 = .ok (.aload_n 0, 1) := by decide +kernel
theorem dX2_makeSignature_104 : decode cX2_makeSignature 104 = .ok (.getfield 49, 3) := by decide +kernel
theorem dX2_makeSignature_107 : decode cX2_makeSignature 107 = .ok (.invokevirtual 136, 3) := by decide +kernel
theorem dX2_makeSignature_110 : decode cX2_makeSignature 110 = .ok (.aload_n 1, 1) := by decide +kernel
theorem dX2_makeSignature_111 : decode cX2_makeSignature 111 = .ok (.aload_n 0, 1) := by decide +kernel
theorem dX2_makeSignature_112 : decode cX2_makeSignature 112 = .ok (.getfield 64, 3) := by decide +kernel
theorem dX2_makeSignature_115 : decode cX2_makeSignature 115 = .ok (.aload_n 0, 1) := by decide +kernel
theorem dX2_makeSignature_116 : decode cX2_makeSignature 116 = .ok (.getfield 40, 3) := by decide +kernel
theorem dX2_makeSignature_119 : decode cX2_makeSignature 119 = .ok (.invokestatic 84, 3) := by decide +kernel
theorem dX2_makeSignature_122 : decode cX2_makeSignature 122 = .ok (.aload_n 1, 1) := by decide +kernel
theorem dX2_makeSignature_123 : decode cX2_makeSignature 123 = .ok (.aload_n 0, 1) := by decide +kernel
theorem dX2_makeSignature_124 : decode cX2_makeSignature 124 = .ok (.getfield 67, 3) := by decide +kernel
theorem dX2_makeSignature_127 : decode cX2_makeSignature 127 = .ok (.invokestatic 133, 3) := by decide +kernel
theorem dX2_makeSignature_130 : decode cX2_makeSignature 130 = .ok (.return_, 1) := by decide +kernel
theorem dX3_init_0 : decode cX3_init 0 = .ok (.aload_n 0, 1) := by decide +kernel
theorem dX3_init_1 : decode cX3_init 1 = .ok (.invokespecial 1, 3) := by decide +kernel
theorem dX3_init_4 : decode cX3_init 4 = .ok (.aload_n 0, 1) := by decide +kernel
theorem dX3_init_5 : decode cX3_init 5 = .ok (.sipush 300, 3) := by decide +kernel
theorem dX3_init_8 : decode cX3_init 8 = .ok (.newarray .byte, 2) := by decide +kernel
theorem dX3_init_10 : decode cX3_init 10 = .ok (.putfield 9, 3) := by decide +kernel
theorem dX3_init_13 : decode cX3_init 13 = .ok (.aload_n 0, 1) := by decide +kernel
theorem dX3_init_14 : decode cX3_init 14 = .ok (.new 13, 3) := by decide +kernel
theorem dX3_init_17 : decode cX3_init 17 = .ok (.dup, 1) := by decide +kernel
theorem dX3_init_18 : decode cX3_init 18 = .ok (.invokespecial 15, 3) := by decide +kernel
theorem dX3_init_21 : decode cX3_init 21 = .ok (.putfield 16, 3) := by decide +kernel
theorem dX3_init_24 : decode cX3_init 24 = .ok (.aload_n 0, 1) := by decide +kernel
theorem dX3_init_25 : decode cX3_init 25 = .ok (.invokevirtual 20, 3) := by decide +kernel
theorem dX3_init_28 : decode cX3_init 28 = .ok (.return_, 1) := by decide +kernel
theorem dX3_byteCount_0 : decode cX3_byteCount 0 = .ok (.aload_n 0, 1) := by decide +kernel
theorem dX3_byteCount_1 : decode cX3_byteCount 1 = .ok (.getfield 23, 3) := by decide +kernel
theorem dX3_byteCount_4 : decode cX3_byteCount 4 = .ok (.ireturn, 1) := by decide +kernel
theorem dX3_append_0 : decode cX3_append 0 = .ok (.iload_n 3, 1) := by decide +kernel
theorem dX3_append_1 : decode cX3_append 1 = .ok (.iconst 1, 1) := by decide +kernel
theorem dX3_append_2 : decode cX3_append 2 = .ok (.isub, 1) := by decide +kernel
theorem dX3_append_3 : decode cX3_append 3 = .ok (.istore 4, 2) := by decide +kernel
theorem dX3_append_5 : decode cX3_append 5 = .ok (.iload 4, 2) := by decide +kernel
theorem dX3_append_7 : decode cX3_append 7 = .ok (.ifCond .lt 49, 3) := by decide +kernel
theorem dX3_append_10 : decode cX3_append 10 = .ok (.aload_n 0, 1) := by decide +kernel
theorem dX3_append_11 : decode cX3_append 11 = .ok (.getfield 23, 3) := by decide +kernel
theorem dX3_append_14 : decode cX3_append 14 = .ok (.aload_n 0, 1) := by decide +kernel
theorem dX3_append_15 : decode cX3_append 15 = .ok (.getfield 9, 3) := by decide +kernel
theorem dX3_append_18 : decode cX3_append 18 = .ok (.arraylength, 1) := by decide +kernel
theorem dX3_append_19 : decode cX3_append 19 = .ok (.if_icmp .ge 37, 3) := by decide +kernel
theorem dX3_append_22 : decode cX3_append 22 = .ok (.aload_n 0, 1) := by decide +kernel
theorem dX3_append_23 : decode cX3_append 23 = .ok (.getfield 9, 3) := by decide +kernel
theorem dX3_append_26 : decode cX3_append 26 = .ok (.aload_n 0, 1) := by decide +kernel
theorem dX3_append_27 : decode cX3_append 27 = .ok (.getfield 23, 3) := by decide +kernel
theorem dX3_append_30 : decode cX3_append 30 = .ok (.lload_n 1, 1) := by decide +kernel
theorem dX3_append_31 : decode cX3_append 31 = .ok (.bipush 8, 2) := by decide +kernel
theorem dX3_append_33 : decode cX3_append 33 = .ok (.iload 4, 2) := by decide +kernel
theorem dX3_append_35 : decode cX3_append 35 = .ok (.imul, 1) := by decide +kernel
theorem dX3_append_36 : decode cX3_append 36 = .ok (.lushr, 1) := by decide +kernel
theorem dX3_append_37 : decode cX3_append 37 = .ok (.l2i, 1) := by decide +kernel
theorem dX3_append_38 : decode cX3_append 38 = .ok (.i2b, 1) := by decide +kernel
theorem dX3_append_39 : decode cX3_append 39 = .ok (.bastore, 1) := by decide +kernel
theorem dX3_append_40 : decode cX3_append 40 = .ok (.aload_n 0, 1) := by decide +kernel
theorem dX3_append_41 : decode cX3_append 41 = .ok (.dup, 1) := by decide +kernel
theorem dX3_append_42 : decode cX3_append 42 = .ok (.getfield 23, 3) := by decide +kernel
theorem dX3_append_45 : decode cX3_append 45 = .ok (.iconst 1, 1) := by decide +kernel
theorem dX3_append_46 : decode cX3_append 46 = .ok (.iadd, 1) := by decide +kernel
theorem dX3_append_47 : decode cX3_append 47 = .ok (.putfield 23, 3) := by decide +kernel
theorem dX3_append_50 : decode cX3_append 50 = .ok (.iinc 4 (-1), 3) := by decide +kernel
theorem dX3_append_53 : decode cX3_append 53 = .ok (.goto (-48), 3) := by decide +kernel
theorem dX3_append_56 : decode cX3_append 56 = .ok (.aload_n 0, 1) := by decide +kernel
theorem dX3_append_57 : decode cX3_append 57 = .ok (.invokevirtual 20, 3) := by decide +kernel
theorem dX3_append_60 : decode cX3_append 60 = .ok (.return_, 1) := by decide +kernel
theorem dX3_keepFirst_0 : decode cX3_keepFirst 0 = .ok (.aload_n 0, 1) := by decide +kernel
theorem dX3_keepFirst_1 : decode cX3_keepFirst 1 = .ok (.iload_n 1, 1) := by decide +kernel
theorem dX3_keepFirst_2 : decode cX3_keepFirst 2 = .ok (.putfield 23, 3) := by decide +kernel
theorem dX3_keepFirst_5 : decode cX3_keepFirst 5 = .ok (.aload_n 0, 1) := by decide +kernel
theorem dX3_keepFirst_6 : decode cX3_keepFirst 6 = .ok (.invokevirtual 20, 3) := by decide +kernel
theorem dX3_keepFirst_9 : decode cX3_keepFirst 9 = .ok (.return_, 1) := by decide +kernel
theorem dX3_hashByte_0 : decode cX3_hashByte 0 = .ok (.aload_n 0, 1) := by decide +kernel
theorem dX3_hashByte_1 : decode cX3_hashByte 1 = .ok (.getfield 16, 3) := by decide +kernel
theorem dX3_hashByte_4 : decode cX3_hashByte 4 = .ok (.iload_n 1, 1) := by decide +kernel
theorem dX3_hashByte_5 : decode cX3_hashByte 5 = .ok (.invokevirtual 27, 3) := by decide +kernel
theorem dX3_hashByte_8 : decode cX3_hashByte 8 = .ok (.ireturn, 1) := by decide +kernel
theorem dX3_makeHash_0 : decode cX3_makeHash 0 = .ok (.aload_n 0, 1) := by decide +kernel
theorem dX3_makeHash_1 : decode cX3_makeHash 1 = .ok (.getfield 16, 3) := by decide +kernel
theorem dX3_makeHash_4 : decode cX3_makeHash 4 = .ok (.aload_n 0, 1) := by decide +kernel
theorem dX3_makeHash_5 : decode cX3_makeHash 5 = .ok (.getfield 9, 3) := by decide +kernel
theorem dX3_makeHash_8 : decode cX3_makeHash 8 = .ok (.aload_n 0, 1) := by decide +kernel
theorem dX3_makeHash_9 : decode cX3_makeHash 9 = .ok (.getfield 23, 3) := by decide +kernel
theorem dX3_makeHash_12 : decode cX3_makeHash 12 = .ok (.invokevirtual 31, 3) := by decide +kernel
theorem dX3_makeHash_15 : decode cX3_makeHash 15 = .ok (.return_, 1) := by decide +kernel
theorem dX4_init_0 : decode cX4_init 0 = .ok (.aload_n 0, 1) := by decide +kernel
theorem dX4_init_1 : decode cX4_init 1 = .ok (.invokespecial 1, 3) := by decide +kernel
theorem dX4_init_4 : decode cX4_init 4 = .ok (.aload_n 0, 1) := by decide +kernel
theorem dX4_init_5 : decode cX4_init 5 = .ok (.iconst 1, 1) := by decide +kernel
theorem dX4_init_6 : decode cX4_init 6 = .ok (.iload_n 1, 1) := by decide +kernel
theorem dX4_init_7 : decode cX4_init 7 = .ok (.invokestatic 7, 3) := by decide +kernel
theorem dX4_init_10 : decode cX4_init 10 = .ok (.putfield 13, 3) := by decide +kernel
theorem dX4_init_13 : decode cX4_init 13 = .ok (.aload_n 0, 1) := by decide +kernel
theorem dX4_init_14 : decode cX4_init 14 = .ok (.aload_n 0, 1) := by decide +kernel
theorem dX4_init_15 : decode cX4_init 15 = .ok (.getfield 13, 3) := by decide +kernel
theorem dX4_init_18 : decode cX4_init 18 = .ok (.newarray .long, 2) := by decide +kernel
theorem dX4_init_20 : decode cX4_init 20 = .ok (.putfield 19, 3) := by decide +kernel
theorem dX4_init_23 : decode cX4_init 23 = .ok (.aload_n 0, 1) := by decide +kernel
theorem dX4_init_24 : decode cX4_init 24 = .ok (.aload_n 0, 1) := by decide +kernel
theorem dX4_init_25 : decode cX4_init 25 = .ok (.getfield 13, 3) := by decide +kernel
theorem dX4_init_28 : decode cX4_init 28 = .ok (.newarray .long, 2) := by decide +kernel
theorem dX4_init_30 : decode cX4_init 30 = .ok (.putfield 23, 3) := by decide +kernel
theorem dX4_init_33 : decode cX4_init 33 = .ok (.aload_n 0, 1) := by decide +kernel
theorem dX4_init_34 : decode cX4_init 34 = .ok (.aload_n 0, 1) := by decide +kernel
theorem dX4_init_35 : decode cX4_init 35 = .ok (.getfield 13, 3) := by decide +kernel
theorem dX4_init_38 : decode cX4_init 38 = .ok (.newarray .long, 2) := by decide +kernel
theorem dX4_init_40 : decode cX4_init 40 = .ok (.putfield 26, 3) := by decide +kernel
theorem dX4_init_43 : decode cX4_init 43 = .ok (.aload_n 0, 1) := by decide +kernel
theorem dX4_init_44 : decode cX4_init 44 = .ok (.aload_n 0, 1) := by decide +kernel
theorem dX4_init_45 : decode cX4_init 45 = .ok (.getfield 13, 3) := by decide +kernel
theorem dX4_init_48 : decode cX4_init 48 = .ok (.newarray .long, 2) := by decide +kernel
theorem dX4_init_50 : decode cX4_init 50 = .ok (.putfield 29, 3) := by decide +kernel
theorem dX4_init_53 : decode cX4_init 53 = .ok (.aload_n 0, 1) := by decide +kernel
theorem dX4_init_54 : decode cX4_init 54 = .ok (.aload_n 0, 1) := by decide +kernel
theorem dX4_init_55 : decode cX4_init 55 = .ok (.getfield 13, 3) := by decide +kernel
theorem dX4_init_58 : decode cX4_init 58 = .ok (.newarray .long, 2) := by decide +kernel
theorem dX4_init_60 : decode cX4_init 60 = .ok (.putfield 32, 3) := by decide +kernel
theorem dX4_init_63 : decode cX4_init 63 = .ok (.aload_n 0, 1) := by decide +kernel
theorem dX4_init_64 : decode cX4_init 64 = .ok (.aload_n 0, 1) := by decide +kernel
theorem dX4_init_65 : decode cX4_init 65 = .ok (.getfield 13, 3) := by decide +kernel
theorem dX4_init_68 : decode cX4_init 68 = .ok (.newarray .long, 2) := by decide +kernel
theorem dX4_init_70 : decode cX4_init 70 = .ok (.putfield 35, 3) := by decide +kernel
theorem dX4_init_73 : decode cX4_init 73 = .ok (.aload_n 0, 1) := by decide +kernel
theorem dX4_init_74 : decode cX4_init 74 = .ok (.aload_n 0, 1) := by decide +kernel
theorem dX4_init_75 : decode cX4_init 75 = .ok (.getfield 13, 3) := by decide +kernel
theorem dX4_init_78 : decode cX4_init 78 = .ok (.iconst 2, 1) := by decide +kernel
theorem dX4_init_79 : decode cX4_init 79 = .ok (.iadd, 1) := by decide +kernel
theorem dX4_init_80 : decode cX4_init 80 = .ok (.newarray .long, 2) := by decide +kernel
theorem dX4_init_82 : decode cX4_init 82 = .ok (.putfield 38, 3) := by decide +kernel
theorem dX4_init_85 : decode cX4_init 85 = .ok (.return_, 1) := by decide +kernel
theorem dX4_choose_0 : decode cX4_choose 0 = .ok (.aload_n 0, 1) := by decide +kernel
theorem dX4_choose_1 : decode cX4_choose 1 = .ok (.getfield 19, 3) := by decide +kernel
theorem dX4_choose_4 : decode cX4_choose 4 = .ok (.aload_n 1, 1) := by decide +kernel
theorem dX4_choose_5 : decode cX4_choose 5 = .ok (.invokestatic 41, 3) := by decide +kernel
theorem dX4_choose_8 : decode cX4_choose 8 = .ok (.aload_n 0, 1) := by decide +kernel
theorem dX4_choose_9 : decode cX4_choose 9 = .ok (.aload_n 0, 1) := by decide +kernel
theorem dX4_choose_10 : decode cX4_choose 10 = .ok (.invokevirtual 47, 3) := by decide +kernel
theorem dX4_choose_13 : decode cX4_choose 13 = .ok (.lneg, 1) := by decide +kernel
theorem dX4_choose_14 : decode cX4_choose 14 = .ok (.ldc2_w 51, 3) := by decide +kernel
theorem dX4_choose_17 : decode cX4_choose 17 = .ok (.land, 1) := by decide +kernel
theorem dX4_choose_18 : decode cX4_choose 18 = .ok (.putfield 53, 3) := by decide +kernel
theorem dX4_choose_21 : decode cX4_choose 21 = .ok (.aload_n 0, 1) := by decide +kernel
theorem dX4_choose_22 : decode cX4_choose 22 = .ok (.getfield 23, 3) := by decide +kernel
theorem dX4_choose_25 : decode cX4_choose 25 = .ok (.lconst 1, 1) := by decide +kernel
theorem dX4_choose_26 : decode cX4_choose 26 = .ok (.invokestatic 57, 3) := by decide +kernel
theorem dX4_choose_29 : decode cX4_choose 29 = .ok (.aload_n 0, 1) := by decide +kernel
theorem dX4_choose_30 : decode cX4_choose 30 = .ok (.getfield 26, 3) := by decide +kernel
theorem dX4_choose_33 : decode cX4_choose 33 = .ok (.aload_n 0, 1) := by decide +kernel
theorem dX4_choose_34 : decode cX4_choose 34 = .ok (.getfield 23, 3) := by decide +kernel
theorem dX4_choose_37 : decode cX4_choose 37 = .ok (.invokestatic 41, 3) := by decide +kernel
theorem dX4_choose_40 : decode cX4_choose 40 = .ok (.iconst 0, 1) := by decide +kernel
theorem dX4_choose_41 : decode cX4_choose 41 = .ok (.istore_n 2, 1) := by decide +kernel
theorem dX4_choose_42 : decode cX4_choose 42 = .ok (.iload_n 2, 1) := by decide +kernel
theorem dX4_choose_43 : decode cX4_choose 43 = .ok (.bipush 32, 2) := by decide +kernel
theorem dX4_choose_45 : decode cX4_choose 45 = .ok (.aload_n 0, 1) := by decide +kernel
theorem dX4_choose_46 : decode cX4_choose 46 = .ok (.getfield 13, 3) := by decide +kernel
theorem dX4_choose_49 : decode cX4_choose 49 = .ok (.imul, 1) := by decide +kernel
theorem dX4_choose_50 : decode cX4_choose 50 = .ok (.if_icmp .ge 18, 3) := by decide +kernel
theorem dX4_choose_53 : decode cX4_choose 53 = .ok (.aload_n 0, 1) := by decide +kernel
theorem dX4_choose_54 : decode cX4_choose 54 = .ok (.aload_n 0, 1) := by decide +kernel
theorem dX4_choose_55 : decode cX4_choose 55 = .ok (.getfield 26, 3) := by decide +kernel
theorem dX4_choose_58 : decode cX4_choose 58 = .ok (.iconst 0, 1) := by decide +kernel
theorem dX4_choose_59 : decode cX4_choose 59 = .ok (.invokevirtual 61, 3) := by decide +kernel
theorem dX4_choose_62 : decode cX4_choose 62 = .ok (.iinc 2 1, 3) := by decide +kernel
theorem dX4_choose_65 : decode cX4_choose 65 = .ok (.goto (-23), 3) := by decide +kernel
theorem dX4_choose_68 : decode cX4_choose 68 = .ok (.aload_n 0, 1) := by decide +kernel
theorem dX4_choose_69 : decode cX4_choose 69 = .ok (.getfield 29, 3) := by decide +kernel
theorem dX4_choose_72 : decode cX4_choose 72 = .ok (.aload_n 0, 1) := by decide +kernel
theorem dX4_choose_73 : decode cX4_choose 73 = .ok (.getfield 26, 3) := by decide +kernel
theorem dX4_choose_76 : decode cX4_choose 76 = .ok (.invokestatic 41, 3) := by decide +kernel
theorem dX4_choose_79 : decode cX4_choose 79 = .ok (.iconst 0, 1) := by decide +kernel
theorem dX4_choose_80 : decode cX4_choose 80 = .ok (.istore_n 2, 1) := by decide +kernel
theorem dX4_choose_81 : decode cX4_choose 81 = .ok (.iload_n 2, 1) := by decide +kernel
theorem dX4_choose_82 : decode cX4_choose 82 = .ok (.bipush 32, 2) := by decide +kernel
theorem dX4_choose_84 : decode cX4_choose 84 = .ok (.aload_n 0, 1) := by decide +kernel
theorem dX4_choose_85 : decode cX4_choose 85 = .ok (.getfield 13, 3) := by decide +kernel
theorem dX4_choose_88 : decode cX4_choose 88 = .ok (.imul, 1) := by decide +kernel
theorem dX4_choose_89 : decode cX4_choose 89 = .ok (.if_icmp .ge 18, 3) := by decide +kernel
theorem dX4_choose_92 : decode cX4_choose 92 = .ok (.aload_n 0, 1) := by decide +kernel
theorem dX4_choose_93 : decode cX4_choose 93 = .ok (.aload_n 0, 1) := by decide +kernel
theorem dX4_choose_94 : decode cX4_choose 94 = .ok (.getfield 29, 3) := by decide +kernel
theorem dX4_choose_97 : decode cX4_choose 97 = .ok (.iconst 0, 1) := by decide +kernel
theorem dX4_choose_98 : decode cX4_choose 98 = .ok (.invokevirtual 61, 3) := by decide +kernel
theorem dX4_choose_101 : decode cX4_choose 101 = .ok (.iinc 2 1, 3) := by decide +kernel
theorem dX4_choose_104 : decode cX4_choose 104 = .ok (.goto (-23), 3) := by decide +kernel
theorem dX4_choose_107 : decode cX4_choose 107 = .ok (.return_, 1) := by decide +kernel
theorem dX4_inverseOfLowLimb_0 : decode cX4_inverseOfLowLimb 0 = .ok (.aload_n 0, 1) := by decide +kernel
theorem dX4_inverseOfLowLimb_1 : decode cX4_inverseOfLowLimb 1 = .ok (.getfield 19, 3) := by decide +kernel
theorem dX4_inverseOfLowLimb_4 : decode cX4_inverseOfLowLimb 4 = .ok (.iconst 0, 1) := by decide +kernel
theorem dX4_inverseOfLowLimb_5 : decode cX4_inverseOfLowLimb 5 = .ok (.laload, 1) := by decide +kernel
theorem dX4_inverseOfLowLimb_6 : decode cX4_inverseOfLowLimb 6 = .ok (.lstore_n 1, 1) := by decide +kernel
theorem dX4_inverseOfLowLimb_7 : decode cX4_inverseOfLowLimb 7 = .ok (.lload_n 1, 1) := by decide +kernel
theorem dX4_inverseOfLowLimb_8 : decode cX4_inverseOfLowLimb 8 = .ok (.lstore_n 3, 1) := by decide +kernel
theorem dX4_inverseOfLowLimb_9 : decode cX4_inverseOfLowLimb 9 = .ok (.iconst 3, 1) := by decide +kernel
theorem dX4_inverseOfLowLimb_10 : decode cX4_inverseOfLowLimb 10 = .ok (.istore 5, 2) := by decide +kernel
theorem dX4_inverseOfLowLimb_12 : decode cX4_inverseOfLowLimb 12 = .ok (.iload 5, 2) := by decide +kernel
theorem dX4_inverseOfLowLimb_14 : decode cX4_inverseOfLowLimb 14 = .ok (.bipush 32, 2) := by decide +kernel
theorem dX4_inverseOfLowLimb_16 : decode cX4_inverseOfLowLimb 16 = .ok (.if_icmp .ge 22, 3) := by decide +kernel
theorem dX4_inverseOfLowLimb_19 : decode cX4_inverseOfLowLimb 19 = .ok (.lload_n 3, 1) := by decide +kernel
theorem dX4_inverseOfLowLimb_20 : decode cX4_inverseOfLowLimb 20 = .ok (.ldc2_w 65, 3) := by decide +kernel
theorem dX4_inverseOfLowLimb_23 : decode cX4_inverseOfLowLimb 23 = .ok (.lload_n 1, 1) := by decide +kernel
theorem dX4_inverseOfLowLimb_24 : decode cX4_inverseOfLowLimb 24 = .ok (.lload_n 3, 1) := by decide +kernel
theorem dX4_inverseOfLowLimb_25 : decode cX4_inverseOfLowLimb 25 = .ok (.lmul, 1) := by decide +kernel
theorem dX4_inverseOfLowLimb_26 : decode cX4_inverseOfLowLimb 26 = .ok (.lsub, 1) := by decide +kernel
theorem dX4_inverseOfLowLimb_27 : decode cX4_inverseOfLowLimb 27 = .ok (.lmul, 1) := by decide +kernel
theorem dX4_inverseOfLowLimb_28 : decode cX4_inverseOfLowLimb 28 = .ok (.lstore_n 3, 1) := by decide +kernel
theorem dX4_inverseOfLowLimb_29 : decode cX4_inverseOfLowLimb 29 = .ok (.iload 5, 2) := by decide +kernel
theorem dX4_inverseOfLowLimb_31 : decode cX4_inverseOfLowLimb 31 = .ok (.iconst 2, 1) := by decide +kernel
theorem dX4_inverseOfLowLimb_32 : decode cX4_inverseOfLowLimb 32 = .ok (.imul, 1) := by decide +kernel
theorem dX4_inverseOfLowLimb_33 : decode cX4_inverseOfLowLimb 33 = .ok (.istore 5, 2) := by decide +kernel
theorem dX4_inverseOfLowLimb_35 : decode cX4_inverseOfLowLimb 35 = .ok (.goto (-23), 3) := by decide +kernel
theorem dX4_inverseOfLowLimb_38 : decode cX4_inverseOfLowLimb 38 = .ok (.lload_n 3, 1) := by decide +kernel
theorem dX4_inverseOfLowLimb_39 : decode cX4_inverseOfLowLimb 39 = .ok (.lreturn, 1) := by decide +kernel
theorem dX4_reduce_0 : decode cX4_reduce 0 = .ok (.aload_n 1, 1) := by decide +kernel
theorem dX4_reduce_1 : decode cX4_reduce 1 = .ok (.arraylength, 1) := by decide +kernel
theorem dX4_reduce_2 : decode cX4_reduce 2 = .ok (.aload_n 0, 1) := by decide +kernel
theorem dX4_reduce_3 : decode cX4_reduce 3 = .ok (.getfield 13, 3) := by decide +kernel
theorem dX4_reduce_6 : decode cX4_reduce 6 = .ok (.if_icmp .eq 4, 3) := by decide +kernel
theorem dX4_reduce_9 : decode cX4_reduce 9 = .ok (.return_, 1) := by decide +kernel
theorem dX4_reduce_10 : decode cX4_reduce 10 = .ok (.aload_n 1, 1) := by decide +kernel
theorem dX4_reduce_11 : decode cX4_reduce 11 = .ok (.lconst 0, 1) := by decide +kernel
theorem dX4_reduce_12 : decode cX4_reduce 12 = .ok (.invokestatic 67, 3) := by decide +kernel
theorem dX4_reduce_15 : decode cX4_reduce 15 = .ok (.aload_n 2, 1) := by decide +kernel
theorem dX4_reduce_16 : decode cX4_reduce 16 = .ok (.invokestatic 72, 3) := by decide +kernel
theorem dX4_reduce_19 : decode cX4_reduce 19 = .ok (.iconst 1, 1) := by decide +kernel
theorem dX4_reduce_20 : decode cX4_reduce 20 = .ok (.isub, 1) := by decide +kernel
theorem dX4_reduce_21 : decode cX4_reduce 21 = .ok (.istore_n 3, 1) := by decide +kernel
theorem dX4_reduce_22 : decode cX4_reduce 22 = .ok (.iload_n 3, 1) := by decide +kernel
theorem dX4_reduce_23 : decode cX4_reduce 23 = .ok (.ifCond .lt 19, 3) := by decide +kernel
theorem dX4_reduce_26 : decode cX4_reduce 26 = .ok (.aload_n 0, 1) := by decide +kernel
theorem dX4_reduce_27 : decode cX4_reduce 27 = .ok (.aload_n 1, 1) := by decide +kernel
theorem dX4_reduce_28 : decode cX4_reduce 28 = .ok (.aload_n 2, 1) := by decide +kernel
theorem dX4_reduce_29 : decode cX4_reduce 29 = .ok (.iload_n 3, 1) := by decide +kernel
theorem dX4_reduce_30 : decode cX4_reduce 30 = .ok (.invokestatic 76, 3) := by decide +kernel
theorem dX4_reduce_33 : decode cX4_reduce 33 = .ok (.invokevirtual 61, 3) := by decide +kernel
theorem dX4_reduce_36 : decode cX4_reduce 36 = .ok (.iinc 3 (-1), 3) := by decide +kernel
theorem dX4_reduce_39 : decode cX4_reduce 39 = .ok (.goto (-17), 3) := by decide +kernel
theorem dX4_reduce_42 : decode cX4_reduce 42 = .ok (.return_, 1) := by decide +kernel
theorem dX4_raise_0 : decode cX4_raise 0 = .ok (.aload_n 0, 1) := by decide +kernel
theorem dX4_raise_1 : decode cX4_raise 1 = .ok (.aload_n 0, 1) := by decide +kernel
theorem dX4_raise_2 : decode cX4_raise 2 = .ok (.getfield 32, 3) := by decide +kernel
theorem dX4_raise_5 : decode cX4_raise 5 = .ok (.aload_n 2, 1) := by decide +kernel
theorem dX4_raise_6 : decode cX4_raise 6 = .ok (.aload_n 0, 1) := by decide +kernel
theorem dX4_raise_7 : decode cX4_raise 7 = .ok (.getfield 29, 3) := by decide +kernel
theorem dX4_raise_10 : decode cX4_raise 10 = .ok (.invokevirtual 80, 3) := by decide +kernel
theorem dX4_raise_13 : decode cX4_raise 13 = .ok (.aload_n 0, 1) := by decide +kernel
theorem dX4_raise_14 : decode cX4_raise 14 = .ok (.getfield 35, 3) := by decide +kernel
theorem dX4_raise_17 : decode cX4_raise 17 = .ok (.aload_n 0, 1) := by decide +kernel
theorem dX4_raise_18 : decode cX4_raise 18 = .ok (.getfield 26, 3) := by decide +kernel
theorem dX4_raise_21 : decode cX4_raise 21 = .ok (.invokestatic 41, 3) := by decide +kernel
theorem dX4_raise_24 : decode cX4_raise 24 = .ok (.aload_n 3, 1) := by decide +kernel
theorem dX4_raise_25 : decode cX4_raise 25 = .ok (.invokestatic 72, 3) := by decide +kernel
theorem dX4_raise_28 : decode cX4_raise 28 = .ok (.iconst 1, 1) := by decide +kernel
theorem dX4_raise_29 : decode cX4_raise 29 = .ok (.isub, 1) := by decide +kernel
theorem dX4_raise_30 : decode cX4_raise 30 = .ok (.istore 4, 2) := by decide +kernel
theorem dX4_raise_32 : decode cX4_raise 32 = .ok (.iload 4, 2) := by decide +kernel
theorem dX4_raise_34 : decode cX4_raise 34 = .ok (.ifCond .lt 50, 3) := by decide +kernel
theorem dX4_raise_37 : decode cX4_raise 37 = .ok (.aload_n 0, 1) := by decide +kernel
theorem dX4_raise_38 : decode cX4_raise 38 = .ok (.aload_n 0, 1) := by decide +kernel
theorem dX4_raise_39 : decode cX4_raise 39 = .ok (.getfield 35, 3) := by decide +kernel
theorem dX4_raise_42 : decode cX4_raise 42 = .ok (.aload_n 0, 1) := by decide +kernel
theorem dX4_raise_43 : decode cX4_raise 43 = .ok (.getfield 35, 3) := by decide +kernel
theorem dX4_raise_46 : decode cX4_raise 46 = .ok (.aload_n 0, 1) := by decide +kernel
theorem dX4_raise_47 : decode cX4_raise 47 = .ok (.getfield 35, 3) := by decide +kernel
theorem dX4_raise_50 : decode cX4_raise 50 = .ok (.invokevirtual 80, 3) := by decide +kernel
theorem dX4_raise_53 : decode cX4_raise 53 = .ok (.aload_n 3, 1) := by decide +kernel
theorem dX4_raise_54 : decode cX4_raise 54 = .ok (.iload 4, 2) := by decide +kernel
theorem dX4_raise_56 : decode cX4_raise 56 = .ok (.invokestatic 76, 3) := by decide +kernel
theorem dX4_raise_59 : decode cX4_raise 59 = .ok (.ifCond .eq 19, 3) := by decide +kernel
theorem dX4_raise_62 : decode cX4_raise 62 = .ok (.aload_n 0, 1) := by decide +kernel
theorem dX4_raise_63 : decode cX4_raise 63 = .ok (.aload_n 0, 1) := by decide +kernel
theorem dX4_raise_64 : decode cX4_raise 64 = .ok (.getfield 35, 3) := by decide +kernel
theorem dX4_raise_67 : decode cX4_raise 67 = .ok (.aload_n 0, 1) := by decide +kernel
theorem dX4_raise_68 : decode cX4_raise 68 = .ok (.getfield 35, 3) := by decide +kernel
theorem dX4_raise_71 : decode cX4_raise 71 = .ok (.aload_n 0, 1) := by decide +kernel
theorem dX4_raise_72 : decode cX4_raise 72 = .ok (.getfield 32, 3) := by decide +kernel
theorem dX4_raise_75 : decode cX4_raise 75 = .ok (.invokevirtual 80, 3) := by decide +kernel
theorem dX4_raise_78 : decode cX4_raise 78 = .ok (.iinc 4 (-1), 3) := by decide +kernel
theorem dX4_raise_81 : decode cX4_raise 81 = .ok (.goto (-49), 3) := by decide +kernel
theorem dX4_raise_84 : decode cX4_raise 84 = .ok (.aload_n 0, 1) := by decide +kernel
theorem dX4_raise_85 : decode cX4_raise 85 = .ok (.aload_n 1, 1) := by decide +kernel
theorem dX4_raise_86 : decode cX4_raise 86 = .ok (.aload_n 0, 1) := by decide +kernel
theorem dX4_raise_87 : decode cX4_raise 87 = .ok (.getfield 35, 3) := by decide +kernel
theorem dX4_raise_90 : decode cX4_raise 90 = .ok (.aload_n 0, 1) := by decide +kernel
theorem dX4_raise_91 : decode cX4_raise 91 = .ok (.getfield 23, 3) := by decide +kernel
theorem dX4_raise_94 : decode cX4_raise 94 = .ok (.invokevirtual 80, 3) := by decide +kernel
theorem dX4_raise_97 : decode cX4_raise 97 = .ok (.return_, 1) := by decide +kernel
theorem dX4_times_0 : decode cX4_times 0 = .ok (.aload_n 0, 1) := by decide +kernel
theorem dX4_times_1 : decode cX4_times 1 = .ok (.aload_n 0, 1) := by decide +kernel
theorem dX4_times_2 : decode cX4_times 2 = .ok (.getfield 32, 3) := by decide +kernel
theorem dX4_times_5 : decode cX4_times 5 = .ok (.aload_n 2, 1) := by decide +kernel
theorem dX4_times_6 : decode cX4_times 6 = .ok (.aload_n 0, 1) := by decide +kernel
theorem dX4_times_7 : decode cX4_times 7 = .ok (.getfield 29, 3) := by decide +kernel
theorem dX4_times_10 : decode cX4_times 10 = .ok (.invokevirtual 80, 3) := by decide +kernel
theorem dX4_times_13 : decode cX4_times 13 = .ok (.aload_n 0, 1) := by decide +kernel
theorem dX4_times_14 : decode cX4_times 14 = .ok (.aload_n 1, 1) := by decide +kernel
theorem dX4_times_15 : decode cX4_times 15 = .ok (.aload_n 0, 1) := by decide +kernel
theorem dX4_times_16 : decode cX4_times 16 = .ok (.getfield 32, 3) := by decide +kernel
theorem dX4_times_19 : decode cX4_times 19 = .ok (.aload_n 3, 1) := by decide +kernel
theorem dX4_times_20 : decode cX4_times 20 = .ok (.invokevirtual 80, 3) := by decide +kernel
theorem dX4_times_23 : decode cX4_times 23 = .ok (.return_, 1) := by decide +kernel
theorem dX4_twice_0 : decode cX4_twice 0 = .ok (.iload_n 2, 1) := by decide +kernel
theorem dX4_twice_1 : decode cX4_twice 1 = .ok (.ifCond .eq 7, 3) := by decide +kernel
theorem dX4_twice_4 : decode cX4_twice 4 = .ok (.lconst 1, 1) := by decide +kernel
theorem dX4_twice_5 : decode cX4_twice 5 = .ok (.goto 4, 3) := by decide +kernel
theorem dX4_twice_8 : decode cX4_twice 8 = .ok (.lconst 0, 1) := by decide +kernel
theorem dX4_twice_9 : decode cX4_twice 9 = .ok (.lstore_n 3, 1) := by decide +kernel
theorem dX4_twice_10 : decode cX4_twice 10 = .ok (.iconst 0, 1) := by decide +kernel
theorem dX4_twice_11 : decode cX4_twice 11 = .ok (.istore 5, 2) := by decide +kernel
theorem dX4_twice_13 : decode cX4_twice 13 = .ok (.iload 5, 2) := by decide +kernel
theorem dX4_twice_15 : decode cX4_twice 15 = .ok (.aload_n 1, 1) := by decide +kernel
theorem dX4_twice_16 : decode cX4_twice 16 = .ok (.arraylength, 1) := by decide +kernel
theorem dX4_twice_17 : decode cX4_twice 17 = .ok (.if_icmp .ge 35, 3) := by decide +kernel
theorem dX4_twice_20 : decode cX4_twice 20 = .ok (.aload_n 1, 1) := by decide +kernel
theorem dX4_twice_21 : decode cX4_twice 21 = .ok (.iload 5, 2) := by decide +kernel
theorem dX4_twice_23 : decode cX4_twice 23 = .ok (.laload, 1) := by decide +kernel
theorem dX4_twice_24 : decode cX4_twice 24 = .ok (.iconst 1, 1) := by decide +kernel
theorem dX4_twice_25 : decode cX4_twice 25 = .ok (.lshl, 1) := by decide +kernel
theorem dX4_twice_26 : decode cX4_twice 26 = .ok (.lload_n 3, 1) := by decide +kernel
theorem dX4_twice_27 : decode cX4_twice 27 = .ok (.lor, 1) := by decide +kernel
theorem dX4_twice_28 : decode cX4_twice 28 = .ok (.lstore 6, 2) := by decide +kernel
theorem dX4_twice_30 : decode cX4_twice 30 = .ok (.aload_n 1, 1) := by decide +kernel
theorem dX4_twice_31 : decode cX4_twice 31 = .ok (.iload 5, 2) := by decide +kernel
theorem dX4_twice_33 : decode cX4_twice 33 = .ok (.lload 6, 2) := by decide +kernel
theorem dX4_twice_35 : decode cX4_twice 35 = .ok (.ldc2_w 51, 3) := by decide +kernel
theorem dX4_twice_38 : decode cX4_twice 38 = .ok (.land, 1) := by decide +kernel
theorem dX4_twice_39 : decode cX4_twice 39 = .ok (.lastore, 1) := by decide +kernel
theorem dX4_twice_40 : decode cX4_twice 40 = .ok (.lload 6, 2) := by decide +kernel
theorem dX4_twice_42 : decode cX4_twice 42 = .ok (.bipush 32, 2) := by decide +kernel
theorem dX4_twice_44 : decode cX4_twice 44 = .ok (.lushr, 1) := by decide +kernel
theorem dX4_twice_45 : decode cX4_twice 45 = .ok (.lstore_n 3, 1) := by decide +kernel
theorem dX4_twice_46 : decode cX4_twice 46 = .ok (.iinc 5 1, 3) := by decide +kernel
theorem dX4_twice_49 : decode cX4_twice 49 = .ok (.goto (-36), 3) := by decide +kernel
theorem dX4_twice_52 : decode cX4_twice 52 = .ok (.lload_n 3, 1) := by decide +kernel
theorem dX4_twice_53 : decode cX4_twice 53 = .ok (.lconst 0, 1) := by decide +kernel
theorem dX4_twice_54 : decode cX4_twice 54 = .ok (.lcmp, 1) := by decide +kernel
theorem dX4_twice_55 : decode cX4_twice 55 = .ok (.ifCond .ne 14, 3) := by decide +kernel
theorem dX4_twice_58 : decode cX4_twice 58 = .ok (.aload_n 1, 1) := by decide +kernel
theorem dX4_twice_59 : decode cX4_twice 59 = .ok (.aload_n 0, 1) := by decide +kernel
theorem dX4_twice_60 : decode cX4_twice 60 = .ok (.getfield 19, 3) := by decide +kernel
theorem dX4_twice_63 : decode cX4_twice 63 = .ok (.invokestatic 84, 3) := by decide +kernel
theorem dX4_twice_66 : decode cX4_twice 66 = .ok (.ifCond .lt 13, 3) := by decide +kernel
theorem dX4_twice_69 : decode cX4_twice 69 = .ok (.aload_n 1, 1) := by decide +kernel
theorem dX4_twice_70 : decode cX4_twice 70 = .ok (.aload_n 1, 1) := by decide +kernel
theorem dX4_twice_71 : decode cX4_twice 71 = .ok (.aload_n 0, 1) := by decide +kernel
theorem dX4_twice_72 : decode cX4_twice 72 = .ok (.getfield 19, 3) := by decide +kernel
theorem dX4_twice_75 : decode cX4_twice 75 = .ok (.invokestatic 88, 3) := by decide +kernel
theorem dX4_twice_78 : decode cX4_twice 78 = .ok (.pop, 1) := by decide +kernel
theorem dX4_twice_79 : decode cX4_twice 79 = .ok (.return_, 1) := by decide +kernel
theorem dX4_multiplyCarried_0 : decode cX4_multiplyCarried 0 = .ok (.aload_n 1, 1) := by decide +kernel
theorem dX4_multiplyCarried_1 : decode cX4_multiplyCarried 1 = .ok (.arraylength, 1) := by decide +kernel
theorem dX4_multiplyCarried_2 : decode cX4_multiplyCarried 2 = .ok (.aload_n 0, 1) := by decide +kernel
theorem dX4_multiplyCarried_3 : decode cX4_multiplyCarried 3 = .ok (.getfield 13, 3) := by decide +kernel
theorem dX4_multiplyCarried_6 : decode cX4_multiplyCarried 6 = .ok (.if_icmp .ne 21, 3) := by decide +kernel
theorem dX4_multiplyCarried_9 : decode cX4_multiplyCarried 9 = .ok (.aload_n 2, 1) := by decide +kernel
theorem dX4_multiplyCarried_10 : decode cX4_multiplyCarried 10 = .ok (.arraylength, 1) := by decide +kernel
theorem dX4_multiplyCarried_11 : decode cX4_multiplyCarried 11 = .ok (.aload_n 0, 1) := by decide +kernel
theorem dX4_multiplyCarried_12 : decode cX4_multiplyCarried 12 = .ok (.getfield 13, 3) := by decide +kernel
theorem dX4_multiplyCarried_15 : decode cX4_multiplyCarried 15 = .ok (.if_icmp .ne 12, 3) := by decide +kernel
theorem dX4_multiplyCarried_18 : decode cX4_multiplyCarried 18 = .ok (.aload_n 3, 1) := by decide +kernel
theorem dX4_multiplyCarried_19 : decode cX4_multiplyCarried 19 = .ok (.arraylength, 1) := by decide +kernel
theorem dX4_multiplyCarried_20 : decode cX4_multiplyCarried 20 = .ok (.aload_n 0, 1) := by decide +kernel
theorem dX4_multiplyCarried_21 : decode cX4_multiplyCarried 21 = .ok (.getfield 13, 3) := by decide +kernel
theorem dX4_multiplyCarried_24 : decode cX4_multiplyCarried 24 = .ok (.if_icmp .eq 4, 3) := by decide +kernel
theorem dX4_multiplyCarried_27 : decode cX4_multiplyCarried 27 = .ok (.return_, 1) := by decide +kernel
theorem dX4_multiplyCarried_28 : decode cX4_multiplyCarried 28 = .ok (.aload_n 0, 1) := by decide +kernel
theorem dX4_multiplyCarried_29 : decode cX4_multiplyCarried 29 = .ok (.getfield 38, 3) := by decide +kernel
theorem dX4_multiplyCarried_32 : decode cX4_multiplyCarried 32 = .ok (.lconst 0, 1) := by decide +kernel
theorem dX4_multiplyCarried_33 : decode cX4_multiplyCarried 33 = .ok (.invokestatic 67, 3) := by decide +kernel
theorem dX4_multiplyCarried_36 : decode cX4_multiplyCarried 36 = .ok (.iconst 0, 1) := by decide +kernel
theorem dX4_multiplyCarried_37 : decode cX4_multiplyCarried 37 = .ok (.istore 4, 2) := by decide +kernel
theorem dX4_multiplyCarried_39 : decode cX4_multiplyCarried 39 = .ok (.iload 4, 2) := by decide +kernel
theorem dX4_multiplyCarried_41 : decode cX4_multiplyCarried 41 = .ok (.aload_n 0, 1) := by decide +kernel
theorem dX4_multiplyCarried_42 : decode cX4_multiplyCarried 42 = .ok (.getfield 13, 3) := by decide +kernel
theorem dX4_multiplyCarried_45 : decode cX4_multiplyCarried 45 = .ok (.if_icmp .ge 22, 3) := by decide +kernel
theorem dX4_multiplyCarried_48 : decode cX4_multiplyCarried 48 = .ok (.aload_n 0, 1) := by decide +kernel
theorem dX4_multiplyCarried_49 : decode cX4_multiplyCarried 49 = .ok (.aload_n 2, 1) := by decide +kernel
theorem dX4_multiplyCarried_50 : decode cX4_multiplyCarried 50 = .ok (.aload_n 3, 1) := by decide +kernel
theorem dX4_multiplyCarried_51 : decode cX4_multiplyCarried 51 = .ok (.iload 4, 2) := by decide +kernel
theorem dX4_multiplyCarried_53 : decode cX4_multiplyCarried 53 = .ok (.laload, 1) := by decide +kernel
theorem dX4_multiplyCarried_54 : decode cX4_multiplyCarried 54 = .ok (.invokevirtual 92, 3) := by decide +kernel
theorem dX4_multiplyCarried_57 : decode cX4_multiplyCarried 57 = .ok (.aload_n 0, 1) := by decide +kernel
theorem dX4_multiplyCarried_58 : decode cX4_multiplyCarried 58 = .ok (.invokevirtual 95, 3) := by decide +kernel
theorem dX4_multiplyCarried_61 : decode cX4_multiplyCarried 61 = .ok (.iinc 4 1, 3) := by decide +kernel
theorem dX4_multiplyCarried_64 : decode cX4_multiplyCarried 64 = .ok (.goto (-25), 3) := by decide +kernel
theorem dX4_multiplyCarried_67 : decode cX4_multiplyCarried 67 = .ok (.aload_n 1, 1) := by decide +kernel
theorem dX4_multiplyCarried_68 : decode cX4_multiplyCarried 68 = .ok (.aload_n 0, 1) := by decide +kernel
theorem dX4_multiplyCarried_69 : decode cX4_multiplyCarried 69 = .ok (.getfield 38, 3) := by decide +kernel
theorem dX4_multiplyCarried_72 : decode cX4_multiplyCarried 72 = .ok (.invokestatic 41, 3) := by decide +kernel
theorem dX4_multiplyCarried_75 : decode cX4_multiplyCarried 75 = .ok (.aload_n 0, 1) := by decide +kernel
theorem dX4_multiplyCarried_76 : decode cX4_multiplyCarried 76 = .ok (.getfield 38, 3) := by decide +kernel
theorem dX4_multiplyCarried_79 : decode cX4_multiplyCarried 79 = .ok (.aload_n 0, 1) := by decide +kernel
theorem dX4_multiplyCarried_80 : decode cX4_multiplyCarried 80 = .ok (.getfield 13, 3) := by decide +kernel
theorem dX4_multiplyCarried_83 : decode cX4_multiplyCarried 83 = .ok (.laload, 1) := by decide +kernel
theorem dX4_multiplyCarried_84 : decode cX4_multiplyCarried 84 = .ok (.lconst 0, 1) := by decide +kernel
theorem dX4_multiplyCarried_85 : decode cX4_multiplyCarried 85 = .ok (.lcmp, 1) := by decide +kernel
theorem dX4_multiplyCarried_86 : decode cX4_multiplyCarried 86 = .ok (.ifCond .ne 14, 3) := by decide +kernel
theorem dX4_multiplyCarried_89 : decode cX4_multiplyCarried 89 = .ok (.aload_n 1, 1) := by decide +kernel
theorem dX4_multiplyCarried_90 : decode cX4_multiplyCarried 90 = .ok (.aload_n 0, 1) := by decide +kernel
theorem dX4_multiplyCarried_91 : decode cX4_multiplyCarried 91 = .ok (.getfield 19, 3) := by decide +kernel
theorem dX4_multiplyCarried_94 : decode cX4_multiplyCarried 94 = .ok (.invokestatic 84, 3) := by decide +kernel
theorem dX4_multiplyCarried_97 : decode cX4_multiplyCarried 97 = .ok (.ifCond .lt 13, 3) := by decide +kernel
theorem dX4_multiplyCarried_100 : decode cX4_multiplyCarried 100 = .ok (.aload_n 1, 1) := by decide +kernel
theorem dX4_multiplyCarried_101 : decode cX4_multiplyCarried 101 = .ok (.aload_n 1, 1) := by decide +kernel
theorem dX4_multiplyCarried_102 : decode cX4_multiplyCarried 102 = .ok (.aload_n 0, 1) := by decide +kernel
theorem dX4_multiplyCarried_103 : decode cX4_multiplyCarried 103 = .ok (.getfield 19, 3) := by decide +kernel
theorem dX4_multiplyCarried_106 : decode cX4_multiplyCarried 106 = .ok (.invokestatic 88, 3) := by decide +kernel
theorem dX4_multiplyCarried_109 : decode cX4_multiplyCarried 109 = .ok (.pop, 1) := by decide +kernel
theorem dX4_multiplyCarried_110 : decode cX4_multiplyCarried 110 = .ok (.return_, 1) := by decide +kernel
theorem dX4_addProduct_0 : decode cX4_addProduct 0 = .ok (.lconst 0, 1) := by decide +kernel
theorem dX4_addProduct_1 : decode cX4_addProduct 1 = .ok (.lstore 4, 2) := by decide +kernel
theorem dX4_addProduct_3 : decode cX4_addProduct 3 = .ok (.iconst 0, 1) := by decide +kernel
theorem dX4_addProduct_4 : decode cX4_addProduct 4 = .ok (.istore 6, 2) := by decide +kernel
theorem dX4_addProduct_6 : decode cX4_addProduct 6 = .ok (.iload 6, 2) := by decide +kernel
theorem dX4_addProduct_8 : decode cX4_addProduct 8 = .ok (.aload_n 0, 1) := by decide +kernel
theorem dX4_addProduct_9 : decode cX4_addProduct 9 = .ok (.getfield 13, 3) := by decide +kernel
theorem dX4_addProduct_12 : decode cX4_addProduct 12 = .ok (.if_icmp .ge 55, 3) := by decide +kernel
theorem dX4_addProduct_15 : decode cX4_addProduct 15 = .ok (.iload 6, 2) := by decide +kernel
theorem dX4_addProduct_17 : decode cX4_addProduct 17 = .ok (.aload_n 1, 1) := by decide +kernel
theorem dX4_addProduct_18 : decode cX4_addProduct 18 = .ok (.arraylength, 1) := by decide +kernel
theorem dX4_addProduct_19 : decode cX4_addProduct 19 = .ok (.if_icmp .ge 48, 3) := by decide +kernel
theorem dX4_addProduct_22 : decode cX4_addProduct 22 = .ok (.aload_n 1, 1) := by decide +kernel
theorem dX4_addProduct_23 : decode cX4_addProduct 23 = .ok (.iload 6, 2) := by decide +kernel
theorem dX4_addProduct_25 : decode cX4_addProduct 25 = .ok (.laload, 1) := by decide +kernel
theorem dX4_addProduct_26 : decode cX4_addProduct 26 = .ok (.lload_n 2, 1) := by decide +kernel
theorem dX4_addProduct_27 : decode cX4_addProduct 27 = .ok (.lmul, 1) := by decide +kernel
theorem dX4_addProduct_28 : decode cX4_addProduct 28 = .ok (.aload_n 0, 1) := by decide +kernel
theorem dX4_addProduct_29 : decode cX4_addProduct 29 = .ok (.getfield 38, 3) := by decide +kernel
theorem dX4_addProduct_32 : decode cX4_addProduct 32 = .ok (.iload 6, 2) := by decide +kernel
theorem dX4_addProduct_34 : decode cX4_addProduct 34 = .ok (.laload, 1) := by decide +kernel
theorem dX4_addProduct_35 : decode cX4_addProduct 35 = .ok (.ladd, 1) := by decide +kernel
theorem dX4_addProduct_36 : decode cX4_addProduct 36 = .ok (.lload 4, 2) := by decide +kernel
theorem dX4_addProduct_38 : decode cX4_addProduct 38 = .ok (.ladd, 1) := by decide +kernel
theorem dX4_addProduct_39 : decode cX4_addProduct 39 = .ok (.lstore 7, 2) := by decide +kernel
theorem dX4_addProduct_41 : decode cX4_addProduct 41 = .ok (.aload_n 0, 1) := by decide +kernel
theorem dX4_addProduct_42 : decode cX4_addProduct 42 = .ok (.getfield 38, 3) := by decide +kernel
theorem dX4_addProduct_45 : decode cX4_addProduct 45 = .ok (.iload 6, 2) := by decide +kernel
theorem dX4_addProduct_47 : decode cX4_addProduct 47 = .ok (.lload 7, 2) := by decide +kernel
theorem dX4_addProduct_49 : decode cX4_addProduct 49 = .ok (.ldc2_w 51, 3) := by decide +kernel
theorem dX4_addProduct_52 : decode cX4_addProduct 52 = .ok (.land, 1) := by decide +kernel
theorem dX4_addProduct_53 : decode cX4_addProduct 53 = .ok (.lastore, 1) := by decide +kernel
theorem dX4_addProduct_54 : decode cX4_addProduct 54 = .ok (.lload 7, 2) := by decide +kernel
theorem dX4_addProduct_56 : decode cX4_addProduct 56 = .ok (.bipush 32, 2) := by decide +kernel
theorem dX4_addProduct_58 : decode cX4_addProduct 58 = .ok (.lushr, 1) := by decide +kernel
theorem dX4_addProduct_59 : decode cX4_addProduct 59 = .ok (.lstore 4, 2) := by decide +kernel
theorem dX4_addProduct_61 : decode cX4_addProduct 61 = .ok (.iinc 6 1, 3) := by decide +kernel
theorem dX4_addProduct_64 : decode cX4_addProduct 64 = .ok (.goto (-58), 3) := by decide +kernel
theorem dX4_addProduct_67 : decode cX4_addProduct 67 = .ok (.aload_n 0, 1) := by decide +kernel
theorem dX4_addProduct_68 : decode cX4_addProduct 68 = .ok (.getfield 38, 3) := by decide +kernel
theorem dX4_addProduct_71 : decode cX4_addProduct 71 = .ok (.aload_n 0, 1) := by decide +kernel
theorem dX4_addProduct_72 : decode cX4_addProduct 72 = .ok (.getfield 13, 3) := by decide +kernel
theorem dX4_addProduct_75 : decode cX4_addProduct 75 = .ok (.laload, 1) := by decide +kernel
theorem dX4_addProduct_76 : decode cX4_addProduct 76 = .ok (.lload 4, 2) := by decide +kernel
theorem dX4_addProduct_78 : decode cX4_addProduct 78 = .ok (.ladd, 1) := by decide +kernel
theorem dX4_addProduct_79 : decode cX4_addProduct 79 = .ok (.lstore 6, 2) := by decide +kernel
theorem dX4_addProduct_81 : decode cX4_addProduct 81 = .ok (.aload_n 0, 1) := by decide +kernel
theorem dX4_addProduct_82 : decode cX4_addProduct 82 = .ok (.getfield 38, 3) := by decide +kernel
theorem dX4_addProduct_85 : decode cX4_addProduct 85 = .ok (.aload_n 0, 1) := by decide +kernel
theorem dX4_addProduct_86 : decode cX4_addProduct 86 = .ok (.getfield 13, 3) := by decide +kernel
theorem dX4_addProduct_89 : decode cX4_addProduct 89 = .ok (.lload 6, 2) := by decide +kernel
theorem dX4_addProduct_91 : decode cX4_addProduct 91 = .ok (.ldc2_w 51, 3) := by decide +kernel
theorem dX4_addProduct_94 : decode cX4_addProduct 94 = .ok (.land, 1) := by decide +kernel
theorem dX4_addProduct_95 : decode cX4_addProduct 95 = .ok (.lastore, 1) := by decide +kernel
theorem dX4_addProduct_96 : decode cX4_addProduct 96 = .ok (.aload_n 0, 1) := by decide +kernel
theorem dX4_addProduct_97 : decode cX4_addProduct 97 = .ok (.getfield 38, 3) := by decide +kernel
theorem dX4_addProduct_100 : decode cX4_addProduct 100 = .ok (.aload_n 0, 1) := by decide +kernel
theorem dX4_addProduct_101 : decode cX4_addProduct 101 = .ok (.getfield 13, 3) := by decide +kernel
theorem dX4_addProduct_104 : decode cX4_addProduct 104 = .ok (.iconst 1, 1) := by decide +kernel
theorem dX4_addProduct_105 : decode cX4_addProduct 105 = .ok (.iadd, 1) := by decide +kernel
theorem dX4_addProduct_106 : decode cX4_addProduct 106 = .ok (.lload 6, 2) := by decide +kernel
theorem dX4_addProduct_108 : decode cX4_addProduct 108 = .ok (.bipush 32, 2) := by decide +kernel
theorem dX4_addProduct_110 : decode cX4_addProduct 110 = .ok (.lushr, 1) := by decide +kernel
theorem dX4_addProduct_111 : decode cX4_addProduct 111 = .ok (.lastore, 1) := by decide +kernel
theorem dX4_addProduct_112 : decode cX4_addProduct 112 = .ok (.return_, 1) := by decide +kernel
theorem dX4_dropLowLimb_0 : decode cX4_dropLowLimb 0 = .ok (.aload_n 0, 1) := by decide +kernel
theorem dX4_dropLowLimb_1 : decode cX4_dropLowLimb 1 = .ok (.getfield 38, 3) := by decide +kernel
theorem dX4_dropLowLimb_4 : decode cX4_dropLowLimb 4 = .ok (.iconst 0, 1) := by decide +kernel
theorem dX4_dropLowLimb_5 : decode cX4_dropLowLimb 5 = .ok (.laload, 1) := by decide +kernel
theorem dX4_dropLowLimb_6 : decode cX4_dropLowLimb 6 = .ok (.aload_n 0, 1) := by decide +kernel
theorem dX4_dropLowLimb_7 : decode cX4_dropLowLimb 7 = .ok (.getfield 53, 3) := by decide +kernel
theorem dX4_dropLowLimb_10 : decode cX4_dropLowLimb 10 = .ok (.lmul, 1) := by decide +kernel
theorem dX4_dropLowLimb_11 : decode cX4_dropLowLimb 11 = .ok (.ldc2_w 51, 3) := by decide +kernel
theorem dX4_dropLowLimb_14 : decode cX4_dropLowLimb 14 = .ok (.land, 1) := by decide +kernel
theorem dX4_dropLowLimb_15 : decode cX4_dropLowLimb 15 = .ok (.lstore_n 1, 1) := by decide +kernel
theorem dX4_dropLowLimb_16 : decode cX4_dropLowLimb 16 = .ok (.lload_n 1, 1) := by decide +kernel
theorem dX4_dropLowLimb_17 : decode cX4_dropLowLimb 17 = .ok (.aload_n 0, 1) := by decide +kernel
theorem dX4_dropLowLimb_18 : decode cX4_dropLowLimb 18 = .ok (.getfield 19, 3) := by decide +kernel
theorem dX4_dropLowLimb_21 : decode cX4_dropLowLimb 21 = .ok (.iconst 0, 1) := by decide +kernel
theorem dX4_dropLowLimb_22 : decode cX4_dropLowLimb 22 = .ok (.laload, 1) := by decide +kernel
theorem dX4_dropLowLimb_23 : decode cX4_dropLowLimb 23 = .ok (.lmul, 1) := by decide +kernel
theorem dX4_dropLowLimb_24 : decode cX4_dropLowLimb 24 = .ok (.aload_n 0, 1) := by decide +kernel
theorem dX4_dropLowLimb_25 : decode cX4_dropLowLimb 25 = .ok (.getfield 38, 3) := by decide +kernel
theorem dX4_dropLowLimb_28 : decode cX4_dropLowLimb 28 = .ok (.iconst 0, 1) := by decide +kernel
theorem dX4_dropLowLimb_29 : decode cX4_dropLowLimb 29 = .ok (.laload, 1) := by decide +kernel
theorem dX4_dropLowLimb_30 : decode cX4_dropLowLimb 30 = .ok (.ladd, 1) := by decide +kernel
theorem dX4_dropLowLimb_31 : decode cX4_dropLowLimb 31 = .ok (.bipush 32, 2) := by decide +kernel
theorem dX4_dropLowLimb_33 : decode cX4_dropLowLimb 33 = .ok (.lushr, 1) := by decide +kernel
theorem dX4_dropLowLimb_34 : decode cX4_dropLowLimb 34 = .ok (.lstore_n 3, 1) := by decide +kernel
theorem dX4_dropLowLimb_35 : decode cX4_dropLowLimb 35 = .ok (.iconst 1, 1) := by decide +kernel
theorem dX4_dropLowLimb_36 : decode cX4_dropLowLimb 36 = .ok (.istore 5, 2) := by decide +kernel
theorem dX4_dropLowLimb_38 : decode cX4_dropLowLimb 38 = .ok (.iload 5, 2) := by decide +kernel
theorem dX4_dropLowLimb_40 : decode cX4_dropLowLimb 40 = .ok (.aload_n 0, 1) := by decide +kernel
theorem dX4_dropLowLimb_41 : decode cX4_dropLowLimb 41 = .ok (.getfield 13, 3) := by decide +kernel
theorem dX4_dropLowLimb_44 : decode cX4_dropLowLimb 44 = .ok (.if_icmp .ge 51, 3) := by decide +kernel
theorem dX4_dropLowLimb_47 : decode cX4_dropLowLimb 47 = .ok (.lload_n 1, 1) := by decide +kernel
theorem dX4_dropLowLimb_48 : decode cX4_dropLowLimb 48 = .ok (.aload_n 0, 1) := by decide +kernel
theorem dX4_dropLowLimb_49 : decode cX4_dropLowLimb 49 = .ok (.getfield 19, 3) := by decide +kernel
theorem dX4_dropLowLimb_52 : decode cX4_dropLowLimb 52 = .ok (.iload 5, 2) := by decide +kernel
theorem dX4_dropLowLimb_54 : decode cX4_dropLowLimb 54 = .ok (.laload, 1) := by decide +kernel
theorem dX4_dropLowLimb_55 : decode cX4_dropLowLimb 55 = .ok (.lmul, 1) := by decide +kernel
theorem dX4_dropLowLimb_56 : decode cX4_dropLowLimb 56 = .ok (.aload_n 0, 1) := by decide +kernel
theorem dX4_dropLowLimb_57 : decode cX4_dropLowLimb 57 = .ok (.getfield 38, 3) := by decide +kernel
theorem dX4_dropLowLimb_60 : decode cX4_dropLowLimb 60 = .ok (.iload 5, 2) := by decide +kernel
theorem dX4_dropLowLimb_62 : decode cX4_dropLowLimb 62 = .ok (.laload, 1) := by decide +kernel
theorem dX4_dropLowLimb_63 : decode cX4_dropLowLimb 63 = .ok (.ladd, 1) := by decide +kernel
theorem dX4_dropLowLimb_64 : decode cX4_dropLowLimb 64 = .ok (.lload_n 3, 1) := by decide +kernel
theorem dX4_dropLowLimb_65 : decode cX4_dropLowLimb 65 = .ok (.ladd, 1) := by decide +kernel
theorem dX4_dropLowLimb_66 : decode cX4_dropLowLimb 66 = .ok (.lstore 6, 2) := by decide +kernel
theorem dX4_dropLowLimb_68 : decode cX4_dropLowLimb 68 = .ok (.aload_n 0, 1) := by decide +kernel
theorem dX4_dropLowLimb_69 : decode cX4_dropLowLimb 69 = .ok (.getfield 38, 3) := by decide +kernel
theorem dX4_dropLowLimb_72 : decode cX4_dropLowLimb 72 = .ok (.iload 5, 2) := by decide +kernel
theorem dX4_dropLowLimb_74 : decode cX4_dropLowLimb 74 = .ok (.iconst 1, 1) := by decide +kernel
theorem dX4_dropLowLimb_75 : decode cX4_dropLowLimb 75 = .ok (.isub, 1) := by decide +kernel
theorem dX4_dropLowLimb_76 : decode cX4_dropLowLimb 76 = .ok (.lload 6, 2) := by decide +kernel
theorem dX4_dropLowLimb_78 : decode cX4_dropLowLimb 78 = .ok (.ldc2_w 51, 3) := by decide +kernel
theorem dX4_dropLowLimb_81 : decode cX4_dropLowLimb 81 = .ok (.land, 1) := by decide +kernel
theorem dX4_dropLowLimb_82 : decode cX4_dropLowLimb 82 = .ok (.lastore, 1) := by decide +kernel
theorem dX4_dropLowLimb_83 : decode cX4_dropLowLimb 83 = .ok (.lload 6, 2) := by decide +kernel
theorem dX4_dropLowLimb_85 : decode cX4_dropLowLimb 85 = .ok (.bipush 32, 2) := by decide +kernel
theorem dX4_dropLowLimb_87 : decode cX4_dropLowLimb 87 = .ok (.lushr, 1) := by decide +kernel
theorem dX4_dropLowLimb_88 : decode cX4_dropLowLimb 88 = .ok (.lstore_n 3, 1) := by decide +kernel
theorem dX4_dropLowLimb_89 : decode cX4_dropLowLimb 89 = .ok (.iinc 5 1, 3) := by decide +kernel
theorem dX4_dropLowLimb_92 : decode cX4_dropLowLimb 92 = .ok (.goto (-54), 3) := by decide +kernel
theorem dX4_dropLowLimb_95 : decode cX4_dropLowLimb 95 = .ok (.aload_n 0, 1) := by decide +kernel
theorem dX4_dropLowLimb_96 : decode cX4_dropLowLimb 96 = .ok (.getfield 38, 3) := by decide +kernel
theorem dX4_dropLowLimb_99 : decode cX4_dropLowLimb 99 = .ok (.aload_n 0, 1) := by decide +kernel
theorem dX4_dropLowLimb_100 : decode cX4_dropLowLimb 100 = .ok (.getfield 13, 3) := by decide +kernel
theorem dX4_dropLowLimb_103 : decode cX4_dropLowLimb 103 = .ok (.laload, 1) := by decide +kernel
theorem dX4_dropLowLimb_104 : decode cX4_dropLowLimb 104 = .ok (.lload_n 3, 1) := by decide +kernel
theorem dX4_dropLowLimb_105 : decode cX4_dropLowLimb 105 = .ok (.ladd, 1) := by decide +kernel
theorem dX4_dropLowLimb_106 : decode cX4_dropLowLimb 106 = .ok (.lstore 5, 2) := by decide +kernel
theorem dX4_dropLowLimb_108 : decode cX4_dropLowLimb 108 = .ok (.aload_n 0, 1) := by decide +kernel
theorem dX4_dropLowLimb_109 : decode cX4_dropLowLimb 109 = .ok (.getfield 38, 3) := by decide +kernel
theorem dX4_dropLowLimb_112 : decode cX4_dropLowLimb 112 = .ok (.aload_n 0, 1) := by decide +kernel
theorem dX4_dropLowLimb_113 : decode cX4_dropLowLimb 113 = .ok (.getfield 13, 3) := by decide +kernel
theorem dX4_dropLowLimb_116 : decode cX4_dropLowLimb 116 = .ok (.iconst 1, 1) := by decide +kernel
theorem dX4_dropLowLimb_117 : decode cX4_dropLowLimb 117 = .ok (.isub, 1) := by decide +kernel
theorem dX4_dropLowLimb_118 : decode cX4_dropLowLimb 118 = .ok (.lload 5, 2) := by decide +kernel
theorem dX4_dropLowLimb_120 : decode cX4_dropLowLimb 120 = .ok (.ldc2_w 51, 3) := by decide +kernel
theorem dX4_dropLowLimb_123 : decode cX4_dropLowLimb 123 = .ok (.land, 1) := by decide +kernel
theorem dX4_dropLowLimb_124 : decode cX4_dropLowLimb 124 = .ok (.lastore, 1) := by decide +kernel
theorem dX4_dropLowLimb_125 : decode cX4_dropLowLimb 125 = .ok (.aload_n 0, 1) := by decide +kernel
theorem dX4_dropLowLimb_126 : decode cX4_dropLowLimb 126 = .ok (.getfield 38, 3) := by decide +kernel
theorem dX4_dropLowLimb_129 : decode cX4_dropLowLimb 129 = .ok (.aload_n 0, 1) := by decide +kernel
theorem dX4_dropLowLimb_130 : decode cX4_dropLowLimb 130 = .ok (.getfield 13, 3) := by decide +kernel
theorem dX4_dropLowLimb_133 : decode cX4_dropLowLimb 133 = .ok (.aload_n 0, 1) := by decide +kernel
theorem dX4_dropLowLimb_134 : decode cX4_dropLowLimb 134 = .ok (.getfield 38, 3) := by decide +kernel
theorem dX4_dropLowLimb_137 : decode cX4_dropLowLimb 137 = .ok (.aload_n 0, 1) := by decide +kernel
theorem dX4_dropLowLimb_138 : decode cX4_dropLowLimb 138 = .ok (.getfield 13, 3) := by decide +kernel
theorem dX4_dropLowLimb_141 : decode cX4_dropLowLimb 141 = .ok (.iconst 1, 1) := by decide +kernel
theorem dX4_dropLowLimb_142 : decode cX4_dropLowLimb 142 = .ok (.iadd, 1) := by decide +kernel
theorem dX4_dropLowLimb_143 : decode cX4_dropLowLimb 143 = .ok (.laload, 1) := by decide +kernel
theorem dX4_dropLowLimb_144 : decode cX4_dropLowLimb 144 = .ok (.lload 5, 2) := by decide +kernel
theorem dX4_dropLowLimb_146 : decode cX4_dropLowLimb 146 = .ok (.bipush 32, 2) := by decide +kernel
theorem dX4_dropLowLimb_148 : decode cX4_dropLowLimb 148 = .ok (.lushr, 1) := by decide +kernel
theorem dX4_dropLowLimb_149 : decode cX4_dropLowLimb 149 = .ok (.ladd, 1) := by decide +kernel
theorem dX4_dropLowLimb_150 : decode cX4_dropLowLimb 150 = .ok (.lastore, 1) := by decide +kernel
theorem dX4_dropLowLimb_151 : decode cX4_dropLowLimb 151 = .ok (.return_, 1) := by decide +kernel
theorem dX5_byteAt_0 : decode cX5_byteAt 0 = .ok (.iload_n 1, 1) := by decide +kernel
theorem dX5_byteAt_1 : decode cX5_byteAt 1 = .ok (.iconst 2, 1) := by decide +kernel
theorem dX5_byteAt_2 : decode cX5_byteAt 2 = .ok (.ishr, 1) := by decide +kernel
theorem dX5_byteAt_3 : decode cX5_byteAt 3 = .ok (.istore_n 2, 1) := by decide +kernel
theorem dX5_byteAt_4 : decode cX5_byteAt 4 = .ok (.iload_n 2, 1) := by decide +kernel
theorem dX5_byteAt_5 : decode cX5_byteAt 5 = .ok (.ifCond .lt 9, 3) := by decide +kernel
theorem dX5_byteAt_8 : decode cX5_byteAt 8 = .ok (.iload_n 2, 1) := by decide +kernel
theorem dX5_byteAt_9 : decode cX5_byteAt 9 = .ok (.aload_n 0, 1) := by decide +kernel
theorem dX5_byteAt_10 : decode cX5_byteAt 10 = .ok (.arraylength, 1) := by decide +kernel
theorem dX5_byteAt_11 : decode cX5_byteAt 11 = .ok (.if_icmp .lt 5, 3) := by decide +kernel
theorem dX5_byteAt_14 : decode cX5_byteAt 14 = .ok (.iconst 0, 1) := by decide +kernel
theorem dX5_byteAt_15 : decode cX5_byteAt 15 = .ok (.ireturn, 1) := by decide +kernel
theorem dX5_byteAt_16 : decode cX5_byteAt 16 = .ok (.aload_n 0, 1) := by decide +kernel
theorem dX5_byteAt_17 : decode cX5_byteAt 17 = .ok (.iload_n 2, 1) := by decide +kernel
theorem dX5_byteAt_18 : decode cX5_byteAt 18 = .ok (.laload, 1) := by decide +kernel
theorem dX5_byteAt_19 : decode cX5_byteAt 19 = .ok (.bipush 8, 2) := by decide +kernel
theorem dX5_byteAt_21 : decode cX5_byteAt 21 = .ok (.iload_n 1, 1) := by decide +kernel
theorem dX5_byteAt_22 : decode cX5_byteAt 22 = .ok (.iconst 3, 1) := by decide +kernel
theorem dX5_byteAt_23 : decode cX5_byteAt 23 = .ok (.iand, 1) := by decide +kernel
theorem dX5_byteAt_24 : decode cX5_byteAt 24 = .ok (.imul, 1) := by decide +kernel
theorem dX5_byteAt_25 : decode cX5_byteAt 25 = .ok (.lushr, 1) := by decide +kernel
theorem dX5_byteAt_26 : decode cX5_byteAt 26 = .ok (.l2i, 1) := by decide +kernel
theorem dX5_byteAt_27 : decode cX5_byteAt 27 = .ok (.sipush 255, 3) := by decide +kernel
theorem dX5_byteAt_30 : decode cX5_byteAt 30 = .ok (.iand, 1) := by decide +kernel
theorem dX5_byteAt_31 : decode cX5_byteAt 31 = .ok (.ireturn, 1) := by decide +kernel
theorem dX5_putByte_0 : decode cX5_putByte 0 = .ok (.iload_n 1, 1) := by decide +kernel
theorem dX5_putByte_1 : decode cX5_putByte 1 = .ok (.iconst 2, 1) := by decide +kernel
theorem dX5_putByte_2 : decode cX5_putByte 2 = .ok (.ishr, 1) := by decide +kernel
theorem dX5_putByte_3 : decode cX5_putByte 3 = .ok (.istore_n 3, 1) := by decide +kernel
theorem dX5_putByte_4 : decode cX5_putByte 4 = .ok (.iload_n 3, 1) := by decide +kernel
theorem dX5_putByte_5 : decode cX5_putByte 5 = .ok (.ifCond .lt 9, 3) := by decide +kernel
theorem dX5_putByte_8 : decode cX5_putByte 8 = .ok (.iload_n 3, 1) := by decide +kernel
theorem dX5_putByte_9 : decode cX5_putByte 9 = .ok (.aload_n 0, 1) := by decide +kernel
theorem dX5_putByte_10 : decode cX5_putByte 10 = .ok (.arraylength, 1) := by decide +kernel
theorem dX5_putByte_11 : decode cX5_putByte 11 = .ok (.if_icmp .lt 4, 3) := by decide +kernel
theorem dX5_putByte_14 : decode cX5_putByte 14 = .ok (.return_, 1) := by decide +kernel
theorem dX5_putByte_15 : decode cX5_putByte 15 = .ok (.bipush 8, 2) := by decide +kernel
theorem dX5_putByte_17 : decode cX5_putByte 17 = .ok (.iload_n 1, 1) := by decide +kernel
theorem dX5_putByte_18 : decode cX5_putByte 18 = .ok (.iconst 3, 1) := by decide +kernel
theorem dX5_putByte_19 : decode cX5_putByte 19 = .ok (.iand, 1) := by decide +kernel
theorem dX5_putByte_20 : decode cX5_putByte 20 = .ok (.imul, 1) := by decide +kernel
theorem dX5_putByte_21 : decode cX5_putByte 21 = .ok (.istore 4, 2) := by decide +kernel
theorem dX5_putByte_23 : decode cX5_putByte 23 = .ok (.aload_n 0, 1) := by decide +kernel
theorem dX5_putByte_24 : decode cX5_putByte 24 = .ok (.iload_n 3, 1) := by decide +kernel
theorem dX5_putByte_25 : decode cX5_putByte 25 = .ok (.aload_n 0, 1) := by decide +kernel
theorem dX5_putByte_26 : decode cX5_putByte 26 = .ok (.iload_n 3, 1) := by decide +kernel
theorem dX5_putByte_27 : decode cX5_putByte 27 = .ok (.laload, 1) := by decide +kernel
theorem dX5_putByte_28 : decode cX5_putByte 28 = .ok (.ldc2_w 7, 3) := by decide +kernel
theorem dX5_putByte_31 : decode cX5_putByte 31 = .ok (.iload 4, 2) := by decide +kernel
theorem dX5_putByte_33 : decode cX5_putByte 33 = .ok (.lshl, 1) := by decide +kernel
theorem dX5_putByte_34 : decode cX5_putByte 34 = .ok (.ldc2_w 9, 3) := by decide +kernel
theorem dX5_putByte_37 : decode cX5_putByte 37 = .ok (.lxor, 1) := by decide +kernel
theorem dX5_putByte_38 : decode cX5_putByte 38 = .ok (.land, 1) := by decide +kernel
theorem dX5_putByte_39 : decode cX5_putByte 39 = .ok (.iload_n 2, 1) := by decide +kernel
theorem dX5_putByte_40 : decode cX5_putByte 40 = .ok (.i2l, 1) := by decide +kernel
theorem dX5_putByte_41 : decode cX5_putByte 41 = .ok (.ldc2_w 7, 3) := by decide +kernel
theorem dX5_putByte_44 : decode cX5_putByte 44 = .ok (.land, 1) := by decide +kernel
theorem dX5_putByte_45 : decode cX5_putByte 45 = .ok (.iload 4, 2) := by decide +kernel
theorem dX5_putByte_47 : decode cX5_putByte 47 = .ok (.lshl, 1) := by decide +kernel
theorem dX5_putByte_48 : decode cX5_putByte 48 = .ok (.lor, 1) := by decide +kernel
theorem dX5_putByte_49 : decode cX5_putByte 49 = .ok (.lastore, 1) := by decide +kernel
theorem dX5_putByte_50 : decode cX5_putByte 50 = .ok (.return_, 1) := by decide +kernel
theorem dX5_bitAt_0 : decode cX5_bitAt 0 = .ok (.iload_n 1, 1) := by decide +kernel
theorem dX5_bitAt_1 : decode cX5_bitAt 1 = .ok (.iconst 5, 1) := by decide +kernel
theorem dX5_bitAt_2 : decode cX5_bitAt 2 = .ok (.ishr, 1) := by decide +kernel
theorem dX5_bitAt_3 : decode cX5_bitAt 3 = .ok (.istore_n 2, 1) := by decide +kernel
theorem dX5_bitAt_4 : decode cX5_bitAt 4 = .ok (.iload_n 2, 1) := by decide +kernel
theorem dX5_bitAt_5 : decode cX5_bitAt 5 = .ok (.ifCond .lt 28, 3) := by decide +kernel
theorem dX5_bitAt_8 : decode cX5_bitAt 8 = .ok (.iload_n 2, 1) := by decide +kernel
theorem dX5_bitAt_9 : decode cX5_bitAt 9 = .ok (.aload_n 0, 1) := by decide +kernel
theorem dX5_bitAt_10 : decode cX5_bitAt 10 = .ok (.arraylength, 1) := by decide +kernel
theorem dX5_bitAt_11 : decode cX5_bitAt 11 = .ok (.if_icmp .ge 22, 3) := by decide +kernel
theorem dX5_bitAt_14 : decode cX5_bitAt 14 = .ok (.aload_n 0, 1) := by decide +kernel
theorem dX5_bitAt_15 : decode cX5_bitAt 15 = .ok (.iload_n 2, 1) := by decide +kernel
theorem dX5_bitAt_16 : decode cX5_bitAt 16 = .ok (.laload, 1) := by decide +kernel
theorem dX5_bitAt_17 : decode cX5_bitAt 17 = .ok (.iload_n 1, 1) := by decide +kernel
theorem dX5_bitAt_18 : decode cX5_bitAt 18 = .ok (.bipush 31, 2) := by decide +kernel
theorem dX5_bitAt_20 : decode cX5_bitAt 20 = .ok (.iand, 1) := by decide +kernel
theorem dX5_bitAt_21 : decode cX5_bitAt 21 = .ok (.lushr, 1) := by decide +kernel
theorem dX5_bitAt_22 : decode cX5_bitAt 22 = .ok (.lconst 1, 1) := by decide +kernel
theorem dX5_bitAt_23 : decode cX5_bitAt 23 = .ok (.land, 1) := by decide +kernel
theorem dX5_bitAt_24 : decode cX5_bitAt 24 = .ok (.lconst 1, 1) := by decide +kernel
theorem dX5_bitAt_25 : decode cX5_bitAt 25 = .ok (.lcmp, 1) := by decide +kernel
theorem dX5_bitAt_26 : decode cX5_bitAt 26 = .ok (.ifCond .ne 7, 3) := by decide +kernel
theorem dX5_bitAt_29 : decode cX5_bitAt 29 = .ok (.iconst 1, 1) := by decide +kernel
theorem dX5_bitAt_30 : decode cX5_bitAt 30 = .ok (.goto 4, 3) := by decide +kernel
theorem dX5_bitAt_33 : decode cX5_bitAt 33 = .ok (.iconst 0, 1) := by decide +kernel
theorem dX5_bitAt_34 : decode cX5_bitAt 34 = .ok (.ireturn, 1) := by decide +kernel
theorem dX5_bitCount_0 : decode cX5_bitCount 0 = .ok (.aload_n 0, 1) := by decide +kernel
theorem dX5_bitCount_1 : decode cX5_bitCount 1 = .ok (.arraylength, 1) := by decide +kernel
theorem dX5_bitCount_2 : decode cX5_bitCount 2 = .ok (.iconst 1, 1) := by decide +kernel
theorem dX5_bitCount_3 : decode cX5_bitCount 3 = .ok (.isub, 1) := by decide +kernel
theorem dX5_bitCount_4 : decode cX5_bitCount 4 = .ok (.istore_n 1, 1) := by decide +kernel
theorem dX5_bitCount_5 : decode cX5_bitCount 5 = .ok (.iload_n 1, 1) := by decide +kernel
theorem dX5_bitCount_6 : decode cX5_bitCount 6 = .ok (.ifCond .lt 32, 3) := by decide +kernel
theorem dX5_bitCount_9 : decode cX5_bitCount 9 = .ok (.aload_n 0, 1) := by decide +kernel
theorem dX5_bitCount_10 : decode cX5_bitCount 10 = .ok (.iload_n 1, 1) := by decide +kernel
theorem dX5_bitCount_11 : decode cX5_bitCount 11 = .ok (.laload, 1) := by decide +kernel
theorem dX5_bitCount_12 : decode cX5_bitCount 12 = .ok (.lconst 0, 1) := by decide +kernel
theorem dX5_bitCount_13 : decode cX5_bitCount 13 = .ok (.lcmp, 1) := by decide +kernel
theorem dX5_bitCount_14 : decode cX5_bitCount 14 = .ok (.ifCond .eq 18, 3) := by decide +kernel
theorem dX5_bitCount_17 : decode cX5_bitCount 17 = .ok (.bipush 32, 2) := by decide +kernel
theorem dX5_bitCount_19 : decode cX5_bitCount 19 = .ok (.iload_n 1, 1) := by decide +kernel
theorem dX5_bitCount_20 : decode cX5_bitCount 20 = .ok (.imul, 1) := by decide +kernel
theorem dX5_bitCount_21 : decode cX5_bitCount 21 = .ok (.bipush 64, 2) := by decide +kernel
theorem dX5_bitCount_23 : decode cX5_bitCount 23 = .ok (.iadd, 1) := by decide +kernel
theorem dX5_bitCount_24 : decode cX5_bitCount 24 = .ok (.aload_n 0, 1) := by decide +kernel
theorem dX5_bitCount_25 : decode cX5_bitCount 25 = .ok (.iload_n 1, 1) := by decide +kernel
theorem dX5_bitCount_26 : decode cX5_bitCount 26 = .ok (.laload, 1) := by decide +kernel
theorem dX5_bitCount_27 : decode cX5_bitCount 27 = .ok (.invokestatic 13, 3) := by decide +kernel
theorem dX5_bitCount_30 : decode cX5_bitCount 30 = .ok (.isub, 1) := by decide +kernel
theorem dX5_bitCount_31 : decode cX5_bitCount 31 = .ok (.ireturn, 1) := by decide +kernel
theorem dX5_bitCount_32 : decode cX5_bitCount 32 = .ok (.iinc 1 (-1), 3) := by decide +kernel
theorem dX5_bitCount_35 : decode cX5_bitCount 35 = .ok (.goto (-30), 3) := by decide +kernel
theorem dX5_bitCount_38 : decode cX5_bitCount 38 = .ok (.iconst 0, 1) := by decide +kernel
theorem dX5_bitCount_39 : decode cX5_bitCount 39 = .ok (.ireturn, 1) := by decide +kernel
theorem dX5_copy_0 : decode cX5_copy 0 = .ok (.iconst 0, 1) := by decide +kernel
theorem dX5_copy_1 : decode cX5_copy 1 = .ok (.istore_n 2, 1) := by decide +kernel
theorem dX5_copy_2 : decode cX5_copy 2 = .ok (.iload_n 2, 1) := by decide +kernel
theorem dX5_copy_3 : decode cX5_copy 3 = .ok (.aload_n 0, 1) := by decide +kernel
theorem dX5_copy_4 : decode cX5_copy 4 = .ok (.arraylength, 1) := by decide +kernel
theorem dX5_copy_5 : decode cX5_copy 5 = .ok (.if_icmp .ge 25, 3) := by decide +kernel
theorem dX5_copy_8 : decode cX5_copy 8 = .ok (.aload_n 0, 1) := by decide +kernel
theorem dX5_copy_9 : decode cX5_copy 9 = .ok (.iload_n 2, 1) := by decide +kernel
theorem dX5_copy_10 : decode cX5_copy 10 = .ok (.iload_n 2, 1) := by decide +kernel
theorem dX5_copy_11 : decode cX5_copy 11 = .ok (.aload_n 1, 1) := by decide +kernel
theorem dX5_copy_12 : decode cX5_copy 12 = .ok (.arraylength, 1) := by decide +kernel
theorem dX5_copy_13 : decode cX5_copy 13 = .ok (.if_icmp .ge 9, 3) := by decide +kernel
theorem dX5_copy_16 : decode cX5_copy 16 = .ok (.aload_n 1, 1) := by decide +kernel
theorem dX5_copy_17 : decode cX5_copy 17 = .ok (.iload_n 2, 1) := by decide +kernel
theorem dX5_copy_18 : decode cX5_copy 18 = .ok (.laload, 1) := by decide +kernel
theorem dX5_copy_19 : decode cX5_copy 19 = .ok (.goto 4, 3) := by decide +kernel
theorem dX5_copy_22 : decode cX5_copy 22 = .ok (.lconst 0, 1) := by decide +kernel
theorem dX5_copy_23 : decode cX5_copy 23 = .ok (.lastore, 1) := by decide +kernel
theorem dX5_copy_24 : decode cX5_copy 24 = .ok (.iinc 2 1, 3) := by decide +kernel
theorem dX5_copy_27 : decode cX5_copy 27 = .ok (.goto (-25), 3) := by decide +kernel
theorem dX5_copy_30 : decode cX5_copy 30 = .ok (.return_, 1) := by decide +kernel
theorem dX5_putSmall_0 : decode cX5_putSmall 0 = .ok (.iconst 0, 1) := by decide +kernel
theorem dX5_putSmall_1 : decode cX5_putSmall 1 = .ok (.istore_n 3, 1) := by decide +kernel
theorem dX5_putSmall_2 : decode cX5_putSmall 2 = .ok (.iload_n 3, 1) := by decide +kernel
theorem dX5_putSmall_3 : decode cX5_putSmall 3 = .ok (.aload_n 0, 1) := by decide +kernel
theorem dX5_putSmall_4 : decode cX5_putSmall 4 = .ok (.arraylength, 1) := by decide +kernel
theorem dX5_putSmall_5 : decode cX5_putSmall 5 = .ok (.if_icmp .ge 25, 3) := by decide +kernel
theorem dX5_putSmall_8 : decode cX5_putSmall 8 = .ok (.aload_n 0, 1) := by decide +kernel
theorem dX5_putSmall_9 : decode cX5_putSmall 9 = .ok (.iload_n 3, 1) := by decide +kernel
theorem dX5_putSmall_10 : decode cX5_putSmall 10 = .ok (.iload_n 3, 1) := by decide +kernel
theorem dX5_putSmall_11 : decode cX5_putSmall 11 = .ok (.ifCond .ne 11, 3) := by decide +kernel
theorem dX5_putSmall_14 : decode cX5_putSmall 14 = .ok (.lload_n 1, 1) := by decide +kernel
theorem dX5_putSmall_15 : decode cX5_putSmall 15 = .ok (.ldc2_w 19, 3) := by decide +kernel
theorem dX5_putSmall_18 : decode cX5_putSmall 18 = .ok (.land, 1) := by decide +kernel
theorem dX5_putSmall_19 : decode cX5_putSmall 19 = .ok (.goto 4, 3) := by decide +kernel
theorem dX5_putSmall_22 : decode cX5_putSmall 22 = .ok (.lconst 0, 1) := by decide +kernel
theorem dX5_putSmall_23 : decode cX5_putSmall 23 = .ok (.lastore, 1) := by decide +kernel
theorem dX5_putSmall_24 : decode cX5_putSmall 24 = .ok (.iinc 3 1, 3) := by decide +kernel
theorem dX5_putSmall_27 : decode cX5_putSmall 27 = .ok (.goto (-25), 3) := by decide +kernel
theorem dX5_putSmall_30 : decode cX5_putSmall 30 = .ok (.return_, 1) := by decide +kernel
theorem dX5_isOne_0 : decode cX5_isOne 0 = .ok (.aload_n 0, 1) := by decide +kernel
theorem dX5_isOne_1 : decode cX5_isOne 1 = .ok (.invokestatic 21, 3) := by decide +kernel
theorem dX5_isOne_4 : decode cX5_isOne 4 = .ok (.iconst 1, 1) := by decide +kernel
theorem dX5_isOne_5 : decode cX5_isOne 5 = .ok (.if_icmp .ne 7, 3) := by decide +kernel
theorem dX5_isOne_8 : decode cX5_isOne 8 = .ok (.iconst 1, 1) := by decide +kernel
theorem dX5_isOne_9 : decode cX5_isOne 9 = .ok (.goto 4, 3) := by decide +kernel
theorem dX5_isOne_12 : decode cX5_isOne 12 = .ok (.iconst 0, 1) := by decide +kernel
theorem dX5_isOne_13 : decode cX5_isOne 13 = .ok (.ireturn, 1) := by decide +kernel
theorem dX5_order_0 : decode cX5_order 0 = .ok (.aload_n 0, 1) := by decide +kernel
theorem dX5_order_1 : decode cX5_order 1 = .ok (.arraylength, 1) := by decide +kernel
theorem dX5_order_2 : decode cX5_order 2 = .ok (.aload_n 1, 1) := by decide +kernel
theorem dX5_order_3 : decode cX5_order 3 = .ok (.arraylength, 1) := by decide +kernel
theorem dX5_order_4 : decode cX5_order 4 = .ok (.invokestatic 25, 3) := by decide +kernel
theorem dX5_order_7 : decode cX5_order 7 = .ok (.iconst 1, 1) := by decide +kernel
theorem dX5_order_8 : decode cX5_order 8 = .ok (.isub, 1) := by decide +kernel
theorem dX5_order_9 : decode cX5_order 9 = .ok (.istore_n 2, 1) := by decide +kernel
theorem dX5_order_10 : decode cX5_order 10 = .ok (.iload_n 2, 1) := by decide +kernel
theorem dX5_order_11 : decode cX5_order 11 = .ok (.ifCond .lt 35, 3) := by decide +kernel
theorem dX5_order_14 : decode cX5_order 14 = .ok (.aload_n 0, 1) := by decide +kernel
theorem dX5_order_15 : decode cX5_order 15 = .ok (.iload_n 2, 1) := by decide +kernel
theorem dX5_order_16 : decode cX5_order 16 = .ok (.laload, 1) := by decide +kernel
theorem dX5_order_17 : decode cX5_order 17 = .ok (.aload_n 1, 1) := by decide +kernel
theorem dX5_order_18 : decode cX5_order 18 = .ok (.iload_n 2, 1) := by decide +kernel
theorem dX5_order_19 : decode cX5_order 19 = .ok (.laload, 1) := by decide +kernel
theorem dX5_order_20 : decode cX5_order 20 = .ok (.lcmp, 1) := by decide +kernel
theorem dX5_order_21 : decode cX5_order 21 = .ok (.ifCond .eq 19, 3) := by decide +kernel
theorem dX5_order_24 : decode cX5_order 24 = .ok (.aload_n 0, 1) := by decide +kernel
theorem dX5_order_25 : decode cX5_order 25 = .ok (.iload_n 2, 1) := by decide +kernel
theorem dX5_order_26 : decode cX5_order 26 = .ok (.laload, 1) := by decide +kernel
theorem dX5_order_27 : decode cX5_order 27 = .ok (.aload_n 1, 1) := by decide +kernel
theorem dX5_order_28 : decode cX5_order 28 = .ok (.iload_n 2, 1) := by decide +kernel
theorem dX5_order_29 : decode cX5_order 29 = .ok (.laload, 1) := by decide +kernel
theorem dX5_order_30 : decode cX5_order 30 = .ok (.lcmp, 1) := by decide +kernel
theorem dX5_order_31 : decode cX5_order 31 = .ok (.ifCond .ge 7, 3) := by decide +kernel
theorem dX5_order_34 : decode cX5_order 34 = .ok (.iconst (-1), 1) := by decide +kernel
theorem dX5_order_35 : decode cX5_order 35 = .ok (.goto 4, 3) := by decide +kernel
theorem dX5_order_38 : decode cX5_order 38 = .ok (.iconst 1, 1) := by decide +kernel
theorem dX5_order_39 : decode cX5_order 39 = .ok (.ireturn, 1) := by decide +kernel
theorem dX5_order_40 : decode cX5_order 40 = .ok (.iinc 2 (-1), 3) := by decide +kernel
theorem dX5_order_43 : decode cX5_order 43 = .ok (.goto (-33), 3) := by decide +kernel
theorem dX5_order_46 : decode cX5_order 46 = .ok (.iconst 0, 1) := by decide +kernel
theorem dX5_order_47 : decode cX5_order 47 = .ok (.ireturn, 1) := by decide +kernel
theorem dX5_add_0 : decode cX5_add 0 = .ok (.lconst 0, 1) := by decide +kernel
theorem dX5_add_1 : decode cX5_add 1 = .ok (.lstore_n 2, 1) := by decide +kernel
theorem dX5_add_2 : decode cX5_add 2 = .ok (.iconst 0, 1) := by decide +kernel
theorem dX5_add_3 : decode cX5_add 3 = .ok (.istore 4, 2) := by decide +kernel
theorem dX5_add_5 : decode cX5_add 5 = .ok (.iload 4, 2) := by decide +kernel
theorem dX5_add_7 : decode cX5_add 7 = .ok (.aload_n 0, 1) := by decide +kernel
theorem dX5_add_8 : decode cX5_add 8 = .ok (.arraylength, 1) := by decide +kernel
theorem dX5_add_9 : decode cX5_add 9 = .ok (.if_icmp .ge 49, 3) := by decide +kernel
theorem dX5_add_12 : decode cX5_add 12 = .ok (.aload_n 0, 1) := by decide +kernel
theorem dX5_add_13 : decode cX5_add 13 = .ok (.iload 4, 2) := by decide +kernel
theorem dX5_add_15 : decode cX5_add 15 = .ok (.laload, 1) := by decide +kernel
theorem dX5_add_16 : decode cX5_add 16 = .ok (.iload 4, 2) := by decide +kernel
theorem dX5_add_18 : decode cX5_add 18 = .ok (.aload_n 1, 1) := by decide +kernel
theorem dX5_add_19 : decode cX5_add 19 = .ok (.arraylength, 1) := by decide +kernel
theorem dX5_add_20 : decode cX5_add 20 = .ok (.if_icmp .ge 10, 3) := by decide +kernel
theorem dX5_add_23 : decode cX5_add 23 = .ok (.aload_n 1, 1) := by decide +kernel
theorem dX5_add_24 : decode cX5_add 24 = .ok (.iload 4, 2) := by decide +kernel
theorem dX5_add_26 : decode cX5_add 26 = .ok (.laload, 1) := by decide +kernel
theorem dX5_add_27 : decode cX5_add 27 = .ok (.goto 4, 3) := by decide +kernel
theorem dX5_add_30 : decode cX5_add 30 = .ok (.lconst 0, 1) := by decide +kernel
theorem dX5_add_31 : decode cX5_add 31 = .ok (.ladd, 1) := by decide +kernel
theorem dX5_add_32 : decode cX5_add 32 = .ok (.lload_n 2, 1) := by decide +kernel
theorem dX5_add_33 : decode cX5_add 33 = .ok (.ladd, 1) := by decide +kernel
theorem dX5_add_34 : decode cX5_add 34 = .ok (.lstore 5, 2) := by decide +kernel
theorem dX5_add_36 : decode cX5_add 36 = .ok (.aload_n 0, 1) := by decide +kernel
theorem dX5_add_37 : decode cX5_add 37 = .ok (.iload 4, 2) := by decide +kernel
theorem dX5_add_39 : decode cX5_add 39 = .ok (.lload 5, 2) := by decide +kernel
theorem dX5_add_41 : decode cX5_add 41 = .ok (.ldc2_w 19, 3) := by decide +kernel
theorem dX5_add_44 : decode cX5_add 44 = .ok (.land, 1) := by decide +kernel
theorem dX5_add_45 : decode cX5_add 45 = .ok (.lastore, 1) := by decide +kernel
theorem dX5_add_46 : decode cX5_add 46 = .ok (.lload 5, 2) := by decide +kernel
theorem dX5_add_48 : decode cX5_add 48 = .ok (.bipush 32, 2) := by decide +kernel
theorem dX5_add_50 : decode cX5_add 50 = .ok (.lushr, 1) := by decide +kernel
theorem dX5_add_51 : decode cX5_add 51 = .ok (.lstore_n 2, 1) := by decide +kernel
theorem dX5_add_52 : decode cX5_add 52 = .ok (.iinc 4 1, 3) := by decide +kernel
theorem dX5_add_55 : decode cX5_add 55 = .ok (.goto (-50), 3) := by decide +kernel
theorem dX5_add_58 : decode cX5_add 58 = .ok (.return_, 1) := by decide +kernel
theorem dX5_subtract_0 : decode cX5_subtract 0 = .ok (.lconst 0, 1) := by decide +kernel
theorem dX5_subtract_1 : decode cX5_subtract 1 = .ok (.lstore_n 3, 1) := by decide +kernel
theorem dX5_subtract_2 : decode cX5_subtract 2 = .ok (.iconst 0, 1) := by decide +kernel
theorem dX5_subtract_3 : decode cX5_subtract 3 = .ok (.istore 5, 2) := by decide +kernel
theorem dX5_subtract_5 : decode cX5_subtract 5 = .ok (.iload 5, 2) := by decide +kernel
theorem dX5_subtract_7 : decode cX5_subtract 7 = .ok (.aload_n 0, 1) := by decide +kernel
theorem dX5_subtract_8 : decode cX5_subtract 8 = .ok (.arraylength, 1) := by decide +kernel
theorem dX5_subtract_9 : decode cX5_subtract 9 = .ok (.if_icmp .ge 59, 3) := by decide +kernel
theorem dX5_subtract_12 : decode cX5_subtract 12 = .ok (.iload 5, 2) := by decide +kernel
theorem dX5_subtract_14 : decode cX5_subtract 14 = .ok (.aload_n 1, 1) := by decide +kernel
theorem dX5_subtract_15 : decode cX5_subtract 15 = .ok (.arraylength, 1) := by decide +kernel
theorem dX5_subtract_16 : decode cX5_subtract 16 = .ok (.if_icmp .ge 52, 3) := by decide +kernel
theorem dX5_subtract_19 : decode cX5_subtract 19 = .ok (.iload 5, 2) := by decide +kernel
theorem dX5_subtract_21 : decode cX5_subtract 21 = .ok (.aload_n 2, 1) := by decide +kernel
theorem dX5_subtract_22 : decode cX5_subtract 22 = .ok (.arraylength, 1) := by decide +kernel
theorem dX5_subtract_23 : decode cX5_subtract 23 = .ok (.if_icmp .ge 45, 3) := by decide +kernel
theorem dX5_subtract_26 : decode cX5_subtract 26 = .ok (.aload_n 1, 1) := by decide +kernel
theorem dX5_subtract_27 : decode cX5_subtract 27 = .ok (.iload 5, 2) := by decide +kernel
theorem dX5_subtract_29 : decode cX5_subtract 29 = .ok (.laload, 1) := by decide +kernel
theorem dX5_subtract_30 : decode cX5_subtract 30 = .ok (.aload_n 2, 1) := by decide +kernel
theorem dX5_subtract_31 : decode cX5_subtract 31 = .ok (.iload 5, 2) := by decide +kernel
theorem dX5_subtract_33 : decode cX5_subtract 33 = .ok (.laload, 1) := by decide +kernel
theorem dX5_subtract_34 : decode cX5_subtract 34 = .ok (.lsub, 1) := by decide +kernel
theorem dX5_subtract_35 : decode cX5_subtract 35 = .ok (.lload_n 3, 1) := by decide +kernel
theorem dX5_subtract_36 : decode cX5_subtract 36 = .ok (.lsub, 1) := by decide +kernel
theorem dX5_subtract_37 : decode cX5_subtract 37 = .ok (.lstore 6, 2) := by decide +kernel
theorem dX5_subtract_39 : decode cX5_subtract 39 = .ok (.aload_n 0, 1) := by decide +kernel
theorem dX5_subtract_40 : decode cX5_subtract 40 = .ok (.iload 5, 2) := by decide +kernel
theorem dX5_subtract_42 : decode cX5_subtract 42 = .ok (.lload 6, 2) := by decide +kernel
theorem dX5_subtract_44 : decode cX5_subtract 44 = .ok (.ldc2_w 19, 3) := by decide +kernel
theorem dX5_subtract_47 : decode cX5_subtract 47 = .ok (.land, 1) := by decide +kernel
theorem dX5_subtract_48 : decode cX5_subtract 48 = .ok (.lastore, 1) := by decide +kernel
theorem dX5_subtract_49 : decode cX5_subtract 49 = .ok (.lload 6, 2) := by decide +kernel
theorem dX5_subtract_51 : decode cX5_subtract 51 = .ok (.lconst 0, 1) := by decide +kernel
theorem dX5_subtract_52 : decode cX5_subtract 52 = .ok (.lcmp, 1) := by decide +kernel
theorem dX5_subtract_53 : decode cX5_subtract 53 = .ok (.ifCond .ge 7, 3) := by decide +kernel
theorem dX5_subtract_56 : decode cX5_subtract 56 = .ok (.lconst 1, 1) := by decide +kernel
theorem dX5_subtract_57 : decode cX5_subtract 57 = .ok (.goto 4, 3) := by decide +kernel
theorem dX5_subtract_60 : decode cX5_subtract 60 = .ok (.lconst 0, 1) := by decide +kernel
theorem dX5_subtract_61 : decode cX5_subtract 61 = .ok (.lstore_n 3, 1) := by decide +kernel
theorem dX5_subtract_62 : decode cX5_subtract 62 = .ok (.iinc 5 1, 3) := by decide +kernel
theorem dX5_subtract_65 : decode cX5_subtract 65 = .ok (.goto (-60), 3) := by decide +kernel
theorem dX5_subtract_68 : decode cX5_subtract 68 = .ok (.lload_n 3, 1) := by decide +kernel
theorem dX5_subtract_69 : decode cX5_subtract 69 = .ok (.lconst 0, 1) := by decide +kernel
theorem dX5_subtract_70 : decode cX5_subtract 70 = .ok (.lcmp, 1) := by decide +kernel
theorem dX5_subtract_71 : decode cX5_subtract 71 = .ok (.ifCond .eq 7, 3) := by decide +kernel
theorem dX5_subtract_74 : decode cX5_subtract 74 = .ok (.iconst 1, 1) := by decide +kernel
theorem dX5_subtract_75 : decode cX5_subtract 75 = .ok (.goto 4, 3) := by decide +kernel
theorem dX5_subtract_78 : decode cX5_subtract 78 = .ok (.iconst 0, 1) := by decide +kernel
theorem dX5_subtract_79 : decode cX5_subtract 79 = .ok (.ireturn, 1) := by decide +kernel
theorem dX5_lessen_0 : decode cX5_lessen 0 = .ok (.lload_n 1, 1) := by decide +kernel
theorem dX5_lessen_1 : decode cX5_lessen 1 = .ok (.lstore_n 3, 1) := by decide +kernel
theorem dX5_lessen_2 : decode cX5_lessen 2 = .ok (.iconst 0, 1) := by decide +kernel
theorem dX5_lessen_3 : decode cX5_lessen 3 = .ok (.istore 5, 2) := by decide +kernel
theorem dX5_lessen_5 : decode cX5_lessen 5 = .ok (.iload 5, 2) := by decide +kernel
theorem dX5_lessen_7 : decode cX5_lessen 7 = .ok (.aload_n 0, 1) := by decide +kernel
theorem dX5_lessen_8 : decode cX5_lessen 8 = .ok (.arraylength, 1) := by decide +kernel
theorem dX5_lessen_9 : decode cX5_lessen 9 = .ok (.if_icmp .ge 46, 3) := by decide +kernel
theorem dX5_lessen_12 : decode cX5_lessen 12 = .ok (.lload_n 3, 1) := by decide +kernel
theorem dX5_lessen_13 : decode cX5_lessen 13 = .ok (.lconst 0, 1) := by decide +kernel
theorem dX5_lessen_14 : decode cX5_lessen 14 = .ok (.lcmp, 1) := by decide +kernel
theorem dX5_lessen_15 : decode cX5_lessen 15 = .ok (.ifCond .eq 40, 3) := by decide +kernel
theorem dX5_lessen_18 : decode cX5_lessen 18 = .ok (.aload_n 0, 1) := by decide +kernel
theorem dX5_lessen_19 : decode cX5_lessen 19 = .ok (.iload 5, 2) := by decide +kernel
theorem dX5_lessen_21 : decode cX5_lessen 21 = .ok (.laload, 1) := by decide +kernel
theorem dX5_lessen_22 : decode cX5_lessen 22 = .ok (.lload_n 3, 1) := by decide +kernel
theorem dX5_lessen_23 : decode cX5_lessen 23 = .ok (.lsub, 1) := by decide +kernel
theorem dX5_lessen_24 : decode cX5_lessen 24 = .ok (.lstore 6, 2) := by decide +kernel
theorem dX5_lessen_26 : decode cX5_lessen 26 = .ok (.aload_n 0, 1) := by decide +kernel
theorem dX5_lessen_27 : decode cX5_lessen 27 = .ok (.iload 5, 2) := by decide +kernel
theorem dX5_lessen_29 : decode cX5_lessen 29 = .ok (.lload 6, 2) := by decide +kernel
theorem dX5_lessen_31 : decode cX5_lessen 31 = .ok (.ldc2_w 19, 3) := by decide +kernel
theorem dX5_lessen_34 : decode cX5_lessen 34 = .ok (.land, 1) := by decide +kernel
theorem dX5_lessen_35 : decode cX5_lessen 35 = .ok (.lastore, 1) := by decide +kernel
theorem dX5_lessen_36 : decode cX5_lessen 36 = .ok (.lload 6, 2) := by decide +kernel
theorem dX5_lessen_38 : decode cX5_lessen 38 = .ok (.lconst 0, 1) := by decide +kernel
theorem dX5_lessen_39 : decode cX5_lessen 39 = .ok (.lcmp, 1) := by decide +kernel
theorem dX5_lessen_40 : decode cX5_lessen 40 = .ok (.ifCond .ge 7, 3) := by decide +kernel
theorem dX5_lessen_43 : decode cX5_lessen 43 = .ok (.lconst 1, 1) := by decide +kernel
theorem dX5_lessen_44 : decode cX5_lessen 44 = .ok (.goto 4, 3) := by decide +kernel
theorem dX5_lessen_47 : decode cX5_lessen 47 = .ok (.lconst 0, 1) := by decide +kernel
theorem dX5_lessen_48 : decode cX5_lessen 48 = .ok (.lstore_n 3, 1) := by decide +kernel
theorem dX5_lessen_49 : decode cX5_lessen 49 = .ok (.iinc 5 1, 3) := by decide +kernel
theorem dX5_lessen_52 : decode cX5_lessen 52 = .ok (.goto (-47), 3) := by decide +kernel
theorem dX5_lessen_55 : decode cX5_lessen 55 = .ok (.return_, 1) := by decide +kernel
theorem dX5_halveUntilOdd_0 : decode cX5_halveUntilOdd 0 = .ok (.bipush 32, 2) := by decide +kernel
theorem dX5_halveUntilOdd_2 : decode cX5_halveUntilOdd 2 = .ok (.aload_n 0, 1) := by decide +kernel
theorem dX5_halveUntilOdd_3 : decode cX5_halveUntilOdd 3 = .ok (.arraylength, 1) := by decide +kernel
theorem dX5_halveUntilOdd_4 : decode cX5_halveUntilOdd 4 = .ok (.imul, 1) := by decide +kernel
theorem dX5_halveUntilOdd_5 : decode cX5_halveUntilOdd 5 = .ok (.istore_n 1, 1) := by decide +kernel
theorem dX5_halveUntilOdd_6 : decode cX5_halveUntilOdd 6 = .ok (.iconst 0, 1) := by decide +kernel
theorem dX5_halveUntilOdd_7 : decode cX5_halveUntilOdd 7 = .ok (.istore_n 2, 1) := by decide +kernel
theorem dX5_halveUntilOdd_8 : decode cX5_halveUntilOdd 8 = .ok (.iload_n 2, 1) := by decide +kernel
theorem dX5_halveUntilOdd_9 : decode cX5_halveUntilOdd 9 = .ok (.iload_n 1, 1) := by decide +kernel
theorem dX5_halveUntilOdd_10 : decode cX5_halveUntilOdd 10 = .ok (.if_icmp .ge 21, 3) := by decide +kernel
theorem dX5_halveUntilOdd_13 : decode cX5_halveUntilOdd 13 = .ok (.aload_n 0, 1) := by decide +kernel
theorem dX5_halveUntilOdd_14 : decode cX5_halveUntilOdd 14 = .ok (.iconst 0, 1) := by decide +kernel
theorem dX5_halveUntilOdd_15 : decode cX5_halveUntilOdd 15 = .ok (.invokestatic 31, 3) := by decide +kernel
theorem dX5_halveUntilOdd_18 : decode cX5_halveUntilOdd 18 = .ok (.ifCond .ne 13, 3) := by decide +kernel
theorem dX5_halveUntilOdd_21 : decode cX5_halveUntilOdd 21 = .ok (.aload_n 0, 1) := by decide +kernel
theorem dX5_halveUntilOdd_22 : decode cX5_halveUntilOdd 22 = .ok (.invokestatic 35, 3) := by decide +kernel
theorem dX5_halveUntilOdd_25 : decode cX5_halveUntilOdd 25 = .ok (.iinc 2 1, 3) := by decide +kernel
theorem dX5_halveUntilOdd_28 : decode cX5_halveUntilOdd 28 = .ok (.goto (-20), 3) := by decide +kernel
theorem dX5_halveUntilOdd_31 : decode cX5_halveUntilOdd 31 = .ok (.iload_n 2, 1) := by decide +kernel
theorem dX5_halveUntilOdd_32 : decode cX5_halveUntilOdd 32 = .ok (.ireturn, 1) := by decide +kernel
theorem dX5_halve_0 : decode cX5_halve 0 = .ok (.lconst 0, 1) := by decide +kernel
theorem dX5_halve_1 : decode cX5_halve 1 = .ok (.lstore_n 1, 1) := by decide +kernel
theorem dX5_halve_2 : decode cX5_halve 2 = .ok (.aload_n 0, 1) := by decide +kernel
theorem dX5_halve_3 : decode cX5_halve 3 = .ok (.arraylength, 1) := by decide +kernel
theorem dX5_halve_4 : decode cX5_halve 4 = .ok (.iconst 1, 1) := by decide +kernel
theorem dX5_halve_5 : decode cX5_halve 5 = .ok (.isub, 1) := by decide +kernel
theorem dX5_halve_6 : decode cX5_halve 6 = .ok (.istore_n 3, 1) := by decide +kernel
theorem dX5_halve_7 : decode cX5_halve 7 = .ok (.iload_n 3, 1) := by decide +kernel
theorem dX5_halve_8 : decode cX5_halve 8 = .ok (.ifCond .lt 31, 3) := by decide +kernel
theorem dX5_halve_11 : decode cX5_halve 11 = .ok (.aload_n 0, 1) := by decide +kernel
theorem dX5_halve_12 : decode cX5_halve 12 = .ok (.iload_n 3, 1) := by decide +kernel
theorem dX5_halve_13 : decode cX5_halve 13 = .ok (.laload, 1) := by decide +kernel
theorem dX5_halve_14 : decode cX5_halve 14 = .ok (.lstore 4, 2) := by decide +kernel
theorem dX5_halve_16 : decode cX5_halve 16 = .ok (.aload_n 0, 1) := by decide +kernel
theorem dX5_halve_17 : decode cX5_halve 17 = .ok (.iload_n 3, 1) := by decide +kernel
theorem dX5_halve_18 : decode cX5_halve 18 = .ok (.lload 4, 2) := by decide +kernel
theorem dX5_halve_20 : decode cX5_halve 20 = .ok (.iconst 1, 1) := by decide +kernel
theorem dX5_halve_21 : decode cX5_halve 21 = .ok (.lushr, 1) := by decide +kernel
theorem dX5_halve_22 : decode cX5_halve 22 = .ok (.lload_n 1, 1) := by decide +kernel
theorem dX5_halve_23 : decode cX5_halve 23 = .ok (.bipush 31, 2) := by decide +kernel
theorem dX5_halve_25 : decode cX5_halve 25 = .ok (.lshl, 1) := by decide +kernel
theorem dX5_halve_26 : decode cX5_halve 26 = .ok (.lor, 1) := by decide +kernel
theorem dX5_halve_27 : decode cX5_halve 27 = .ok (.lastore, 1) := by decide +kernel
theorem dX5_halve_28 : decode cX5_halve 28 = .ok (.lload 4, 2) := by decide +kernel
theorem dX5_halve_30 : decode cX5_halve 30 = .ok (.lconst 1, 1) := by decide +kernel
theorem dX5_halve_31 : decode cX5_halve 31 = .ok (.land, 1) := by decide +kernel
theorem dX5_halve_32 : decode cX5_halve 32 = .ok (.lstore_n 1, 1) := by decide +kernel
theorem dX5_halve_33 : decode cX5_halve 33 = .ok (.iinc 3 (-1), 3) := by decide +kernel
theorem dX5_halve_36 : decode cX5_halve 36 = .ok (.goto (-29), 3) := by decide +kernel
theorem dX5_halve_39 : decode cX5_halve 39 = .ok (.return_, 1) := by decide +kernel
theorem dX5_multiply_0 : decode cX5_multiply 0 = .ok (.aload_n 0, 1) := by decide +kernel
theorem dX5_multiply_1 : decode cX5_multiply 1 = .ok (.lconst 0, 1) := by decide +kernel
theorem dX5_multiply_2 : decode cX5_multiply 2 = .ok (.invokestatic 39, 3) := by decide +kernel
theorem dX5_multiply_5 : decode cX5_multiply 5 = .ok (.iconst 0, 1) := by decide +kernel
theorem dX5_multiply_6 : decode cX5_multiply 6 = .ok (.istore_n 3, 1) := by decide +kernel
theorem dX5_multiply_7 : decode cX5_multiply 7 = .ok (.iload_n 3, 1) := by decide +kernel
theorem dX5_multiply_8 : decode cX5_multiply 8 = .ok (.aload_n 1, 1) := by decide +kernel
theorem dX5_multiply_9 : decode cX5_multiply 9 = .ok (.arraylength, 1) := by decide +kernel
theorem dX5_multiply_10 : decode cX5_multiply 10 = .ok (.if_icmp .ge 93, 3) := by decide +kernel
theorem dX5_multiply_13 : decode cX5_multiply 13 = .ok (.lconst 0, 1) := by decide +kernel
theorem dX5_multiply_14 : decode cX5_multiply 14 = .ok (.lstore 4, 2) := by decide +kernel
theorem dX5_multiply_16 : decode cX5_multiply 16 = .ok (.iconst 0, 1) := by decide +kernel
theorem dX5_multiply_17 : decode cX5_multiply 17 = .ok (.istore 6, 2) := by decide +kernel
theorem dX5_multiply_19 : decode cX5_multiply 19 = .ok (.iload 6, 2) := by decide +kernel
theorem dX5_multiply_21 : decode cX5_multiply 21 = .ok (.aload_n 2, 1) := by decide +kernel
theorem dX5_multiply_22 : decode cX5_multiply 22 = .ok (.arraylength, 1) := by decide +kernel
theorem dX5_multiply_23 : decode cX5_multiply 23 = .ok (.if_icmp .ge 57, 3) := by decide +kernel
theorem dX5_multiply_26 : decode cX5_multiply 26 = .ok (.iload_n 3, 1) := by decide +kernel
theorem dX5_multiply_27 : decode cX5_multiply 27 = .ok (.iload 6, 2) := by decide +kernel
theorem dX5_multiply_29 : decode cX5_multiply 29 = .ok (.iadd, 1) := by decide +kernel
theorem dX5_multiply_30 : decode cX5_multiply 30 = .ok (.aload_n 0, 1) := by decide +kernel
theorem dX5_multiply_31 : decode cX5_multiply 31 = .ok (.arraylength, 1) := by decide +kernel
theorem dX5_multiply_32 : decode cX5_multiply 32 = .ok (.if_icmp .ge 48, 3) := by decide +kernel
theorem dX5_multiply_35 : decode cX5_multiply 35 = .ok (.aload_n 1, 1) := by decide +kernel
theorem dX5_multiply_36 : decode cX5_multiply 36 = .ok (.iload_n 3, 1) := by decide +kernel
theorem dX5_multiply_37 : decode cX5_multiply 37 = .ok (.laload, 1) := by decide +kernel
theorem dX5_multiply_38 : decode cX5_multiply 38 = .ok (.aload_n 2, 1) := by decide +kernel
theorem dX5_multiply_39 : decode cX5_multiply 39 = .ok (.iload 6, 2) := by decide +kernel
theorem dX5_multiply_41 : decode cX5_multiply 41 = .ok (.laload, 1) := by decide +kernel
theorem dX5_multiply_42 : decode cX5_multiply 42 = .ok (.lmul, 1) := by decide +kernel
theorem dX5_multiply_43 : decode cX5_multiply 43 = .ok (.aload_n 0, 1) := by decide +kernel
theorem dX5_multiply_44 : decode cX5_multiply 44 = .ok (.iload_n 3, 1) := by decide +kernel
theorem dX5_multiply_45 : decode cX5_multiply 45 = .ok (.iload 6, 2) := by decide +kernel
theorem dX5_multiply_47 : decode cX5_multiply 47 = .ok (.iadd, 1) := by decide +kernel
theorem dX5_multiply_48 : decode cX5_multiply 48 = .ok (.laload, 1) := by decide +kernel
theorem dX5_multiply_49 : decode cX5_multiply 49 = .ok (.ladd, 1) := by decide +kernel
theorem dX5_multiply_50 : decode cX5_multiply 50 = .ok (.lload 4, 2) := by decide +kernel
theorem dX5_multiply_52 : decode cX5_multiply 52 = .ok (.ladd, 1) := by decide +kernel
theorem dX5_multiply_53 : decode cX5_multiply 53 = .ok (.lstore 7, 2) := by decide +kernel
theorem dX5_multiply_55 : decode cX5_multiply 55 = .ok (.aload_n 0, 1) := by decide +kernel
theorem dX5_multiply_56 : decode cX5_multiply 56 = .ok (.iload_n 3, 1) := by decide +kernel
theorem dX5_multiply_57 : decode cX5_multiply 57 = .ok (.iload 6, 2) := by decide +kernel
theorem dX5_multiply_59 : decode cX5_multiply 59 = .ok (.iadd, 1) := by decide +kernel
theorem dX5_multiply_60 : decode cX5_multiply 60 = .ok (.lload 7, 2) := by decide +kernel
theorem dX5_multiply_62 : decode cX5_multiply 62 = .ok (.ldc2_w 19, 3) := by decide +kernel
theorem dX5_multiply_65 : decode cX5_multiply 65 = .ok (.land, 1) := by decide +kernel
theorem dX5_multiply_66 : decode cX5_multiply 66 = .ok (.lastore, 1) := by decide +kernel
theorem dX5_multiply_67 : decode cX5_multiply 67 = .ok (.lload 7, 2) := by decide +kernel
theorem dX5_multiply_69 : decode cX5_multiply 69 = .ok (.bipush 32, 2) := by decide +kernel
theorem dX5_multiply_71 : decode cX5_multiply 71 = .ok (.lushr, 1) := by decide +kernel
theorem dX5_multiply_72 : decode cX5_multiply 72 = .ok (.lstore 4, 2) := by decide +kernel
theorem dX5_multiply_74 : decode cX5_multiply 74 = .ok (.iinc 6 1, 3) := by decide +kernel
theorem dX5_multiply_77 : decode cX5_multiply 77 = .ok (.goto (-58), 3) := by decide +kernel
theorem dX5_multiply_80 : decode cX5_multiply 80 = .ok (.iload_n 3, 1) := by decide +kernel
theorem dX5_multiply_81 : decode cX5_multiply 81 = .ok (.aload_n 2, 1) := by decide +kernel
theorem dX5_multiply_82 : decode cX5_multiply 82 = .ok (.arraylength, 1) := by decide +kernel
theorem dX5_multiply_83 : decode cX5_multiply 83 = .ok (.iadd, 1) := by decide +kernel
theorem dX5_multiply_84 : decode cX5_multiply 84 = .ok (.aload_n 0, 1) := by decide +kernel
theorem dX5_multiply_85 : decode cX5_multiply 85 = .ok (.arraylength, 1) := by decide +kernel
theorem dX5_multiply_86 : decode cX5_multiply 86 = .ok (.if_icmp .ge 11, 3) := by decide +kernel
theorem dX5_multiply_89 : decode cX5_multiply 89 = .ok (.aload_n 0, 1) := by decide +kernel
theorem dX5_multiply_90 : decode cX5_multiply 90 = .ok (.iload_n 3, 1) := by decide +kernel
theorem dX5_multiply_91 : decode cX5_multiply 91 = .ok (.aload_n 2, 1) := by decide +kernel
theorem dX5_multiply_92 : decode cX5_multiply 92 = .ok (.arraylength, 1) := by decide +kernel
theorem dX5_multiply_93 : decode cX5_multiply 93 = .ok (.iadd, 1) := by decide +kernel
theorem dX5_multiply_94 : decode cX5_multiply 94 = .ok (.lload 4, 2) := by decide +kernel
theorem dX5_multiply_96 : decode cX5_multiply 96 = .ok (.lastore, 1) := by decide +kernel
theorem dX5_multiply_97 : decode cX5_multiply 97 = .ok (.iinc 3 1, 3) := by decide +kernel
theorem dX5_multiply_100 : decode cX5_multiply 100 = .ok (.goto (-93), 3) := by decide +kernel
theorem dX5_multiply_103 : decode cX5_multiply 103 = .ok (.return_, 1) := by decide +kernel
theorem dX5_remainder_0 : decode cX5_remainder 0 = .ok (.iload_n 1, 1) := by decide +kernel
theorem dX5_remainder_1 : decode cX5_remainder 1 = .ok (.ifCond .gt 5, 3) := by decide +kernel
theorem dX5_remainder_4 : decode cX5_remainder 4 = .ok (.lconst 0, 1) := by decide +kernel
theorem dX5_remainder_5 : decode cX5_remainder 5 = .ok (.lreturn, 1) := by decide +kernel
theorem dX5_remainder_6 : decode cX5_remainder 6 = .ok (.lconst 0, 1) := by decide +kernel
theorem dX5_remainder_7 : decode cX5_remainder 7 = .ok (.lstore_n 2, 1) := by decide +kernel
theorem dX5_remainder_8 : decode cX5_remainder 8 = .ok (.aload_n 0, 1) := by decide +kernel
theorem dX5_remainder_9 : decode cX5_remainder 9 = .ok (.arraylength, 1) := by decide +kernel
theorem dX5_remainder_10 : decode cX5_remainder 10 = .ok (.iconst 1, 1) := by decide +kernel
theorem dX5_remainder_11 : decode cX5_remainder 11 = .ok (.isub, 1) := by decide +kernel
theorem dX5_remainder_12 : decode cX5_remainder 12 = .ok (.istore 4, 2) := by decide +kernel
theorem dX5_remainder_14 : decode cX5_remainder 14 = .ok (.iload 4, 2) := by decide +kernel
theorem dX5_remainder_16 : decode cX5_remainder 16 = .ok (.ifCond .lt 22, 3) := by decide +kernel
theorem dX5_remainder_19 : decode cX5_remainder 19 = .ok (.lload_n 2, 1) := by decide +kernel
theorem dX5_remainder_20 : decode cX5_remainder 20 = .ok (.bipush 32, 2) := by decide +kernel
theorem dX5_remainder_22 : decode cX5_remainder 22 = .ok (.lshl, 1) := by decide +kernel
theorem dX5_remainder_23 : decode cX5_remainder 23 = .ok (.aload_n 0, 1) := by decide +kernel
theorem dX5_remainder_24 : decode cX5_remainder 24 = .ok (.iload 4, 2) := by decide +kernel
theorem dX5_remainder_26 : decode cX5_remainder 26 = .ok (.laload, 1) := by decide +kernel
theorem dX5_remainder_27 : decode cX5_remainder 27 = .ok (.lor, 1) := by decide +kernel
theorem dX5_remainder_28 : decode cX5_remainder 28 = .ok (.iload_n 1, 1) := by decide +kernel
theorem dX5_remainder_29 : decode cX5_remainder 29 = .ok (.i2l, 1) := by decide +kernel
theorem dX5_remainder_30 : decode cX5_remainder 30 = .ok (.lrem, 1) := by decide +kernel
theorem dX5_remainder_31 : decode cX5_remainder 31 = .ok (.lstore_n 2, 1) := by decide +kernel
theorem dX5_remainder_32 : decode cX5_remainder 32 = .ok (.iinc 4 (-1), 3) := by decide +kernel
theorem dX5_remainder_35 : decode cX5_remainder 35 = .ok (.goto (-21), 3) := by decide +kernel
theorem dX5_remainder_38 : decode cX5_remainder 38 = .ok (.lload_n 2, 1) := by decide +kernel
theorem dX5_remainder_39 : decode cX5_remainder 39 = .ok (.lreturn, 1) := by decide +kernel
theorem dX6_init_0 : decode cX6_init 0 = .ok (.aload_n 0, 1) := by decide +kernel
theorem dX6_init_1 : decode cX6_init 1 = .ok (.invokespecial 1, 3) := by decide +kernel
theorem dX6_init_4 : decode cX6_init 4 = .ok (.aload_n 0, 1) := by decide +kernel
theorem dX6_init_5 : decode cX6_init 5 = .ok (.bipush 8, 2) := by decide +kernel
theorem dX6_init_7 : decode cX6_init 7 = .ok (.newarray .int, 2) := by decide +kernel
theorem dX6_init_9 : decode cX6_init 9 = .ok (.putfield 7, 3) := by decide +kernel
theorem dX6_init_12 : decode cX6_init 12 = .ok (.aload_n 0, 1) := by decide +kernel
theorem dX6_init_13 : decode cX6_init 13 = .ok (.bipush 64, 2) := by decide +kernel
theorem dX6_init_15 : decode cX6_init 15 = .ok (.newarray .int, 2) := by decide +kernel
theorem dX6_init_17 : decode cX6_init 17 = .ok (.putfield 13, 3) := by decide +kernel
theorem dX6_init_20 : decode cX6_init 20 = .ok (.return_, 1) := by decide +kernel
theorem dX6_hashFirst_0 : decode cX6_hashFirst 0 = .ok (.iconst 0, 1) := by decide +kernel
theorem dX6_hashFirst_1 : decode cX6_hashFirst 1 = .ok (.istore_n 3, 1) := by decide +kernel
theorem dX6_hashFirst_2 : decode cX6_hashFirst 2 = .ok (.iload_n 3, 1) := by decide +kernel
theorem dX6_hashFirst_3 : decode cX6_hashFirst 3 = .ok (.aload_n 0, 1) := by decide +kernel
theorem dX6_hashFirst_4 : decode cX6_hashFirst 4 = .ok (.getfield 7, 3) := by decide +kernel
theorem dX6_hashFirst_7 : decode cX6_hashFirst 7 = .ok (.arraylength, 1) := by decide +kernel
theorem dX6_hashFirst_8 : decode cX6_hashFirst 8 = .ok (.if_icmp .ge 28, 3) := by decide +kernel
theorem dX6_hashFirst_11 : decode cX6_hashFirst 11 = .ok (.iload_n 3, 1) := by decide +kernel
theorem dX6_hashFirst_12 : decode cX6_hashFirst 12 = .ok (.getstatic 16, 3) := by decide +kernel
theorem dX6_hashFirst_15 : decode cX6_hashFirst 15 = .ok (.arraylength, 1) := by decide +kernel
theorem dX6_hashFirst_16 : decode cX6_hashFirst 16 = .ok (.if_icmp .ge 20, 3) := by decide +kernel
theorem dX6_hashFirst_19 : decode cX6_hashFirst 19 = .ok (.aload_n 0, 1) := by decide +kernel
theorem dX6_hashFirst_20 : decode cX6_hashFirst 20 = .ok (.getfield 7, 3) := by decide +kernel
theorem dX6_hashFirst_23 : decode cX6_hashFirst 23 = .ok (.iload_n 3, 1) := by decide +kernel
theorem dX6_hashFirst_24 : decode cX6_hashFirst 24 = .ok (.getstatic 16, 3) := by decide +kernel
theorem dX6_hashFirst_27 : decode cX6_hashFirst 27 = .ok (.iload_n 3, 1) := by decide +kernel
theorem dX6_hashFirst_28 : decode cX6_hashFirst 28 = .ok (.iaload, 1) := by decide +kernel
theorem dX6_hashFirst_29 : decode cX6_hashFirst 29 = .ok (.iastore, 1) := by decide +kernel
theorem dX6_hashFirst_30 : decode cX6_hashFirst 30 = .ok (.iinc 3 1, 3) := by decide +kernel
theorem dX6_hashFirst_33 : decode cX6_hashFirst 33 = .ok (.goto (-31), 3) := by decide +kernel
theorem dX6_hashFirst_36 : decode cX6_hashFirst 36 = .ok (.iload_n 2, 1) := by decide +kernel
theorem dX6_hashFirst_37 : decode cX6_hashFirst 37 = .ok (.bipush 9, 2) := by decide +kernel
theorem dX6_hashFirst_39 : decode cX6_hashFirst 39 = .ok (.iadd, 1) := by decide +kernel
theorem dX6_hashFirst_40 : decode cX6_hashFirst 40 = .ok (.bipush 64, 2) := by decide +kernel
theorem dX6_hashFirst_42 : decode cX6_hashFirst 42 = .ok (.iadd, 1) := by decide +kernel
theorem dX6_hashFirst_43 : decode cX6_hashFirst 43 = .ok (.iconst 1, 1) := by decide +kernel
theorem dX6_hashFirst_44 : decode cX6_hashFirst 44 = .ok (.isub, 1) := by decide +kernel
theorem dX6_hashFirst_45 : decode cX6_hashFirst 45 = .ok (.bipush 64, 2) := by decide +kernel
theorem dX6_hashFirst_47 : decode cX6_hashFirst 47 = .ok (.idiv, 1) := by decide +kernel
theorem dX6_hashFirst_48 : decode cX6_hashFirst 48 = .ok (.istore_n 3, 1) := by decide +kernel
theorem dX6_hashFirst_49 : decode cX6_hashFirst 49 = .ok (.iconst 0, 1) := by decide +kernel
theorem dX6_hashFirst_50 : decode cX6_hashFirst 50 = .ok (.istore 4, 2) := by decide +kernel
theorem dX6_hashFirst_52 : decode cX6_hashFirst 52 = .ok (.iload 4, 2) := by decide +kernel
theorem dX6_hashFirst_54 : decode cX6_hashFirst 54 = .ok (.iload_n 3, 1) := by decide +kernel
theorem dX6_hashFirst_55 : decode cX6_hashFirst 55 = .ok (.if_icmp .ge 63, 3) := by decide +kernel
theorem dX6_hashFirst_58 : decode cX6_hashFirst 58 = .ok (.iconst 0, 1) := by decide +kernel
theorem dX6_hashFirst_59 : decode cX6_hashFirst 59 = .ok (.istore 5, 2) := by decide +kernel
theorem dX6_hashFirst_61 : decode cX6_hashFirst 61 = .ok (.iload 5, 2) := by decide +kernel
theorem dX6_hashFirst_63 : decode cX6_hashFirst 63 = .ok (.bipush 16, 2) := by decide +kernel
theorem dX6_hashFirst_65 : decode cX6_hashFirst 65 = .ok (.if_icmp .ge 39, 3) := by decide +kernel
theorem dX6_hashFirst_68 : decode cX6_hashFirst 68 = .ok (.bipush 64, 2) := by decide +kernel
theorem dX6_hashFirst_70 : decode cX6_hashFirst 70 = .ok (.iload 4, 2) := by decide +kernel
theorem dX6_hashFirst_72 : decode cX6_hashFirst 72 = .ok (.imul, 1) := by decide +kernel
theorem dX6_hashFirst_73 : decode cX6_hashFirst 73 = .ok (.iconst 4, 1) := by decide +kernel
theorem dX6_hashFirst_74 : decode cX6_hashFirst 74 = .ok (.iload 5, 2) := by decide +kernel
theorem dX6_hashFirst_76 : decode cX6_hashFirst 76 = .ok (.imul, 1) := by decide +kernel
theorem dX6_hashFirst_77 : decode cX6_hashFirst 77 = .ok (.iadd, 1) := by decide +kernel
theorem dX6_hashFirst_78 : decode cX6_hashFirst 78 = .ok (.istore 6, 2) := by decide +kernel
theorem dX6_hashFirst_80 : decode cX6_hashFirst 80 = .ok (.aload_n 0, 1) := by decide +kernel
theorem dX6_hashFirst_81 : decode cX6_hashFirst 81 = .ok (.getfield 13, 3) := by decide +kernel
theorem dX6_hashFirst_84 : decode cX6_hashFirst 84 = .ok (.iload 5, 2) := by decide +kernel
theorem dX6_hashFirst_86 : decode cX6_hashFirst 86 = .ok (.aload_n 1, 1) := by decide +kernel
theorem dX6_hashFirst_87 : decode cX6_hashFirst 87 = .ok (.iload_n 2, 1) := by decide +kernel
theorem dX6_hashFirst_88 : decode cX6_hashFirst 88 = .ok (.iload 6, 2) := by decide +kernel
theorem dX6_hashFirst_90 : decode cX6_hashFirst 90 = .ok (.bipush 64, 2) := by decide +kernel
theorem dX6_hashFirst_92 : decode cX6_hashFirst 92 = .ok (.iload_n 3, 1) := by decide +kernel
theorem dX6_hashFirst_93 : decode cX6_hashFirst 93 = .ok (.imul, 1) := by decide +kernel
theorem dX6_hashFirst_94 : decode cX6_hashFirst 94 = .ok (.invokestatic 19, 3) := by decide +kernel
theorem dX6_hashFirst_97 : decode cX6_hashFirst 97 = .ok (.iastore, 1) := by decide +kernel
theorem dX6_hashFirst_98 : decode cX6_hashFirst 98 = .ok (.iinc 5 1, 3) := by decide +kernel
theorem dX6_hashFirst_101 : decode cX6_hashFirst 101 = .ok (.goto (-40), 3) := by decide +kernel
theorem dX6_hashFirst_104 : decode cX6_hashFirst 104 = .ok (.aload_n 0, 1) := by decide +kernel
theorem dX6_hashFirst_105 : decode cX6_hashFirst 105 = .ok (.invokevirtual 23, 3) := by decide +kernel
theorem dX6_hashFirst_108 : decode cX6_hashFirst 108 = .ok (.aload_n 0, 1) := by decide +kernel
theorem dX6_hashFirst_109 : decode cX6_hashFirst 109 = .ok (.invokevirtual 26, 3) := by decide +kernel
theorem dX6_hashFirst_112 : decode cX6_hashFirst 112 = .ok (.iinc 4 1, 3) := by decide +kernel
theorem dX6_hashFirst_115 : decode cX6_hashFirst 115 = .ok (.goto (-63), 3) := by decide +kernel
theorem dX6_hashFirst_118 : decode cX6_hashFirst 118 = .ok (.return_, 1) := by decide +kernel
theorem dX6_byteAt_0 : decode cX6_byteAt 0 = .ok (.iload_n 1, 1) := by decide +kernel
theorem dX6_byteAt_1 : decode cX6_byteAt 1 = .ok (.iconst 2, 1) := by decide +kernel
theorem dX6_byteAt_2 : decode cX6_byteAt 2 = .ok (.ishr, 1) := by decide +kernel
theorem dX6_byteAt_3 : decode cX6_byteAt 3 = .ok (.istore_n 2, 1) := by decide +kernel
theorem dX6_byteAt_4 : decode cX6_byteAt 4 = .ok (.iload_n 2, 1) := by decide +kernel
theorem dX6_byteAt_5 : decode cX6_byteAt 5 = .ok (.ifCond .lt 12, 3) := by decide +kernel
theorem dX6_byteAt_8 : decode cX6_byteAt 8 = .ok (.iload_n 2, 1) := by decide +kernel
theorem dX6_byteAt_9 : decode cX6_byteAt 9 = .ok (.aload_n 0, 1) := by decide +kernel
theorem dX6_byteAt_10 : decode cX6_byteAt 10 = .ok (.getfield 7, 3) := by decide +kernel
theorem dX6_byteAt_13 : decode cX6_byteAt 13 = .ok (.arraylength, 1) := by decide +kernel
theorem dX6_byteAt_14 : decode cX6_byteAt 14 = .ok (.if_icmp .lt 5, 3) := by decide +kernel
theorem dX6_byteAt_17 : decode cX6_byteAt 17 = .ok (.iconst 0, 1) := by decide +kernel
theorem dX6_byteAt_18 : decode cX6_byteAt 18 = .ok (.ireturn, 1) := by decide +kernel
theorem dX6_byteAt_19 : decode cX6_byteAt 19 = .ok (.aload_n 0, 1) := by decide +kernel
theorem dX6_byteAt_20 : decode cX6_byteAt 20 = .ok (.getfield 7, 3) := by decide +kernel
theorem dX6_byteAt_23 : decode cX6_byteAt 23 = .ok (.iload_n 2, 1) := by decide +kernel
theorem dX6_byteAt_24 : decode cX6_byteAt 24 = .ok (.iaload, 1) := by decide +kernel
theorem dX6_byteAt_25 : decode cX6_byteAt 25 = .ok (.bipush 24, 2) := by decide +kernel
theorem dX6_byteAt_27 : decode cX6_byteAt 27 = .ok (.bipush 8, 2) := by decide +kernel
theorem dX6_byteAt_29 : decode cX6_byteAt 29 = .ok (.iload_n 1, 1) := by decide +kernel
theorem dX6_byteAt_30 : decode cX6_byteAt 30 = .ok (.iconst 3, 1) := by decide +kernel
theorem dX6_byteAt_31 : decode cX6_byteAt 31 = .ok (.iand, 1) := by decide +kernel
theorem dX6_byteAt_32 : decode cX6_byteAt 32 = .ok (.imul, 1) := by decide +kernel
theorem dX6_byteAt_33 : decode cX6_byteAt 33 = .ok (.isub, 1) := by decide +kernel
theorem dX6_byteAt_34 : decode cX6_byteAt 34 = .ok (.iushr, 1) := by decide +kernel
theorem dX6_byteAt_35 : decode cX6_byteAt 35 = .ok (.sipush 255, 3) := by decide +kernel
theorem dX6_byteAt_38 : decode cX6_byteAt 38 = .ok (.iand, 1) := by decide +kernel
theorem dX6_byteAt_39 : decode cX6_byteAt 39 = .ok (.ireturn, 1) := by decide +kernel
theorem dX6_paddedWord_0 : decode cX6_paddedWord 0 = .ok (.iload_n 2, 1) := by decide +kernel
theorem dX6_paddedWord_1 : decode cX6_paddedWord 1 = .ok (.iload_n 3, 1) := by decide +kernel
theorem dX6_paddedWord_2 : decode cX6_paddedWord 2 = .ok (.iconst 4, 1) := by decide +kernel
theorem dX6_paddedWord_3 : decode cX6_paddedWord 3 = .ok (.isub, 1) := by decide +kernel
theorem dX6_paddedWord_4 : decode cX6_paddedWord 4 = .ok (.if_icmp .ne 8, 3) := by decide +kernel
theorem dX6_paddedWord_7 : decode cX6_paddedWord 7 = .ok (.bipush 8, 2) := by decide +kernel
theorem dX6_paddedWord_9 : decode cX6_paddedWord 9 = .ok (.iload_n 1, 1) := by decide +kernel
theorem dX6_paddedWord_10 : decode cX6_paddedWord 10 = .ok (.imul, 1) := by decide +kernel
theorem dX6_paddedWord_11 : decode cX6_paddedWord 11 = .ok (.ireturn, 1) := by decide +kernel
theorem dX6_paddedWord_12 : decode cX6_paddedWord 12 = .ok (.iconst 0, 1) := by decide +kernel
theorem dX6_paddedWord_13 : decode cX6_paddedWord 13 = .ok (.istore 4, 2) := by decide +kernel
theorem dX6_paddedWord_15 : decode cX6_paddedWord 15 = .ok (.iload_n 2, 1) := by decide +kernel
theorem dX6_paddedWord_16 : decode cX6_paddedWord 16 = .ok (.istore 5, 2) := by decide +kernel
theorem dX6_paddedWord_18 : decode cX6_paddedWord 18 = .ok (.iload 5, 2) := by decide +kernel
theorem dX6_paddedWord_20 : decode cX6_paddedWord 20 = .ok (.iload_n 2, 1) := by decide +kernel
theorem dX6_paddedWord_21 : decode cX6_paddedWord 21 = .ok (.iconst 4, 1) := by decide +kernel
theorem dX6_paddedWord_22 : decode cX6_paddedWord 22 = .ok (.iadd, 1) := by decide +kernel
theorem dX6_paddedWord_23 : decode cX6_paddedWord 23 = .ok (.if_icmp .ge 62, 3) := by decide +kernel
theorem dX6_paddedWord_26 : decode cX6_paddedWord 26 = .ok (.iload 5, 2) := by decide +kernel
theorem dX6_paddedWord_28 : decode cX6_paddedWord 28 = .ok (.iload_n 1, 1) := by decide +kernel
theorem dX6_paddedWord_29 : decode cX6_paddedWord 29 = .ok (.if_icmp .ne 9, 3) := by decide +kernel
theorem dX6_paddedWord_32 : decode cX6_paddedWord 32 = .ok (.sipush 128, 3) := by decide +kernel
theorem dX6_paddedWord_35 : decode cX6_paddedWord 35 = .ok (.goto 4, 3) := by decide +kernel
theorem dX6_paddedWord_38 : decode cX6_paddedWord 38 = .ok (.iconst 0, 1) := by decide +kernel
theorem dX6_paddedWord_39 : decode cX6_paddedWord 39 = .ok (.istore 6, 2) := by decide +kernel
theorem dX6_paddedWord_41 : decode cX6_paddedWord 41 = .ok (.iload 5, 2) := by decide +kernel
theorem dX6_paddedWord_43 : decode cX6_paddedWord 43 = .ok (.ifCond .lt 26, 3) := by decide +kernel
theorem dX6_paddedWord_46 : decode cX6_paddedWord 46 = .ok (.iload 5, 2) := by decide +kernel
theorem dX6_paddedWord_48 : decode cX6_paddedWord 48 = .ok (.iload_n 1, 1) := by decide +kernel
theorem dX6_paddedWord_49 : decode cX6_paddedWord 49 = .ok (.if_icmp .ge 20, 3) := by decide +kernel
theorem dX6_paddedWord_52 : decode cX6_paddedWord 52 = .ok (.iload 5, 2) := by decide +kernel
theorem dX6_paddedWord_54 : decode cX6_paddedWord 54 = .ok (.aload_n 0, 1) := by decide +kernel
theorem dX6_paddedWord_55 : decode cX6_paddedWord 55 = .ok (.arraylength, 1) := by decide +kernel
theorem dX6_paddedWord_56 : decode cX6_paddedWord 56 = .ok (.if_icmp .ge 13, 3) := by decide +kernel
theorem dX6_paddedWord_59 : decode cX6_paddedWord 59 = .ok (.aload_n 0, 1) := by decide +kernel
theorem dX6_paddedWord_60 : decode cX6_paddedWord 60 = .ok (.iload 5, 2) := by decide +kernel
theorem dX6_paddedWord_62 : decode cX6_paddedWord 62 = .ok (.baload, 1) := by decide +kernel
theorem dX6_paddedWord_63 : decode cX6_paddedWord 63 = .ok (.sipush 255, 3) := by decide +kernel
theorem dX6_paddedWord_66 : decode cX6_paddedWord 66 = .ok (.iand, 1) := by decide +kernel
theorem dX6_paddedWord_67 : decode cX6_paddedWord 67 = .ok (.istore 6, 2) := by decide +kernel
theorem dX6_paddedWord_69 : decode cX6_paddedWord 69 = .ok (.iload 4, 2) := by decide +kernel
theorem dX6_paddedWord_71 : decode cX6_paddedWord 71 = .ok (.bipush 8, 2) := by decide +kernel
theorem dX6_paddedWord_73 : decode cX6_paddedWord 73 = .ok (.ishl, 1) := by decide +kernel
theorem dX6_paddedWord_74 : decode cX6_paddedWord 74 = .ok (.iload 6, 2) := by decide +kernel
theorem dX6_paddedWord_76 : decode cX6_paddedWord 76 = .ok (.ior, 1) := by decide +kernel
theorem dX6_paddedWord_77 : decode cX6_paddedWord 77 = .ok (.istore 4, 2) := by decide +kernel
theorem dX6_paddedWord_79 : decode cX6_paddedWord 79 = .ok (.iinc 5 1, 3) := by decide +kernel
theorem dX6_paddedWord_82 : decode cX6_paddedWord 82 = .ok (.goto (-64), 3) := by decide +kernel
theorem dX6_paddedWord_85 : decode cX6_paddedWord 85 = .ok (.iload 4, 2) := by decide +kernel
theorem dX6_paddedWord_87 : decode cX6_paddedWord 87 = .ok (.ireturn, 1) := by decide +kernel
theorem dX6_extendSchedule_0 : decode cX6_extendSchedule 0 = .ok (.bipush 16, 2) := by decide +kernel
theorem dX6_extendSchedule_2 : decode cX6_extendSchedule 2 = .ok (.istore_n 1, 1) := by decide +kernel
theorem dX6_extendSchedule_3 : decode cX6_extendSchedule 3 = .ok (.iload_n 1, 1) := by decide +kernel
theorem dX6_extendSchedule_4 : decode cX6_extendSchedule 4 = .ok (.aload_n 0, 1) := by decide +kernel
theorem dX6_extendSchedule_5 : decode cX6_extendSchedule 5 = .ok (.getfield 13, 3) := by decide +kernel
theorem dX6_extendSchedule_8 : decode cX6_extendSchedule 8 = .ok (.arraylength, 1) := by decide +kernel
theorem dX6_extendSchedule_9 : decode cX6_extendSchedule 9 = .ok (.if_icmp .ge 98, 3) := by decide +kernel
theorem dX6_extendSchedule_12 : decode cX6_extendSchedule 12 = .ok (.aload_n 0, 1) := by decide +kernel
theorem dX6_extendSchedule_13 : decode cX6_extendSchedule 13 = .ok (.getfield 13, 3) := by decide +kernel
theorem dX6_extendSchedule_16 : decode cX6_extendSchedule 16 = .ok (.iload_n 1, 1) := by decide +kernel
theorem dX6_extendSchedule_17 : decode cX6_extendSchedule 17 = .ok (.bipush 15, 2) := by decide +kernel
theorem dX6_extendSchedule_19 : decode cX6_extendSchedule 19 = .ok (.isub, 1) := by decide +kernel
theorem dX6_extendSchedule_20 : decode cX6_extendSchedule 20 = .ok (.iaload, 1) := by decide +kernel
theorem dX6_extendSchedule_21 : decode cX6_extendSchedule 21 = .ok (.istore_n 2, 1) := by decide +kernel
theorem dX6_extendSchedule_22 : decode cX6_extendSchedule 22 = .ok (.aload_n 0, 1) := by decide +kernel
theorem dX6_extendSchedule_23 : decode cX6_extendSchedule 23 = .ok (.getfield 13, 3) := by decide +kernel
theorem dX6_extendSchedule_26 : decode cX6_extendSchedule 26 = .ok (.iload_n 1, 1) := by decide +kernel
theorem dX6_extendSchedule_27 : decode cX6_extendSchedule 27 = .ok (.iconst 2, 1) := by decide +kernel
theorem dX6_extendSchedule_28 : decode cX6_extendSchedule 28 = .ok (.isub, 1) := by decide +kernel
theorem dX6_extendSchedule_29 : decode cX6_extendSchedule 29 = .ok (.iaload, 1) := by decide +kernel
theorem dX6_extendSchedule_30 : decode cX6_extendSchedule 30 = .ok (.istore_n 3, 1) := by decide +kernel
theorem dX6_extendSchedule_31 : decode cX6_extendSchedule 31 = .ok (.iload_n 2, 1) := by decide +kernel
theorem dX6_extendSchedule_32 : decode cX6_extendSchedule 32 = .ok (.bipush 7, 2) := by decide +kernel
theorem dX6_extendSchedule_34 : decode cX6_extendSchedule 34 = .ok (.invokestatic 29, 3) := by decide +kernel
theorem dX6_extendSchedule_37 : decode cX6_extendSchedule 37 = .ok (.iload_n 2, 1) := by decide +kernel
theorem dX6_extendSchedule_38 : decode cX6_extendSchedule 38 = .ok (.bipush 18, 2) := by decide +kernel
theorem dX6_extendSchedule_40 : decode cX6_extendSchedule 40 = .ok (.invokestatic 29, 3) := by decide +kernel
theorem dX6_extendSchedule_43 : decode cX6_extendSchedule 43 = .ok (.ixor, 1) := by decide +kernel
theorem dX6_extendSchedule_44 : decode cX6_extendSchedule 44 = .ok (.iload_n 2, 1) := by decide +kernel
theorem dX6_extendSchedule_45 : decode cX6_extendSchedule 45 = .ok (.iconst 3, 1) := by decide +kernel
theorem dX6_extendSchedule_46 : decode cX6_extendSchedule 46 = .ok (.iushr, 1) := by decide +kernel
theorem dX6_extendSchedule_47 : decode cX6_extendSchedule 47 = .ok (.ixor, 1) := by decide +kernel
theorem dX6_extendSchedule_48 : decode cX6_extendSchedule 48 = .ok (.istore 4, 2) := by decide +kernel
theorem dX6_extendSchedule_50 : decode cX6_extendSchedule 50 = .ok (.iload_n 3, 1) := by decide +kernel
theorem dX6_extendSchedule_51 : decode cX6_extendSchedule 51 = .ok (.bipush 17, 2) := by decide +kernel
theorem dX6_extendSchedule_53 : decode cX6_extendSchedule 53 = .ok (.invokestatic 29, 3) := by decide +kernel
theorem dX6_extendSchedule_56 : decode cX6_extendSchedule 56 = .ok (.iload_n 3, 1) := by decide +kernel
theorem dX6_extendSchedule_57 : decode cX6_extendSchedule 57 = .ok (.bipush 19, 2) := by decide +kernel
theorem dX6_extendSchedule_59 : decode cX6_extendSchedule 59 = .ok (.invokestatic 29, 3) := by decide +kernel
theorem dX6_extendSchedule_62 : decode cX6_extendSchedule 62 = .ok (.ixor, 1) := by decide +kernel
theorem dX6_extendSchedule_63 : decode cX6_extendSchedule 63 = .ok (.iload_n 3, 1) := by decide +kernel
theorem dX6_extendSchedule_64 : decode cX6_extendSchedule 64 = .ok (.bipush 10, 2) := by decide +kernel
theorem dX6_extendSchedule_66 : decode cX6_extendSchedule 66 = .ok (.iushr, 1) := by decide +kernel
theorem dX6_extendSchedule_67 : decode cX6_extendSchedule 67 = .ok (.ixor, 1) := by decide +kernel
theorem dX6_extendSchedule_68 : decode cX6_extendSchedule 68 = .ok (.istore 5, 2) := by decide +kernel
theorem dX6_extendSchedule_70 : decode cX6_extendSchedule 70 = .ok (.aload_n 0, 1) := by decide +kernel
theorem dX6_extendSchedule_71 : decode cX6_extendSchedule 71 = .ok (.getfield 13, 3) := by decide +kernel
theorem dX6_extendSchedule_74 : decode cX6_extendSchedule 74 = .ok (.iload_n 1, 1) := by decide +kernel
theorem dX6_extendSchedule_75 : decode cX6_extendSchedule 75 = .ok (.aload_n 0, 1) := by decide +kernel
theorem dX6_extendSchedule_76 : decode cX6_extendSchedule 76 = .ok (.getfield 13, 3) := by decide +kernel
theorem dX6_extendSchedule_79 : decode cX6_extendSchedule 79 = .ok (.iload_n 1, 1) := by decide +kernel
theorem dX6_extendSchedule_80 : decode cX6_extendSchedule 80 = .ok (.bipush 16, 2) := by decide +kernel
theorem dX6_extendSchedule_82 : decode cX6_extendSchedule 82 = .ok (.isub, 1) := by decide +kernel
theorem dX6_extendSchedule_83 : decode cX6_extendSchedule 83 = .ok (.iaload, 1) := by decide +kernel
theorem dX6_extendSchedule_84 : decode cX6_extendSchedule 84 = .ok (.iload 4, 2) := by decide +kernel
theorem dX6_extendSchedule_86 : decode cX6_extendSchedule 86 = .ok (.iadd, 1) := by decide +kernel
theorem dX6_extendSchedule_87 : decode cX6_extendSchedule 87 = .ok (.aload_n 0, 1) := by decide +kernel
theorem dX6_extendSchedule_88 : decode cX6_extendSchedule 88 = .ok (.getfield 13, 3) := by decide +kernel
theorem dX6_extendSchedule_91 : decode cX6_extendSchedule 91 = .ok (.iload_n 1, 1) := by decide +kernel
theorem dX6_extendSchedule_92 : decode cX6_extendSchedule 92 = .ok (.bipush 7, 2) := by decide +kernel
theorem dX6_extendSchedule_94 : decode cX6_extendSchedule 94 = .ok (.isub, 1) := by decide +kernel
theorem dX6_extendSchedule_95 : decode cX6_extendSchedule 95 = .ok (.iaload, 1) := by decide +kernel
theorem dX6_extendSchedule_96 : decode cX6_extendSchedule 96 = .ok (.iadd, 1) := by decide +kernel
theorem dX6_extendSchedule_97 : decode cX6_extendSchedule 97 = .ok (.iload 5, 2) := by decide +kernel
theorem dX6_extendSchedule_99 : decode cX6_extendSchedule 99 = .ok (.iadd, 1) := by decide +kernel
theorem dX6_extendSchedule_100 : decode cX6_extendSchedule 100 = .ok (.iastore, 1) := by decide +kernel
theorem dX6_extendSchedule_101 : decode cX6_extendSchedule 101 = .ok (.iinc 1 1, 3) := by decide +kernel
theorem dX6_extendSchedule_104 : decode cX6_extendSchedule 104 = .ok (.goto (-101), 3) := by decide +kernel
theorem dX6_extendSchedule_107 : decode cX6_extendSchedule 107 = .ok (.return_, 1) := by decide +kernel
theorem dX6_mixBlock_0 : decode cX6_mixBlock 0 = .ok (.aload_n 0, 1) := by decide +kernel
theorem dX6_mixBlock_1 : decode cX6_mixBlock 1 = .ok (.getfield 7, 3) := by decide +kernel
theorem dX6_mixBlock_4 : decode cX6_mixBlock 4 = .ok (.iconst 0, 1) := by decide +kernel
theorem dX6_mixBlock_5 : decode cX6_mixBlock 5 = .ok (.iaload, 1) := by decide +kernel
theorem dX6_mixBlock_6 : decode cX6_mixBlock 6 = .ok (.istore_n 1, 1) := by decide +kernel
end
section
theorem dX6_mixBlock_7 : decode cX6_mixBlock 7 = .ok (.aload_n 0, 1) := by decide +kernel
theorem dX6_mixBlock_8 : decode cX6_mixBlock 8 = .ok (.getfield 7, 3) := by decide +kernel
theorem dX6_mixBlock_11 : decode cX6_mixBlock 11 = .ok (.iconst 1, 1) := by decide +kernel
theorem dX6_mixBlock_12 : decode cX6_mixBlock 12 = .ok (.iaload, 1) := by decide +kernel
theorem dX6_mixBlock_13 : decode cX6_mixBlock 13 = .ok (.istore_n 2, 1) := by decide +kernel
theorem dX6_mixBlock_14 : decode cX6_mixBlock 14 = .ok (.aload_n 0, 1) := by decide +kernel
theorem dX6_mixBlock_15 : decode cX6_mixBlock 15 = .ok (.getfield 7, 3) := by decide +kernel
theorem dX6_mixBlock_18 : decode cX6_mixBlock 18 = .ok (.iconst 2, 1) := by decide +kernel
theorem dX6_mixBlock_19 : decode cX6_mixBlock 19 = .ok (.iaload, 1) := by decide +kernel
theorem dX6_mixBlock_20 : decode cX6_mixBlock 20 = .ok (.istore_n 3, 1) := by decide +kernel
theorem dX6_mixBlock_21 : decode cX6_mixBlock 21 = .ok (.aload_n 0, 1) := by decide +kernel
theorem dX6_mixBlock_22 : decode cX6_mixBlock 22 = .ok (.getfield 7, 3) := by decide +kernel
theorem dX6_mixBlock_25 : decode cX6_mixBlock 25 = .ok (.iconst 3, 1) := by decide +kernel
theorem dX6_mixBlock_26 : decode cX6_mixBlock 26 = .ok (.iaload, 1) := by decide +kernel
theorem dX6_mixBlock_27 : decode cX6_mixBlock 27 = .ok (.istore 4, 2) := by decide +kernel
theorem dX6_mixBlock_29 : decode cX6_mixBlock 29 = .ok (.aload_n 0, 1) := by decide +kernel
theorem dX6_mixBlock_30 : decode cX6_mixBlock 30 = .ok (.getfield 7, 3) := by decide +kernel
theorem dX6_mixBlock_33 : decode cX6_mixBlock 33 = .ok (.iconst 4, 1) := by decide +kernel
theorem dX6_mixBlock_34 : decode cX6_mixBlock 34 = .ok (.iaload, 1) := by decide +kernel
theorem dX6_mixBlock_35 : decode cX6_mixBlock 35 = .ok (.istore 5, 2) := by decide +kernel
theorem dX6_mixBlock_37 : decode cX6_mixBlock 37 = .ok (.aload_n 0, 1) := by decide +kernel
theorem dX6_mixBlock_38 : decode cX6_mixBlock 38 = .ok (.getfield 7, 3) := by decide +kernel
theorem dX6_mixBlock_41 : decode cX6_mixBlock 41 = .ok (.iconst 5, 1) := by decide +kernel
theorem dX6_mixBlock_42 : decode cX6_mixBlock 42 = .ok (.iaload, 1) := by decide +kernel
theorem dX6_mixBlock_43 : decode cX6_mixBlock 43 = .ok (.istore 6, 2) := by decide +kernel
theorem dX6_mixBlock_45 : decode cX6_mixBlock 45 = .ok (.aload_n 0, 1) := by decide +kernel
theorem dX6_mixBlock_46 : decode cX6_mixBlock 46 = .ok (.getfield 7, 3) := by decide +kernel
theorem dX6_mixBlock_49 : decode cX6_mixBlock 49 = .ok (.bipush 6, 2) := by decide +kernel
theorem dX6_mixBlock_51 : decode cX6_mixBlock 51 = .ok (.iaload, 1) := by decide +kernel
theorem dX6_mixBlock_52 : decode cX6_mixBlock 52 = .ok (.istore 7, 2) := by decide +kernel
theorem dX6_mixBlock_54 : decode cX6_mixBlock 54 = .ok (.aload_n 0, 1) := by decide +kernel
theorem dX6_mixBlock_55 : decode cX6_mixBlock 55 = .ok (.getfield 7, 3) := by decide +kernel
theorem dX6_mixBlock_58 : decode cX6_mixBlock 58 = .ok (.bipush 7, 2) := by decide +kernel
theorem dX6_mixBlock_60 : decode cX6_mixBlock 60 = .ok (.iaload, 1) := by decide +kernel
theorem dX6_mixBlock_61 : decode cX6_mixBlock 61 = .ok (.istore 8, 2) := by decide +kernel
theorem dX6_mixBlock_63 : decode cX6_mixBlock 63 = .ok (.iconst 0, 1) := by decide +kernel
theorem dX6_mixBlock_64 : decode cX6_mixBlock 64 = .ok (.istore 9, 2) := by decide +kernel
theorem dX6_mixBlock_66 : decode cX6_mixBlock 66 = .ok (.iload 9, 2) := by decide +kernel
theorem dX6_mixBlock_68 : decode cX6_mixBlock 68 = .ok (.aload_n 0, 1) := by decide +kernel
theorem dX6_mixBlock_69 : decode cX6_mixBlock 69 = .ok (.getfield 13, 3) := by decide +kernel
theorem dX6_mixBlock_72 : decode cX6_mixBlock 72 = .ok (.arraylength, 1) := by decide +kernel
theorem dX6_mixBlock_73 : decode cX6_mixBlock 73 = .ok (.if_icmp .ge 152, 3) := by decide +kernel
theorem dX6_mixBlock_76 : decode cX6_mixBlock 76 = .ok (.iload 9, 2) := by decide +kernel
theorem dX6_mixBlock_78 : decode cX6_mixBlock 78 = .ok (.getstatic 35, 3) := by decide +kernel
theorem dX6_mixBlock_81 : decode cX6_mixBlock 81 = .ok (.arraylength, 1) := by decide +kernel
theorem dX6_mixBlock_82 : decode cX6_mixBlock 82 = .ok (.if_icmp .ge 143, 3) := by decide +kernel
theorem dX6_mixBlock_85 : decode cX6_mixBlock 85 = .ok (.iload 5, 2) := by decide +kernel
theorem dX6_mixBlock_87 : decode cX6_mixBlock 87 = .ok (.bipush 6, 2) := by decide +kernel
theorem dX6_mixBlock_89 : decode cX6_mixBlock 89 = .ok (.invokestatic 29, 3) := by decide +kernel
theorem dX6_mixBlock_92 : decode cX6_mixBlock 92 = .ok (.iload 5, 2) := by decide +kernel
theorem dX6_mixBlock_94 : decode cX6_mixBlock 94 = .ok (.bipush 11, 2) := by decide +kernel
theorem dX6_mixBlock_96 : decode cX6_mixBlock 96 = .ok (.invokestatic 29, 3) := by decide +kernel
theorem dX6_mixBlock_99 : decode cX6_mixBlock 99 = .ok (.ixor, 1) := by decide +kernel
theorem dX6_mixBlock_100 : decode cX6_mixBlock 100 = .ok (.iload 5, 2) := by decide +kernel
theorem dX6_mixBlock_102 : decode cX6_mixBlock 102 = .ok (.bipush 25, 2) := by decide +kernel
theorem dX6_mixBlock_104 : decode cX6_mixBlock 104 = .ok (.invokestatic 29, 3) := by decide +kernel
theorem dX6_mixBlock_107 : decode cX6_mixBlock 107 = .ok (.ixor, 1) := by decide +kernel
theorem dX6_mixBlock_108 : decode cX6_mixBlock 108 = .ok (.istore 10, 2) := by decide +kernel
theorem dX6_mixBlock_110 : decode cX6_mixBlock 110 = .ok (.iload_n 1, 1) := by decide +kernel
theorem dX6_mixBlock_111 : decode cX6_mixBlock 111 = .ok (.iconst 2, 1) := by decide +kernel
theorem dX6_mixBlock_112 : decode cX6_mixBlock 112 = .ok (.invokestatic 29, 3) := by decide +kernel
theorem dX6_mixBlock_115 : decode cX6_mixBlock 115 = .ok (.iload_n 1, 1) := by decide +kernel
theorem dX6_mixBlock_116 : decode cX6_mixBlock 116 = .ok (.bipush 13, 2) := by decide +kernel
theorem dX6_mixBlock_118 : decode cX6_mixBlock 118 = .ok (.invokestatic 29, 3) := by decide +kernel
theorem dX6_mixBlock_121 : decode cX6_mixBlock 121 = .ok (.ixor, 1) := by decide +kernel
theorem dX6_mixBlock_122 : decode cX6_mixBlock 122 = .ok (.iload_n 1, 1) := by decide +kernel
theorem dX6_mixBlock_123 : decode cX6_mixBlock 123 = .ok (.bipush 22, 2) := by decide +kernel
theorem dX6_mixBlock_125 : decode cX6_mixBlock 125 = .ok (.invokestatic 29, 3) := by decide +kernel
theorem dX6_mixBlock_128 : decode cX6_mixBlock 128 = .ok (.ixor, 1) := by decide +kernel
theorem dX6_mixBlock_129 : decode cX6_mixBlock 129 = .ok (.istore 11, 2) := by decide +kernel
theorem dX6_mixBlock_131 : decode cX6_mixBlock 131 = .ok (.iload 5, 2) := by decide +kernel
theorem dX6_mixBlock_133 : decode cX6_mixBlock 133 = .ok (.iload 6, 2) := by decide +kernel
theorem dX6_mixBlock_135 : decode cX6_mixBlock 135 = .ok (.iand, 1) := by decide +kernel
theorem dX6_mixBlock_136 : decode cX6_mixBlock 136 = .ok (.iload 5, 2) := by decide +kernel
theorem dX6_mixBlock_138 : decode cX6_mixBlock 138 = .ok (.iconst (-1), 1) := by decide +kernel
theorem dX6_mixBlock_139 : decode cX6_mixBlock 139 = .ok (.ixor, 1) := by decide +kernel
theorem dX6_mixBlock_140 : decode cX6_mixBlock 140 = .ok (.iload 7, 2) := by decide +kernel
theorem dX6_mixBlock_142 : decode cX6_mixBlock 142 = .ok (.iand, 1) := by decide +kernel
theorem dX6_mixBlock_143 : decode cX6_mixBlock 143 = .ok (.ixor, 1) := by decide +kernel
theorem dX6_mixBlock_144 : decode cX6_mixBlock 144 = .ok (.istore 12, 2) := by decide +kernel
theorem dX6_mixBlock_146 : decode cX6_mixBlock 146 = .ok (.iload_n 1, 1) := by decide +kernel
theorem dX6_mixBlock_147 : decode cX6_mixBlock 147 = .ok (.iload_n 2, 1) := by decide +kernel
theorem dX6_mixBlock_148 : decode cX6_mixBlock 148 = .ok (.iand, 1) := by decide +kernel
theorem dX6_mixBlock_149 : decode cX6_mixBlock 149 = .ok (.iload_n 1, 1) := by decide +kernel
theorem dX6_mixBlock_150 : decode cX6_mixBlock 150 = .ok (.iload_n 3, 1) := by decide +kernel
theorem dX6_mixBlock_151 : decode cX6_mixBlock 151 = .ok (.iand, 1) := by decide +kernel
theorem dX6_mixBlock_152 : decode cX6_mixBlock 152 = .ok (.ixor, 1) := by decide +kernel
theorem dX6_mixBlock_153 : decode cX6_mixBlock 153 = .ok (.iload_n 2, 1) := by decide +kernel
theorem dX6_mixBlock_154 : decode cX6_mixBlock 154 = .ok (.iload_n 3, 1) := by decide +kernel
theorem dX6_mixBlock_155 : decode cX6_mixBlock 155 = .ok (.iand, 1) := by decide +kernel
theorem dX6_mixBlock_156 : decode cX6_mixBlock 156 = .ok (.ixor, 1) := by decide +kernel
theorem dX6_mixBlock_157 : decode cX6_mixBlock 157 = .ok (.istore 13, 2) := by decide +kernel
theorem dX6_mixBlock_159 : decode cX6_mixBlock 159 = .ok (.iload 8, 2) := by decide +kernel
theorem dX6_mixBlock_161 : decode cX6_mixBlock 161 = .ok (.iload 10, 2) := by decide +kernel
theorem dX6_mixBlock_163 : decode cX6_mixBlock 163 = .ok (.iadd, 1) := by decide +kernel
theorem dX6_mixBlock_164 : decode cX6_mixBlock 164 = .ok (.iload 12, 2) := by decide +kernel
theorem dX6_mixBlock_166 : decode cX6_mixBlock 166 = .ok (.iadd, 1) := by decide +kernel
theorem dX6_mixBlock_167 : decode cX6_mixBlock 167 = .ok (.getstatic 35, 3) := by decide +kernel
theorem dX6_mixBlock_170 : decode cX6_mixBlock 170 = .ok (.iload 9, 2) := by decide +kernel
theorem dX6_mixBlock_172 : decode cX6_mixBlock 172 = .ok (.iaload, 1) := by decide +kernel
theorem dX6_mixBlock_173 : decode cX6_mixBlock 173 = .ok (.iadd, 1) := by decide +kernel
theorem dX6_mixBlock_174 : decode cX6_mixBlock 174 = .ok (.aload_n 0, 1) := by decide +kernel
theorem dX6_mixBlock_175 : decode cX6_mixBlock 175 = .ok (.getfield 13, 3) := by decide +kernel
theorem dX6_mixBlock_178 : decode cX6_mixBlock 178 = .ok (.iload 9, 2) := by decide +kernel
theorem dX6_mixBlock_180 : decode cX6_mixBlock 180 = .ok (.iaload, 1) := by decide +kernel
theorem dX6_mixBlock_181 : decode cX6_mixBlock 181 = .ok (.iadd, 1) := by decide +kernel
theorem dX6_mixBlock_182 : decode cX6_mixBlock 182 = .ok (.istore 14, 2) := by decide +kernel
theorem dX6_mixBlock_184 : decode cX6_mixBlock 184 = .ok (.iload 7, 2) := by decide +kernel
theorem dX6_mixBlock_186 : decode cX6_mixBlock 186 = .ok (.istore 8, 2) := by decide +kernel
theorem dX6_mixBlock_188 : decode cX6_mixBlock 188 = .ok (.iload 6, 2) := by decide +kernel
theorem dX6_mixBlock_190 : decode cX6_mixBlock 190 = .ok (.istore 7, 2) := by decide +kernel
theorem dX6_mixBlock_192 : decode cX6_mixBlock 192 = .ok (.iload 5, 2) := by decide +kernel
theorem dX6_mixBlock_194 : decode cX6_mixBlock 194 = .ok (.istore 6, 2) := by decide +kernel
theorem dX6_mixBlock_196 : decode cX6_mixBlock 196 = .ok (.iload 4, 2) := by decide +kernel
theorem dX6_mixBlock_198 : decode cX6_mixBlock 198 = .ok (.iload 14, 2) := by decide +kernel
theorem dX6_mixBlock_200 : decode cX6_mixBlock 200 = .ok (.iadd, 1) := by decide +kernel
theorem dX6_mixBlock_201 : decode cX6_mixBlock 201 = .ok (.istore 5, 2) := by decide +kernel
theorem dX6_mixBlock_203 : decode cX6_mixBlock 203 = .ok (.iload_n 3, 1) := by decide +kernel
theorem dX6_mixBlock_204 : decode cX6_mixBlock 204 = .ok (.istore 4, 2) := by decide +kernel
theorem dX6_mixBlock_206 : decode cX6_mixBlock 206 = .ok (.iload_n 2, 1) := by decide +kernel
theorem dX6_mixBlock_207 : decode cX6_mixBlock 207 = .ok (.istore_n 3, 1) := by decide +kernel
theorem dX6_mixBlock_208 : decode cX6_mixBlock 208 = .ok (.iload_n 1, 1) := by decide +kernel
theorem dX6_mixBlock_209 : decode cX6_mixBlock 209 = .ok (.istore_n 2, 1) := by decide +kernel
theorem dX6_mixBlock_210 : decode cX6_mixBlock 210 = .ok (.iload 14, 2) := by decide +kernel
theorem dX6_mixBlock_212 : decode cX6_mixBlock 212 = .ok (.iload 11, 2) := by decide +kernel
theorem dX6_mixBlock_214 : decode cX6_mixBlock 214 = .ok (.iadd, 1) := by decide +kernel
theorem dX6_mixBlock_215 : decode cX6_mixBlock 215 = .ok (.iload 13, 2) := by decide +kernel
theorem dX6_mixBlock_217 : decode cX6_mixBlock 217 = .ok (.iadd, 1) := by decide +kernel
theorem dX6_mixBlock_218 : decode cX6_mixBlock 218 = .ok (.istore_n 1, 1) := by decide +kernel
theorem dX6_mixBlock_219 : decode cX6_mixBlock 219 = .ok (.iinc 9 1, 3) := by decide +kernel
theorem dX6_mixBlock_222 : decode cX6_mixBlock 222 = .ok (.goto (-156), 3) := by decide +kernel
theorem dX6_mixBlock_225 : decode cX6_mixBlock 225 = .ok (.aload_n 0, 1) := by decide +kernel
theorem dX6_mixBlock_226 : decode cX6_mixBlock 226 = .ok (.getfield 7, 3) := by decide +kernel
theorem dX6_mixBlock_229 : decode cX6_mixBlock 229 = .ok (.iconst 0, 1) := by decide +kernel
theorem dX6_mixBlock_230 : decode cX6_mixBlock 230 = .ok (.dup2, 1) := by decide +kernel
theorem dX6_mixBlock_231 : decode cX6_mixBlock 231 = .ok (.iaload, 1) := by decide +kernel
theorem dX6_mixBlock_232 : decode cX6_mixBlock 232 = .ok (.iload_n 1, 1) := by decide +kernel
theorem dX6_mixBlock_233 : decode cX6_mixBlock 233 = .ok (.iadd, 1) := by decide +kernel
theorem dX6_mixBlock_234 : decode cX6_mixBlock 234 = .ok (.iastore, 1) := by decide +kernel
theorem dX6_mixBlock_235 : decode cX6_mixBlock 235 = .ok (.aload_n 0, 1) := by decide +kernel
theorem dX6_mixBlock_236 : decode cX6_mixBlock 236 = .ok (.getfield 7, 3) := by decide +kernel
theorem dX6_mixBlock_239 : decode cX6_mixBlock 239 = .ok (.iconst 1, 1) := by decide +kernel
theorem dX6_mixBlock_240 : decode cX6_mixBlock 240 = .ok (.dup2, 1) := by decide +kernel
theorem dX6_mixBlock_241 : decode cX6_mixBlock 241 = .ok (.iaload, 1) := by decide +kernel
theorem dX6_mixBlock_242 : decode cX6_mixBlock 242 = .ok (.iload_n 2, 1) := by decide +kernel
theorem dX6_mixBlock_243 : decode cX6_mixBlock 243 = .ok (.iadd, 1) := by decide +kernel
theorem dX6_mixBlock_244 : decode cX6_mixBlock 244 = .ok (.iastore, 1) := by decide +kernel
theorem dX6_mixBlock_245 : decode cX6_mixBlock 245 = .ok (.aload_n 0, 1) := by decide +kernel
theorem dX6_mixBlock_246 : decode cX6_mixBlock 246 = .ok (.getfield 7, 3) := by decide +kernel
theorem dX6_mixBlock_249 : decode cX6_mixBlock 249 = .ok (.iconst 2, 1) := by decide +kernel
theorem dX6_mixBlock_250 : decode cX6_mixBlock 250 = .ok (.dup2, 1) := by decide +kernel
theorem dX6_mixBlock_251 : decode cX6_mixBlock 251 = .ok (.iaload, 1) := by decide +kernel
theorem dX6_mixBlock_252 : decode cX6_mixBlock 252 = .ok (.iload_n 3, 1) := by decide +kernel
theorem dX6_mixBlock_253 : decode cX6_mixBlock 253 = .ok (.iadd, 1) := by decide +kernel
theorem dX6_mixBlock_254 : decode cX6_mixBlock 254 = .ok (.iastore, 1) := by decide +kernel
theorem dX6_mixBlock_255 : decode cX6_mixBlock 255 = .ok (.aload_n 0, 1) := by decide +kernel
theorem dX6_mixBlock_256 : decode cX6_mixBlock 256 = .ok (.getfield 7, 3) := by decide +kernel
theorem dX6_mixBlock_259 : decode cX6_mixBlock 259 = .ok (.iconst 3, 1) := by decide +kernel
theorem dX6_mixBlock_260 : decode cX6_mixBlock 260 = .ok (.dup2, 1) := by decide +kernel
theorem dX6_mixBlock_261 : decode cX6_mixBlock 261 = .ok (.iaload, 1) := by decide +kernel
theorem dX6_mixBlock_262 : decode cX6_mixBlock 262 = .ok (.iload 4, 2) := by decide +kernel
theorem dX6_mixBlock_264 : decode cX6_mixBlock 264 = .ok (.iadd, 1) := by decide +kernel
theorem dX6_mixBlock_265 : decode cX6_mixBlock 265 = .ok (.iastore, 1) := by decide +kernel
theorem dX6_mixBlock_266 : decode cX6_mixBlock 266 = .ok (.aload_n 0, 1) := by decide +kernel
theorem dX6_mixBlock_267 : decode cX6_mixBlock 267 = .ok (.getfield 7, 3) := by decide +kernel
theorem dX6_mixBlock_270 : decode cX6_mixBlock 270 = .ok (.iconst 4, 1) := by decide +kernel
theorem dX6_mixBlock_271 : decode cX6_mixBlock 271 = .ok (.dup2, 1) := by decide +kernel
theorem dX6_mixBlock_272 : decode cX6_mixBlock 272 = .ok (.iaload, 1) := by decide +kernel
theorem dX6_mixBlock_273 : decode cX6_mixBlock 273 = .ok (.iload 5, 2) := by decide +kernel
theorem dX6_mixBlock_275 : decode cX6_mixBlock 275 = .ok (.iadd, 1) := by decide +kernel
theorem dX6_mixBlock_276 : decode cX6_mixBlock 276 = .ok (.iastore, 1) := by decide +kernel
theorem dX6_mixBlock_277 : decode cX6_mixBlock 277 = .ok (.aload_n 0, 1) := by decide +kernel
theorem dX6_mixBlock_278 : decode cX6_mixBlock 278 = .ok (.getfield 7, 3) := by decide +kernel
theorem dX6_mixBlock_281 : decode cX6_mixBlock 281 = .ok (.iconst 5, 1) := by decide +kernel
theorem dX6_mixBlock_282 : decode cX6_mixBlock 282 = .ok (.dup2, 1) := by decide +kernel
theorem dX6_mixBlock_283 : decode cX6_mixBlock 283 = .ok (.iaload, 1) := by decide +kernel
theorem dX6_mixBlock_284 : decode cX6_mixBlock 284 = .ok (.iload 6, 2) := by decide +kernel
theorem dX6_mixBlock_286 : decode cX6_mixBlock 286 = .ok (.iadd, 1) := by decide +kernel
theorem dX6_mixBlock_287 : decode cX6_mixBlock 287 = .ok (.iastore, 1) := by decide +kernel
theorem dX6_mixBlock_288 : decode cX6_mixBlock 288 = .ok (.aload_n 0, 1) := by decide +kernel
theorem dX6_mixBlock_289 : decode cX6_mixBlock 289 = .ok (.getfield 7, 3) := by decide +kernel
theorem dX6_mixBlock_292 : decode cX6_mixBlock 292 = .ok (.bipush 6, 2) := by decide +kernel
theorem dX6_mixBlock_294 : decode cX6_mixBlock 294 = .ok (.dup2, 1) := by decide +kernel
theorem dX6_mixBlock_295 : decode cX6_mixBlock 295 = .ok (.iaload, 1) := by decide +kernel
theorem dX6_mixBlock_296 : decode cX6_mixBlock 296 = .ok (.iload 7, 2) := by decide +kernel
theorem dX6_mixBlock_298 : decode cX6_mixBlock 298 = .ok (.iadd, 1) := by decide +kernel
theorem dX6_mixBlock_299 : decode cX6_mixBlock 299 = .ok (.iastore, 1) := by decide +kernel
theorem dX6_mixBlock_300 : decode cX6_mixBlock 300 = .ok (.aload_n 0, 1) := by decide +kernel
theorem dX6_mixBlock_301 : decode cX6_mixBlock 301 = .ok (.getfield 7, 3) := by decide +kernel
theorem dX6_mixBlock_304 : decode cX6_mixBlock 304 = .ok (.bipush 7, 2) := by decide +kernel
theorem dX6_mixBlock_306 : decode cX6_mixBlock 306 = .ok (.dup2, 1) := by decide +kernel
theorem dX6_mixBlock_307 : decode cX6_mixBlock 307 = .ok (.iaload, 1) := by decide +kernel
theorem dX6_mixBlock_308 : decode cX6_mixBlock 308 = .ok (.iload 8, 2) := by decide +kernel
theorem dX6_mixBlock_310 : decode cX6_mixBlock 310 = .ok (.iadd, 1) := by decide +kernel
theorem dX6_mixBlock_311 : decode cX6_mixBlock 311 = .ok (.iastore, 1) := by decide +kernel
theorem dX6_mixBlock_312 : decode cX6_mixBlock 312 = .ok (.return_, 1) := by decide +kernel
theorem dX7_init_0 : decode cX7_init 0 = .ok (.aload_n 0, 1) := by decide +kernel
theorem dX7_init_1 : decode cX7_init 1 = .ok (.invokespecial 1, 3) := by decide +kernel
theorem dX7_init_4 : decode cX7_init 4 = .ok (.aload_n 0, 1) := by decide +kernel
theorem dX7_init_5 : decode cX7_init 5 = .ok (.bipush 31, 2) := by decide +kernel
theorem dX7_init_7 : decode cX7_init 7 = .ok (.bipush 40, 2) := by decide +kernel
theorem dX7_init_9 : decode cX7_init 9 = .ok (.iload_n 1, 1) := by decide +kernel
theorem dX7_init_10 : decode cX7_init 10 = .ok (.invokestatic 9, 3) := by decide +kernel
theorem dX7_init_13 : decode cX7_init 13 = .ok (.invokestatic 15, 3) := by decide +kernel
theorem dX7_init_16 : decode cX7_init 16 = .ok (.putfield 18, 3) := by decide +kernel
theorem dX7_init_19 : decode cX7_init 19 = .ok (.aload_n 0, 1) := by decide +kernel
theorem dX7_init_20 : decode cX7_init 20 = .ok (.iconst 2, 1) := by decide +kernel
theorem dX7_init_21 : decode cX7_init 21 = .ok (.aload_n 0, 1) := by decide +kernel
theorem dX7_init_22 : decode cX7_init 22 = .ok (.getfield 18, 3) := by decide +kernel
theorem dX7_init_25 : decode cX7_init 25 = .ok (.imul, 1) := by decide +kernel
theorem dX7_init_26 : decode cX7_init 26 = .ok (.putfield 22, 3) := by decide +kernel
theorem dX7_init_29 : decode cX7_init 29 = .ok (.aload_n 0, 1) := by decide +kernel
theorem dX7_init_30 : decode cX7_init 30 = .ok (.iconst 1, 1) := by decide +kernel
theorem dX7_init_31 : decode cX7_init 31 = .ok (.bipush 8, 2) := by decide +kernel
theorem dX7_init_33 : decode cX7_init 33 = .ok (.iload_n 2, 1) := by decide +kernel
theorem dX7_init_34 : decode cX7_init 34 = .ok (.invokestatic 9, 3) := by decide +kernel
theorem dX7_init_37 : decode cX7_init 37 = .ok (.invokestatic 15, 3) := by decide +kernel
theorem dX7_init_40 : decode cX7_init 40 = .ok (.putfield 25, 3) := by decide +kernel
theorem dX7_init_43 : decode cX7_init 43 = .ok (.aload_n 0, 1) := by decide +kernel
theorem dX7_init_44 : decode cX7_init 44 = .ok (.getfield 18, 3) := by decide +kernel
theorem dX7_init_47 : decode cX7_init 47 = .ok (.iconst 3, 1) := by decide +kernel
theorem dX7_init_48 : decode cX7_init 48 = .ok (.iadd, 1) := by decide +kernel
theorem dX7_init_49 : decode cX7_init 49 = .ok (.iconst 4, 1) := by decide +kernel
theorem dX7_init_50 : decode cX7_init 50 = .ok (.idiv, 1) := by decide +kernel
theorem dX7_init_51 : decode cX7_init 51 = .ok (.istore_n 3, 1) := by decide +kernel
theorem dX7_init_52 : decode cX7_init 52 = .ok (.aload_n 0, 1) := by decide +kernel
theorem dX7_init_53 : decode cX7_init 53 = .ok (.new 28, 3) := by decide +kernel
theorem dX7_init_56 : decode cX7_init 56 = .ok (.dup, 1) := by decide +kernel
theorem dX7_init_57 : decode cX7_init 57 = .ok (.invokespecial 30, 3) := by decide +kernel
theorem dX7_init_60 : decode cX7_init 60 = .ok (.putfield 31, 3) := by decide +kernel
theorem dX7_init_63 : decode cX7_init 63 = .ok (.aload_n 0, 1) := by decide +kernel
theorem dX7_init_64 : decode cX7_init 64 = .ok (.new 35, 3) := by decide +kernel
theorem dX7_init_67 : decode cX7_init 67 = .ok (.dup, 1) := by decide +kernel
theorem dX7_init_68 : decode cX7_init 68 = .ok (.aload_n 0, 1) := by decide +kernel
theorem dX7_init_69 : decode cX7_init 69 = .ok (.getfield 31, 3) := by decide +kernel
theorem dX7_init_72 : decode cX7_init 72 = .ok (.aload_n 0, 1) := by decide +kernel
theorem dX7_init_73 : decode cX7_init 73 = .ok (.getfield 18, 3) := by decide +kernel
theorem dX7_init_76 : decode cX7_init 76 = .ok (.iload_n 3, 1) := by decide +kernel
theorem dX7_init_77 : decode cX7_init 77 = .ok (.aload_n 0, 1) := by decide +kernel
theorem dX7_init_78 : decode cX7_init 78 = .ok (.getfield 25, 3) := by decide +kernel
theorem dX7_init_81 : decode cX7_init 81 = .ok (.invokespecial 37, 3) := by decide +kernel
theorem dX7_init_84 : decode cX7_init 84 = .ok (.putfield 40, 3) := by decide +kernel
theorem dX7_init_87 : decode cX7_init 87 = .ok (.aload_n 0, 1) := by decide +kernel
theorem dX7_init_88 : decode cX7_init 88 = .ok (.new 44, 3) := by decide +kernel
theorem dX7_init_91 : decode cX7_init 91 = .ok (.dup, 1) := by decide +kernel
theorem dX7_init_92 : decode cX7_init 92 = .ok (.iload_n 3, 1) := by decide +kernel
theorem dX7_init_93 : decode cX7_init 93 = .ok (.invokespecial 46, 3) := by decide +kernel
theorem dX7_init_96 : decode cX7_init 96 = .ok (.putfield 49, 3) := by decide +kernel
theorem dX7_init_99 : decode cX7_init 99 = .ok (.aload_n 0, 1) := by decide +kernel
theorem dX7_init_100 : decode cX7_init 100 = .ok (.new 53, 3) := by decide +kernel
theorem dX7_init_103 : decode cX7_init 103 = .ok (.dup, 1) := by decide +kernel
theorem dX7_init_104 : decode cX7_init 104 = .ok (.invokespecial 55, 3) := by decide +kernel
theorem dX7_init_107 : decode cX7_init 107 = .ok (.putfield 56, 3) := by decide +kernel
theorem dX7_init_110 : decode cX7_init 110 = .ok (.aload_n 0, 1) := by decide +kernel
theorem dX7_init_111 : decode cX7_init 111 = .ok (.iconst 2, 1) := by decide +kernel
theorem dX7_init_112 : decode cX7_init 112 = .ok (.iload_n 3, 1) := by decide +kernel
theorem dX7_init_113 : decode cX7_init 113 = .ok (.imul, 1) := by decide +kernel
theorem dX7_init_114 : decode cX7_init 114 = .ok (.newarray .long, 2) := by decide +kernel
theorem dX7_init_116 : decode cX7_init 116 = .ok (.putfield 60, 3) := by decide +kernel
theorem dX7_init_119 : decode cX7_init 119 = .ok (.aload_n 0, 1) := by decide +kernel
theorem dX7_init_120 : decode cX7_init 120 = .ok (.iconst 2, 1) := by decide +kernel
theorem dX7_init_121 : decode cX7_init 121 = .ok (.iload_n 3, 1) := by decide +kernel
theorem dX7_init_122 : decode cX7_init 122 = .ok (.imul, 1) := by decide +kernel
theorem dX7_init_123 : decode cX7_init 123 = .ok (.newarray .long, 2) := by decide +kernel
theorem dX7_init_125 : decode cX7_init 125 = .ok (.putfield 64, 3) := by decide +kernel
theorem dX7_init_128 : decode cX7_init 128 = .ok (.aload_n 0, 1) := by decide +kernel
theorem dX7_init_129 : decode cX7_init 129 = .ok (.iconst 2, 1) := by decide +kernel
theorem dX7_init_130 : decode cX7_init 130 = .ok (.iload_n 3, 1) := by decide +kernel
theorem dX7_init_131 : decode cX7_init 131 = .ok (.imul, 1) := by decide +kernel
theorem dX7_init_132 : decode cX7_init 132 = .ok (.newarray .long, 2) := by decide +kernel
theorem dX7_init_134 : decode cX7_init 134 = .ok (.putfield 67, 3) := by decide +kernel
theorem dX7_init_137 : decode cX7_init 137 = .ok (.return_, 1) := by decide +kernel
theorem dX7_seed_0 : decode cX7_seed 0 = .ok (.aload_n 0, 1) := by decide +kernel
theorem dX7_seed_1 : decode cX7_seed 1 = .ok (.getfield 40, 3) := by decide +kernel
theorem dX7_seed_4 : decode cX7_seed 4 = .ok (.invokevirtual 70, 3) := by decide +kernel
theorem dX7_seed_7 : decode cX7_seed 7 = .ok (.ifCond .eq 6, 3) := by decide +kernel
theorem dX7_seed_10 : decode cX7_seed 10 = .ok (.bipush (-3), 2) := by decide +kernel
theorem dX7_seed_12 : decode cX7_seed 12 = .ok (.ireturn, 1) := by decide +kernel
theorem dX7_seed_13 : decode cX7_seed 13 = .ok (.aload_n 0, 1) := by decide +kernel
theorem dX7_seed_14 : decode cX7_seed 14 = .ok (.getfield 31, 3) := by decide +kernel
theorem dX7_seed_17 : decode cX7_seed 17 = .ok (.invokevirtual 74, 3) := by decide +kernel
theorem dX7_seed_20 : decode cX7_seed 20 = .ok (.bipush 16, 2) := by decide +kernel
theorem dX7_seed_22 : decode cX7_seed 22 = .ok (.if_icmp .lt 6, 3) := by decide +kernel
theorem dX7_seed_25 : decode cX7_seed 25 = .ok (.bipush (-4), 2) := by decide +kernel
theorem dX7_seed_27 : decode cX7_seed 27 = .ok (.ireturn, 1) := by decide +kernel
theorem dX7_seed_28 : decode cX7_seed 28 = .ok (.aload_n 0, 1) := by decide +kernel
theorem dX7_seed_29 : decode cX7_seed 29 = .ok (.getfield 31, 3) := by decide +kernel
theorem dX7_seed_32 : decode cX7_seed 32 = .ok (.iload_n 1, 1) := by decide +kernel
theorem dX7_seed_33 : decode cX7_seed 33 = .ok (.invokevirtual 78, 3) := by decide +kernel
theorem dX7_seed_36 : decode cX7_seed 36 = .ok (.aload_n 0, 1) := by decide +kernel
theorem dX7_seed_37 : decode cX7_seed 37 = .ok (.getfield 31, 3) := by decide +kernel
theorem dX7_seed_40 : decode cX7_seed 40 = .ok (.invokevirtual 74, 3) := by decide +kernel
theorem dX7_seed_43 : decode cX7_seed 43 = .ok (.ireturn, 1) := by decide +kernel
theorem dX7_search_0 : decode cX7_search 0 = .ok (.iload_n 1, 1) := by decide +kernel
theorem dX7_search_1 : decode cX7_search 1 = .ok (.iconst 1, 1) := by decide +kernel
theorem dX7_search_2 : decode cX7_search 2 = .ok (.if_icmp .lt 9, 3) := by decide +kernel
theorem dX7_search_5 : decode cX7_search 5 = .ok (.iload_n 1, 1) := by decide +kernel
theorem dX7_search_6 : decode cX7_search 6 = .ok (.bipush 60, 2) := by decide +kernel
theorem dX7_search_8 : decode cX7_search 8 = .ok (.if_icmp .le 6, 3) := by decide +kernel
theorem dX7_search_11 : decode cX7_search 11 = .ok (.bipush (-2), 2) := by decide +kernel
theorem dX7_search_13 : decode cX7_search 13 = .ok (.ireturn, 1) := by decide +kernel
theorem dX7_search_14 : decode cX7_search 14 = .ok (.aload_n 0, 1) := by decide +kernel
theorem dX7_search_15 : decode cX7_search 15 = .ok (.getfield 31, 3) := by decide +kernel
theorem dX7_search_18 : decode cX7_search 18 = .ok (.invokevirtual 74, 3) := by decide +kernel
theorem dX7_search_21 : decode cX7_search 21 = .ok (.ifCond .ne 6, 3) := by decide +kernel
theorem dX7_search_24 : decode cX7_search 24 = .ok (.bipush (-3), 2) := by decide +kernel
theorem dX7_search_26 : decode cX7_search 26 = .ok (.ireturn, 1) := by decide +kernel
theorem dX7_search_27 : decode cX7_search 27 = .ok (.aload_n 0, 1) := by decide +kernel
theorem dX7_search_28 : decode cX7_search 28 = .ok (.getfield 40, 3) := by decide +kernel
theorem dX7_search_31 : decode cX7_search 31 = .ok (.invokevirtual 81, 3) := by decide +kernel
theorem dX7_search_34 : decode cX7_search 34 = .ok (.iconst 0, 1) := by decide +kernel
theorem dX7_search_35 : decode cX7_search 35 = .ok (.istore_n 2, 1) := by decide +kernel
theorem dX7_search_36 : decode cX7_search 36 = .ok (.iload_n 2, 1) := by decide +kernel
theorem dX7_search_37 : decode cX7_search 37 = .ok (.iload_n 1, 1) := by decide +kernel
theorem dX7_search_38 : decode cX7_search 38 = .ok (.if_icmp .ge 57, 3) := by decide +kernel
theorem dX7_search_41 : decode cX7_search 41 = .ok (.aload_n 0, 1) := by decide +kernel
theorem dX7_search_42 : decode cX7_search 42 = .ok (.getfield 49, 3) := by decide +kernel
theorem dX7_search_45 : decode cX7_search 45 = .ok (.invokevirtual 84, 3) := by decide +kernel
theorem dX7_search_48 : decode cX7_search 48 = .ok (.ifCond .ne 47, 3) := by decide +kernel
theorem dX7_search_51 : decode cX7_search 51 = .ok (.aload_n 0, 1) := by decide +kernel
theorem dX7_search_52 : decode cX7_search 52 = .ok (.getfield 40, 3) := by decide +kernel
theorem dX7_search_55 : decode cX7_search 55 = .ok (.invokevirtual 87, 3) := by decide +kernel
theorem dX7_search_58 : decode cX7_search 58 = .ok (.aload_n 0, 1) := by decide +kernel
theorem dX7_search_59 : decode cX7_search 59 = .ok (.getfield 40, 3) := by decide +kernel
theorem dX7_search_62 : decode cX7_search 62 = .ok (.invokevirtual 90, 3) := by decide +kernel
theorem dX7_search_65 : decode cX7_search 65 = .ok (.ifCond .eq 24, 3) := by decide +kernel
theorem dX7_search_68 : decode cX7_search 68 = .ok (.aload_n 0, 1) := by decide +kernel
theorem dX7_search_69 : decode cX7_search 69 = .ok (.getfield 49, 3) := by decide +kernel
theorem dX7_search_72 : decode cX7_search 72 = .ok (.aload_n 0, 1) := by decide +kernel
theorem dX7_search_73 : decode cX7_search 73 = .ok (.getfield 40, 3) := by decide +kernel
theorem dX7_search_76 : decode cX7_search 76 = .ok (.invokevirtual 93, 3) := by decide +kernel
theorem dX7_search_79 : decode cX7_search 79 = .ok (.aload_n 0, 1) := by decide +kernel
theorem dX7_search_80 : decode cX7_search 80 = .ok (.getfield 40, 3) := by decide +kernel
theorem dX7_search_83 : decode cX7_search 83 = .ok (.invokevirtual 97, 3) := by decide +kernel
theorem dX7_search_86 : decode cX7_search 86 = .ok (.invokevirtual 100, 3) := by decide +kernel
theorem dX7_search_89 : decode cX7_search 89 = .ok (.iinc 2 1, 3) := by decide +kernel
theorem dX7_search_92 : decode cX7_search 92 = .ok (.goto (-56), 3) := by decide +kernel
theorem dX7_search_95 : decode cX7_search 95 = .ok (.aload_n 0, 1) := by decide +kernel
theorem dX7_search_96 : decode cX7_search 96 = .ok (.getfield 49, 3) := by decide +kernel
theorem dX7_search_99 : decode cX7_search 99 = .ok (.invokevirtual 84, 3) := by decide +kernel
theorem dX7_search_102 : decode cX7_search 102 = .ok (.ifCond .eq 7, 3) := by decide +kernel
theorem dX7_search_105 : decode cX7_search 105 = .ok (.iconst 1, 1) := by decide +kernel
theorem dX7_search_106 : decode cX7_search 106 = .ok (.goto 4, 3) := by decide +kernel
theorem dX7_search_109 : decode cX7_search 109 = .ok (.iconst 0, 1) := by decide +kernel
theorem dX7_search_110 : decode cX7_search 110 = .ok (.ireturn, 1) := by decide +kernel
theorem dX7_forget_0 : decode cX7_forget 0 = .ok (.aload_n 0, 1) := by decide +kernel
theorem dX7_forget_1 : decode cX7_forget 1 = .ok (.getfield 40, 3) := by decide +kernel
theorem dX7_forget_4 : decode cX7_forget 4 = .ok (.invokevirtual 104, 3) := by decide +kernel
theorem dX7_forget_7 : decode cX7_forget 7 = .ok (.istore_n 1, 1) := by decide +kernel
theorem dX7_forget_8 : decode cX7_forget 8 = .ok (.aload_n 0, 1) := by decide +kernel
theorem dX7_forget_9 : decode cX7_forget 9 = .ok (.getfield 31, 3) := by decide +kernel
theorem dX7_forget_12 : decode cX7_forget 12 = .ok (.invokevirtual 107, 3) := by decide +kernel
theorem dX7_forget_15 : decode cX7_forget 15 = .ok (.aload_n 0, 1) := by decide +kernel
theorem dX7_forget_16 : decode cX7_forget 16 = .ok (.getfield 40, 3) := by decide +kernel
theorem dX7_forget_19 : decode cX7_forget 19 = .ok (.invokevirtual 110, 3) := by decide +kernel
theorem dX7_forget_22 : decode cX7_forget 22 = .ok (.aload_n 0, 1) := by decide +kernel
theorem dX7_forget_23 : decode cX7_forget 23 = .ok (.getfield 49, 3) := by decide +kernel
theorem dX7_forget_26 : decode cX7_forget 26 = .ok (.invokevirtual 111, 3) := by decide +kernel
theorem dX7_forget_29 : decode cX7_forget 29 = .ok (.iload_n 1, 1) := by decide +kernel
theorem dX7_forget_30 : decode cX7_forget 30 = .ok (.ireturn, 1) := by decide +kernel
theorem dX7_key_0 : decode cX7_key 0 = .ok (.iload_n 1, 1) := by decide +kernel
theorem dX7_key_1 : decode cX7_key 1 = .ok (.ifCond .lt 22, 3) := by decide +kernel
theorem dX7_key_4 : decode cX7_key 4 = .ok (.iload_n 1, 1) := by decide +kernel
theorem dX7_key_5 : decode cX7_key 5 = .ok (.bipush 7, 2) := by decide +kernel
theorem dX7_key_7 : decode cX7_key 7 = .ok (.if_icmp .ge 16, 3) := by decide +kernel
theorem dX7_key_10 : decode cX7_key 10 = .ok (.iload_n 2, 1) := by decide +kernel
theorem dX7_key_11 : decode cX7_key 11 = .ok (.ifCond .lt 12, 3) := by decide +kernel
theorem dX7_key_14 : decode cX7_key 14 = .ok (.iload_n 2, 1) := by decide +kernel
theorem dX7_key_15 : decode cX7_key 15 = .ok (.aload_n 0, 1) := by decide +kernel
theorem dX7_key_16 : decode cX7_key 16 = .ok (.iload_n 1, 1) := by decide +kernel
theorem dX7_key_17 : decode cX7_key 17 = .ok (.invokevirtual 112, 3) := by decide +kernel
theorem dX7_key_20 : decode cX7_key 20 = .ok (.if_icmp .lt 6, 3) := by decide +kernel
theorem dX7_key_23 : decode cX7_key 23 = .ok (.bipush (-2), 2) := by decide +kernel
theorem dX7_key_25 : decode cX7_key 25 = .ok (.ireturn, 1) := by decide +kernel
theorem dX7_key_26 : decode cX7_key 26 = .ok (.aload_n 0, 1) := by decide +kernel
theorem dX7_key_27 : decode cX7_key 27 = .ok (.getfield 49, 3) := by decide +kernel
theorem dX7_key_30 : decode cX7_key 30 = .ok (.invokevirtual 84, 3) := by decide +kernel
theorem dX7_key_33 : decode cX7_key 33 = .ok (.ifCond .eq 12, 3) := by decide +kernel
theorem dX7_key_36 : decode cX7_key 36 = .ok (.aload_n 0, 1) := by decide +kernel
theorem dX7_key_37 : decode cX7_key 37 = .ok (.iload_n 1, 1) := by decide +kernel
theorem dX7_key_38 : decode cX7_key 38 = .ok (.iload_n 2, 1) := by decide +kernel
theorem dX7_key_39 : decode cX7_key 39 = .ok (.invokevirtual 116, 3) := by decide +kernel
theorem dX7_key_42 : decode cX7_key 42 = .ok (.goto 5, 3) := by decide +kernel
theorem dX7_key_45 : decode cX7_key 45 = .ok (.bipush (-3), 2) := by decide +kernel
theorem dX7_key_47 : decode cX7_key 47 = .ok (.ireturn, 1) := by decide +kernel
theorem dX7_count_0 : decode cX7_count 0 = .ok (.iload_n 1, 1) := by decide +kernel
theorem dX7_count_1 : decode cX7_count 1 = .ok (.tableswitch 99 0 7 #[47, 52, 57, 65, 73, 81, 89, 94], 47) := by decide +kernel
theorem dX7_count_48 : decode cX7_count 48 = .ok (.aload_n 0, 1) := by decide +kernel
theorem dX7_count_49 : decode cX7_count 49 = .ok (.getfield 18, 3) := by decide +kernel
theorem dX7_count_52 : decode cX7_count 52 = .ok (.ireturn, 1) := by decide +kernel
theorem dX7_count_53 : decode cX7_count 53 = .ok (.aload_n 0, 1) := by decide +kernel
theorem dX7_count_54 : decode cX7_count 54 = .ok (.getfield 25, 3) := by decide +kernel
theorem dX7_count_57 : decode cX7_count 57 = .ok (.ireturn, 1) := by decide +kernel
theorem dX7_count_58 : decode cX7_count 58 = .ok (.aload_n 0, 1) := by decide +kernel
theorem dX7_count_59 : decode cX7_count 59 = .ok (.getfield 31, 3) := by decide +kernel
theorem dX7_count_62 : decode cX7_count 62 = .ok (.invokevirtual 74, 3) := by decide +kernel
theorem dX7_count_65 : decode cX7_count 65 = .ok (.ireturn, 1) := by decide +kernel
theorem dX7_count_66 : decode cX7_count 66 = .ok (.aload_n 0, 1) := by decide +kernel
theorem dX7_count_67 : decode cX7_count 67 = .ok (.getfield 40, 3) := by decide +kernel
theorem dX7_count_70 : decode cX7_count 70 = .ok (.invokevirtual 104, 3) := by decide +kernel
theorem dX7_count_73 : decode cX7_count 73 = .ok (.ireturn, 1) := by decide +kernel
theorem dX7_count_74 : decode cX7_count 74 = .ok (.aload_n 0, 1) := by decide +kernel
theorem dX7_count_75 : decode cX7_count 75 = .ok (.getfield 40, 3) := by decide +kernel
theorem dX7_count_78 : decode cX7_count 78 = .ok (.invokevirtual 119, 3) := by decide +kernel
theorem dX7_count_81 : decode cX7_count 81 = .ok (.ireturn, 1) := by decide +kernel
theorem dX7_count_82 : decode cX7_count 82 = .ok (.aload_n 0, 1) := by decide +kernel
theorem dX7_count_83 : decode cX7_count 83 = .ok (.getfield 56, 3) := by decide +kernel
theorem dX7_count_86 : decode cX7_count 86 = .ok (.invokevirtual 122, 3) := by decide +kernel
theorem dX7_count_89 : decode cX7_count 89 = .ok (.ireturn, 1) := by decide +kernel
theorem dX7_count_90 : decode cX7_count 90 = .ok (.aload_n 0, 1) := by decide +kernel
theorem dX7_count_91 : decode cX7_count 91 = .ok (.getfield 125, 3) := by decide +kernel
theorem dX7_count_94 : decode cX7_count 94 = .ok (.ireturn, 1) := by decide +kernel
theorem dX7_count_95 : decode cX7_count 95 = .ok (.aload_n 0, 1) := by decide +kernel
theorem dX7_count_96 : decode cX7_count 96 = .ok (.getfield 128, 3) := by decide +kernel
theorem dX7_count_99 : decode cX7_count 99 = .ok (.ireturn, 1) := by decide +kernel
theorem dX7_count_100 : decode cX7_count 100 = .ok (.bipush (-2), 2) := by decide +kernel
theorem dX7_count_102 : decode cX7_count 102 = .ok (.ireturn, 1) := by decide +kernel
theorem dX7_feed_0 : decode cX7_feed 0 = .ok (.iload_n 3, 1) := by decide +kernel
theorem dX7_feed_1 : decode cX7_feed 1 = .ok (.iconst 1, 1) := by decide +kernel
theorem dX7_feed_2 : decode cX7_feed 2 = .ok (.if_icmp .lt 9, 3) := by decide +kernel
theorem dX7_feed_5 : decode cX7_feed 5 = .ok (.iload_n 3, 1) := by decide +kernel
theorem dX7_feed_6 : decode cX7_feed 6 = .ok (.bipush 8, 2) := by decide +kernel
theorem dX7_feed_8 : decode cX7_feed 8 = .ok (.if_icmp .le 6, 3) := by decide +kernel
theorem dX7_feed_11 : decode cX7_feed 11 = .ok (.bipush (-2), 2) := by decide +kernel
theorem dX7_feed_13 : decode cX7_feed 13 = .ok (.ireturn, 1) := by decide +kernel
theorem dX7_feed_14 : decode cX7_feed 14 = .ok (.aload_n 0, 1) := by decide +kernel
theorem dX7_feed_15 : decode cX7_feed 15 = .ok (.getfield 56, 3) := by decide +kernel
theorem dX7_feed_18 : decode cX7_feed 18 = .ok (.invokevirtual 122, 3) := by decide +kernel
theorem dX7_feed_21 : decode cX7_feed 21 = .ok (.iload_n 3, 1) := by decide +kernel
theorem dX7_feed_22 : decode cX7_feed 22 = .ok (.iadd, 1) := by decide +kernel
theorem dX7_feed_23 : decode cX7_feed 23 = .ok (.sipush 300, 3) := by decide +kernel
theorem dX7_feed_26 : decode cX7_feed 26 = .ok (.if_icmp .le 6, 3) := by decide +kernel
theorem dX7_feed_29 : decode cX7_feed 29 = .ok (.bipush (-4), 2) := by decide +kernel
theorem dX7_feed_31 : decode cX7_feed 31 = .ok (.ireturn, 1) := by decide +kernel
theorem dX7_feed_32 : decode cX7_feed 32 = .ok (.aload_n 0, 1) := by decide +kernel
theorem dX7_feed_33 : decode cX7_feed 33 = .ok (.getfield 56, 3) := by decide +kernel
theorem dX7_feed_36 : decode cX7_feed 36 = .ok (.lload_n 1, 1) := by decide +kernel
theorem dX7_feed_37 : decode cX7_feed 37 = .ok (.iload_n 3, 1) := by decide +kernel
theorem dX7_feed_38 : decode cX7_feed 38 = .ok (.invokevirtual 131, 3) := by decide +kernel
theorem dX7_feed_41 : decode cX7_feed 41 = .ok (.aload_n 0, 1) := by decide +kernel
theorem dX7_feed_42 : decode cX7_feed 42 = .ok (.getfield 56, 3) := by decide +kernel
theorem dX7_feed_45 : decode cX7_feed 45 = .ok (.invokevirtual 122, 3) := by decide +kernel
theorem dX7_feed_48 : decode cX7_feed 48 = .ok (.ireturn, 1) := by decide +kernel
theorem dX7_cut_0 : decode cX7_cut 0 = .ok (.aload_n 0, 1) := by decide +kernel
theorem dX7_cut_1 : decode cX7_cut 1 = .ok (.getfield 56, 3) := by decide +kernel
theorem dX7_cut_4 : decode cX7_cut 4 = .ok (.invokevirtual 122, 3) := by decide +kernel
theorem dX7_cut_7 : decode cX7_cut 7 = .ok (.istore_n 2, 1) := by decide +kernel
theorem dX7_cut_8 : decode cX7_cut 8 = .ok (.iload_n 1, 1) := by decide +kernel
theorem dX7_cut_9 : decode cX7_cut 9 = .ok (.ifCond .lt 8, 3) := by decide +kernel
theorem dX7_cut_12 : decode cX7_cut 12 = .ok (.iload_n 1, 1) := by decide +kernel
theorem dX7_cut_13 : decode cX7_cut 13 = .ok (.iload_n 2, 1) := by decide +kernel
theorem dX7_cut_14 : decode cX7_cut 14 = .ok (.if_icmp .le 6, 3) := by decide +kernel
theorem dX7_cut_17 : decode cX7_cut 17 = .ok (.bipush (-2), 2) := by decide +kernel
theorem dX7_cut_19 : decode cX7_cut 19 = .ok (.ireturn, 1) := by decide +kernel
theorem dX7_cut_20 : decode cX7_cut 20 = .ok (.aload_n 0, 1) := by decide +kernel
theorem dX7_cut_21 : decode cX7_cut 21 = .ok (.getfield 56, 3) := by decide +kernel
theorem dX7_cut_24 : decode cX7_cut 24 = .ok (.iload_n 1, 1) := by decide +kernel
theorem dX7_cut_25 : decode cX7_cut 25 = .ok (.invokevirtual 135, 3) := by decide +kernel
theorem dX7_cut_28 : decode cX7_cut 28 = .ok (.iload_n 2, 1) := by decide +kernel
theorem dX7_cut_29 : decode cX7_cut 29 = .ok (.iload_n 1, 1) := by decide +kernel
theorem dX7_cut_30 : decode cX7_cut 30 = .ok (.isub, 1) := by decide +kernel
theorem dX7_cut_31 : decode cX7_cut 31 = .ok (.ireturn, 1) := by decide +kernel
theorem dX7_hash_0 : decode cX7_hash 0 = .ok (.iload_n 1, 1) := by decide +kernel
theorem dX7_hash_1 : decode cX7_hash 1 = .ok (.ifCond .lt 9, 3) := by decide +kernel
theorem dX7_hash_4 : decode cX7_hash 4 = .ok (.iload_n 1, 1) := by decide +kernel
theorem dX7_hash_5 : decode cX7_hash 5 = .ok (.bipush 32, 2) := by decide +kernel
theorem dX7_hash_7 : decode cX7_hash 7 = .ok (.if_icmp .lt 8, 3) := by decide +kernel
theorem dX7_hash_10 : decode cX7_hash 10 = .ok (.bipush (-2), 2) := by decide +kernel
theorem dX7_hash_12 : decode cX7_hash 12 = .ok (.goto 11, 3) := by decide +kernel
theorem dX7_hash_15 : decode cX7_hash 15 = .ok (.aload_n 0, 1) := by decide +kernel
theorem dX7_hash_16 : decode cX7_hash 16 = .ok (.getfield 56, 3) := by decide +kernel
theorem dX7_hash_19 : decode cX7_hash 19 = .ok (.iload_n 1, 1) := by decide +kernel
theorem dX7_hash_20 : decode cX7_hash 20 = .ok (.invokevirtual 138, 3) := by decide +kernel
theorem dX7_hash_23 : decode cX7_hash 23 = .ok (.ireturn, 1) := by decide +kernel
theorem dX7_encoded_0 : decode cX7_encoded 0 = .ok (.iload_n 1, 1) := by decide +kernel
theorem dX7_encoded_1 : decode cX7_encoded 1 = .ok (.ifCond .lt 11, 3) := by decide +kernel
theorem dX7_encoded_4 : decode cX7_encoded 4 = .ok (.iload_n 1, 1) := by decide +kernel
theorem dX7_encoded_5 : decode cX7_encoded 5 = .ok (.aload_n 0, 1) := by decide +kernel
theorem dX7_encoded_6 : decode cX7_encoded 6 = .ok (.getfield 22, 3) := by decide +kernel
theorem dX7_encoded_9 : decode cX7_encoded 9 = .ok (.if_icmp .lt 8, 3) := by decide +kernel
theorem dX7_encoded_12 : decode cX7_encoded 12 = .ok (.bipush (-2), 2) := by decide +kernel
theorem dX7_encoded_14 : decode cX7_encoded 14 = .ok (.goto 8, 3) := by decide +kernel
theorem dX7_encoded_17 : decode cX7_encoded 17 = .ok (.aload_n 0, 1) := by decide +kernel
theorem dX7_encoded_18 : decode cX7_encoded 18 = .ok (.iload_n 1, 1) := by decide +kernel
theorem dX7_encoded_19 : decode cX7_encoded 19 = .ok (.invokevirtual 141, 3) := by decide +kernel
theorem dX7_encoded_22 : decode cX7_encoded 22 = .ok (.ireturn, 1) := by decide +kernel
theorem dX7_sign_0 : decode cX7_sign 0 = .ok (.aload_n 0, 1) := by decide +kernel
theorem dX7_sign_1 : decode cX7_sign 1 = .ok (.getfield 49, 3) := by decide +kernel
theorem dX7_sign_4 : decode cX7_sign 4 = .ok (.invokevirtual 84, 3) := by decide +kernel
theorem dX7_sign_7 : decode cX7_sign 7 = .ok (.ifCond .ne 6, 3) := by decide +kernel
theorem dX7_sign_10 : decode cX7_sign 10 = .ok (.bipush (-3), 2) := by decide +kernel
theorem dX7_sign_12 : decode cX7_sign 12 = .ok (.ireturn, 1) := by decide +kernel
theorem dX7_sign_13 : decode cX7_sign 13 = .ok (.aload_n 0, 1) := by decide +kernel
theorem dX7_sign_14 : decode cX7_sign 14 = .ok (.aload_n 0, 1) := by decide +kernel
theorem dX7_sign_15 : decode cX7_sign 15 = .ok (.getfield 64, 3) := by decide +kernel
theorem dX7_sign_18 : decode cX7_sign 18 = .ok (.invokevirtual 144, 3) := by decide +kernel
theorem dX7_sign_21 : decode cX7_sign 21 = .ok (.aload_n 0, 1) := by decide +kernel
theorem dX7_sign_22 : decode cX7_sign 22 = .ok (.getfield 49, 3) := by decide +kernel
theorem dX7_sign_25 : decode cX7_sign 25 = .ok (.aload_n 0, 1) := by decide +kernel
theorem dX7_sign_26 : decode cX7_sign 26 = .ok (.getfield 60, 3) := by decide +kernel
theorem dX7_sign_29 : decode cX7_sign 29 = .ok (.aload_n 0, 1) := by decide +kernel
theorem dX7_sign_30 : decode cX7_sign 30 = .ok (.getfield 64, 3) := by decide +kernel
theorem dX7_sign_33 : decode cX7_sign 33 = .ok (.invokevirtual 148, 3) := by decide +kernel
theorem dX7_sign_36 : decode cX7_sign 36 = .ok (.aload_n 0, 1) := by decide +kernel
theorem dX7_sign_37 : decode cX7_sign 37 = .ok (.dup, 1) := by decide +kernel
theorem dX7_sign_38 : decode cX7_sign 38 = .ok (.getfield 125, 3) := by decide +kernel
theorem dX7_sign_41 : decode cX7_sign 41 = .ok (.iconst 1, 1) := by decide +kernel
theorem dX7_sign_42 : decode cX7_sign 42 = .ok (.iadd, 1) := by decide +kernel
theorem dX7_sign_43 : decode cX7_sign 43 = .ok (.putfield 125, 3) := by decide +kernel
theorem dX7_sign_46 : decode cX7_sign 46 = .ok (.iconst 1, 1) := by decide +kernel
theorem dX7_sign_47 : decode cX7_sign 47 = .ok (.ireturn, 1) := by decide +kernel
theorem dX7_verify_0 : decode cX7_verify 0 = .ok (.aload_n 0, 1) := by decide +kernel
theorem dX7_verify_1 : decode cX7_verify 1 = .ok (.getfield 49, 3) := by decide +kernel
theorem dX7_verify_4 : decode cX7_verify 4 = .ok (.invokevirtual 84, 3) := by decide +kernel
theorem dX7_verify_7 : decode cX7_verify 7 = .ok (.ifCond .ne 6, 3) := by decide +kernel
theorem dX7_verify_10 : decode cX7_verify 10 = .ok (.bipush (-3), 2) := by decide +kernel
theorem dX7_verify_12 : decode cX7_verify 12 = .ok (.ireturn, 1) := by decide +kernel
theorem dX7_verify_13 : decode cX7_verify 13 = .ok (.aload_n 0, 1) := by decide +kernel
theorem dX7_verify_14 : decode cX7_verify 14 = .ok (.dup, 1) := by decide +kernel
theorem dX7_verify_15 : decode cX7_verify 15 = .ok (.getfield 128, 3) := by decide +kernel
theorem dX7_verify_18 : decode cX7_verify 18 = .ok (.iconst 1, 1) := by decide +kernel
theorem dX7_verify_19 : decode cX7_verify 19 = .ok (.iadd, 1) := by decide +kernel
theorem dX7_verify_20 : decode cX7_verify 20 = .ok (.putfield 128, 3) := by decide +kernel
theorem dX7_verify_23 : decode cX7_verify 23 = .ok (.aload_n 0, 1) := by decide +kernel
theorem dX7_verify_24 : decode cX7_verify 24 = .ok (.getfield 49, 3) := by decide +kernel
theorem dX7_verify_27 : decode cX7_verify 27 = .ok (.aload_n 0, 1) := by decide +kernel
theorem dX7_verify_28 : decode cX7_verify 28 = .ok (.getfield 60, 3) := by decide +kernel
theorem dX7_verify_31 : decode cX7_verify 31 = .ok (.invokevirtual 151, 3) := by decide +kernel
theorem dX7_verify_34 : decode cX7_verify 34 = .ok (.ifCond .ne 5, 3) := by decide +kernel
theorem dX7_verify_37 : decode cX7_verify 37 = .ok (.iconst 0, 1) := by decide +kernel
theorem dX7_verify_38 : decode cX7_verify 38 = .ok (.ireturn, 1) := by decide +kernel
theorem dX7_verify_39 : decode cX7_verify 39 = .ok (.aload_n 0, 1) := by decide +kernel
theorem dX7_verify_40 : decode cX7_verify 40 = .ok (.getfield 49, 3) := by decide +kernel
theorem dX7_verify_43 : decode cX7_verify 43 = .ok (.aload_n 0, 1) := by decide +kernel
theorem dX7_verify_44 : decode cX7_verify 44 = .ok (.getfield 67, 3) := by decide +kernel
theorem dX7_verify_47 : decode cX7_verify 47 = .ok (.aload_n 0, 1) := by decide +kernel
theorem dX7_verify_48 : decode cX7_verify 48 = .ok (.getfield 60, 3) := by decide +kernel
theorem dX7_verify_51 : decode cX7_verify 51 = .ok (.invokevirtual 155, 3) := by decide +kernel
theorem dX7_verify_54 : decode cX7_verify 54 = .ok (.aload_n 0, 1) := by decide +kernel
theorem dX7_verify_55 : decode cX7_verify 55 = .ok (.aload_n 0, 1) := by decide +kernel
theorem dX7_verify_56 : decode cX7_verify 56 = .ok (.getfield 64, 3) := by decide +kernel
theorem dX7_verify_59 : decode cX7_verify 59 = .ok (.invokevirtual 144, 3) := by decide +kernel
theorem dX7_verify_62 : decode cX7_verify 62 = .ok (.aload_n 0, 1) := by decide +kernel
theorem dX7_verify_63 : decode cX7_verify 63 = .ok (.getfield 67, 3) := by decide +kernel
theorem dX7_verify_66 : decode cX7_verify 66 = .ok (.aload_n 0, 1) := by decide +kernel
theorem dX7_verify_67 : decode cX7_verify 67 = .ok (.getfield 64, 3) := by decide +kernel
theorem dX7_verify_70 : decode cX7_verify 70 = .ok (.invokestatic 158, 3) := by decide +kernel
theorem dX7_verify_73 : decode cX7_verify 73 = .ok (.ifCond .ne 7, 3) := by decide +kernel
theorem dX7_verify_76 : decode cX7_verify 76 = .ok (.iconst 1, 1) := by decide +kernel
theorem dX7_verify_77 : decode cX7_verify 77 = .ok (.goto 4, 3) := by decide +kernel
theorem dX7_verify_80 : decode cX7_verify 80 = .ok (.iconst 0, 1) := by decide +kernel
theorem dX7_verify_81 : decode cX7_verify 81 = .ok (.ireturn, 1) := by decide +kernel
theorem dX7_power_0 : decode cX7_power 0 = .ok (.aload_n 0, 1) := by decide +kernel
theorem dX7_power_1 : decode cX7_power 1 = .ok (.getfield 49, 3) := by decide +kernel
theorem dX7_power_4 : decode cX7_power 4 = .ok (.invokevirtual 84, 3) := by decide +kernel
theorem dX7_power_7 : decode cX7_power 7 = .ok (.ifCond .eq 17, 3) := by decide +kernel
theorem dX7_power_10 : decode cX7_power 10 = .ok (.aload_n 0, 1) := by decide +kernel
theorem dX7_power_11 : decode cX7_power 11 = .ok (.getfield 49, 3) := by decide +kernel
theorem dX7_power_14 : decode cX7_power 14 = .ok (.aload_n 0, 1) := by decide +kernel
theorem dX7_power_15 : decode cX7_power 15 = .ok (.getfield 60, 3) := by decide +kernel
theorem dX7_power_18 : decode cX7_power 18 = .ok (.invokevirtual 151, 3) := by decide +kernel
theorem dX7_power_21 : decode cX7_power 21 = .ok (.ifCond .ne 6, 3) := by decide +kernel
theorem dX7_power_24 : decode cX7_power 24 = .ok (.bipush (-3), 2) := by decide +kernel
theorem dX7_power_26 : decode cX7_power 26 = .ok (.ireturn, 1) := by decide +kernel
theorem dX7_power_27 : decode cX7_power 27 = .ok (.iload_n 1, 1) := by decide +kernel
theorem dX7_power_28 : decode cX7_power 28 = .ok (.ifCond .eq 21, 3) := by decide +kernel
theorem dX7_power_31 : decode cX7_power 31 = .ok (.aload_n 0, 1) := by decide +kernel
theorem dX7_power_32 : decode cX7_power 32 = .ok (.getfield 49, 3) := by decide +kernel
theorem dX7_power_35 : decode cX7_power 35 = .ok (.aload_n 0, 1) := by decide +kernel
theorem dX7_power_36 : decode cX7_power 36 = .ok (.getfield 60, 3) := by decide +kernel
theorem dX7_power_39 : decode cX7_power 39 = .ok (.aload_n 0, 1) := by decide +kernel
theorem dX7_power_40 : decode cX7_power 40 = .ok (.getfield 60, 3) := by decide +kernel
theorem dX7_power_43 : decode cX7_power 43 = .ok (.invokevirtual 155, 3) := by decide +kernel
theorem dX7_power_46 : decode cX7_power 46 = .ok (.goto 18, 3) := by decide +kernel
theorem dX7_power_49 : decode cX7_power 49 = .ok (.aload_n 0, 1) := by decide +kernel
theorem dX7_power_50 : decode cX7_power 50 = .ok (.getfield 49, 3) := by decide +kernel
theorem dX7_power_53 : decode cX7_power 53 = .ok (.aload_n 0, 1) := by decide +kernel
theorem dX7_power_54 : decode cX7_power 54 = .ok (.getfield 60, 3) := by decide +kernel
theorem dX7_power_57 : decode cX7_power 57 = .ok (.aload_n 0, 1) := by decide +kernel
theorem dX7_power_58 : decode cX7_power 58 = .ok (.getfield 60, 3) := by decide +kernel
theorem dX7_power_61 : decode cX7_power 61 = .ok (.invokevirtual 164, 3) := by decide +kernel
theorem dX7_power_64 : decode cX7_power 64 = .ok (.iconst 1, 1) := by decide +kernel
theorem dX7_power_65 : decode cX7_power 65 = .ok (.ireturn, 1) := by decide +kernel
theorem dX7_encode_0 : decode cX7_encode 0 = .ok (.aload_n 0, 1) := by decide +kernel
theorem dX7_encode_1 : decode cX7_encode 1 = .ok (.aload_n 0, 1) := by decide +kernel
theorem dX7_encode_2 : decode cX7_encode 2 = .ok (.getfield 60, 3) := by decide +kernel
theorem dX7_encode_5 : decode cX7_encode 5 = .ok (.invokevirtual 144, 3) := by decide +kernel
theorem dX7_encode_8 : decode cX7_encode 8 = .ok (.iconst 1, 1) := by decide +kernel
theorem dX7_encode_9 : decode cX7_encode 9 = .ok (.ireturn, 1) := by decide +kernel
theorem dX7_set_0 : decode cX7_set 0 = .ok (.iload_n 1, 1) := by decide +kernel
theorem dX7_set_1 : decode cX7_set 1 = .ok (.ifCond .lt 22, 3) := by decide +kernel
theorem dX7_set_4 : decode cX7_set 4 = .ok (.iload_n 1, 1) := by decide +kernel
theorem dX7_set_5 : decode cX7_set 5 = .ok (.aload_n 0, 1) := by decide +kernel
theorem dX7_set_6 : decode cX7_set 6 = .ok (.getfield 22, 3) := by decide +kernel
theorem dX7_set_9 : decode cX7_set 9 = .ok (.if_icmp .ge 14, 3) := by decide +kernel
theorem dX7_set_12 : decode cX7_set 12 = .ok (.iload_n 2, 1) := by decide +kernel
theorem dX7_set_13 : decode cX7_set 13 = .ok (.ifCond .lt 10, 3) := by decide +kernel
theorem dX7_set_16 : decode cX7_set 16 = .ok (.iload_n 2, 1) := by decide +kernel
theorem dX7_set_17 : decode cX7_set 17 = .ok (.sipush 255, 3) := by decide +kernel
theorem dX7_set_20 : decode cX7_set 20 = .ok (.if_icmp .le 6, 3) := by decide +kernel
theorem dX7_set_23 : decode cX7_set 23 = .ok (.bipush (-2), 2) := by decide +kernel
theorem dX7_set_25 : decode cX7_set 25 = .ok (.ireturn, 1) := by decide +kernel
theorem dX7_set_26 : decode cX7_set 26 = .ok (.aload_n 0, 1) := by decide +kernel
theorem dX7_set_27 : decode cX7_set 27 = .ok (.getfield 60, 3) := by decide +kernel
theorem dX7_set_30 : decode cX7_set 30 = .ok (.aload_n 0, 1) := by decide +kernel
theorem dX7_set_31 : decode cX7_set 31 = .ok (.getfield 22, 3) := by decide +kernel
theorem dX7_set_34 : decode cX7_set 34 = .ok (.iconst 1, 1) := by decide +kernel
theorem dX7_set_35 : decode cX7_set 35 = .ok (.isub, 1) := by decide +kernel
theorem dX7_set_36 : decode cX7_set 36 = .ok (.iload_n 1, 1) := by decide +kernel
theorem dX7_set_37 : decode cX7_set 37 = .ok (.isub, 1) := by decide +kernel
theorem dX7_set_38 : decode cX7_set 38 = .ok (.invokestatic 167, 3) := by decide +kernel
theorem dX7_set_41 : decode cX7_set 41 = .ok (.istore_n 3, 1) := by decide +kernel
theorem dX7_set_42 : decode cX7_set 42 = .ok (.aload_n 0, 1) := by decide +kernel
theorem dX7_set_43 : decode cX7_set 43 = .ok (.getfield 60, 3) := by decide +kernel
theorem dX7_set_46 : decode cX7_set 46 = .ok (.aload_n 0, 1) := by decide +kernel
theorem dX7_set_47 : decode cX7_set 47 = .ok (.getfield 22, 3) := by decide +kernel
theorem dX7_set_50 : decode cX7_set 50 = .ok (.iconst 1, 1) := by decide +kernel
theorem dX7_set_51 : decode cX7_set 51 = .ok (.isub, 1) := by decide +kernel
theorem dX7_set_52 : decode cX7_set 52 = .ok (.iload_n 1, 1) := by decide +kernel
theorem dX7_set_53 : decode cX7_set 53 = .ok (.isub, 1) := by decide +kernel
theorem dX7_set_54 : decode cX7_set 54 = .ok (.iload_n 2, 1) := by decide +kernel
theorem dX7_set_55 : decode cX7_set 55 = .ok (.invokestatic 171, 3) := by decide +kernel
theorem dX7_set_58 : decode cX7_set 58 = .ok (.iload_n 3, 1) := by decide +kernel
theorem dX7_set_59 : decode cX7_set 59 = .ok (.ireturn, 1) := by decide +kernel
theorem dX7_get_0 : decode cX7_get 0 = .ok (.iload_n 1, 1) := by decide +kernel
theorem dX7_get_1 : decode cX7_get 1 = .ok (.ifCond .lt 11, 3) := by decide +kernel
theorem dX7_get_4 : decode cX7_get 4 = .ok (.iload_n 1, 1) := by decide +kernel
theorem dX7_get_5 : decode cX7_get 5 = .ok (.aload_n 0, 1) := by decide +kernel
theorem dX7_get_6 : decode cX7_get 6 = .ok (.getfield 22, 3) := by decide +kernel
theorem dX7_get_9 : decode cX7_get 9 = .ok (.if_icmp .lt 8, 3) := by decide +kernel
theorem dX7_get_12 : decode cX7_get 12 = .ok (.bipush (-2), 2) := by decide +kernel
theorem dX7_get_14 : decode cX7_get 14 = .ok (.goto 18, 3) := by decide +kernel
theorem dX7_get_17 : decode cX7_get 17 = .ok (.aload_n 0, 1) := by decide +kernel
theorem dX7_get_18 : decode cX7_get 18 = .ok (.getfield 60, 3) := by decide +kernel
theorem dX7_get_21 : decode cX7_get 21 = .ok (.aload_n 0, 1) := by decide +kernel
theorem dX7_get_22 : decode cX7_get 22 = .ok (.getfield 22, 3) := by decide +kernel
theorem dX7_get_25 : decode cX7_get 25 = .ok (.iconst 1, 1) := by decide +kernel
theorem dX7_get_26 : decode cX7_get 26 = .ok (.isub, 1) := by decide +kernel
theorem dX7_get_27 : decode cX7_get 27 = .ok (.iload_n 1, 1) := by decide +kernel
theorem dX7_get_28 : decode cX7_get 28 = .ok (.isub, 1) := by decide +kernel
theorem dX7_get_29 : decode cX7_get 29 = .ok (.invokestatic 167, 3) := by decide +kernel
theorem dX7_get_32 : decode cX7_get 32 = .ok (.ireturn, 1) := by decide +kernel
theorem dX7_digest_0 : decode cX7_digest 0 = .ok (.ldc2_w 175, 3) := by decide +kernel
theorem dX7_digest_3 : decode cX7_digest 3 = .ok (.lstore_n 1, 1) := by decide +kernel
theorem dX7_digest_4 : decode cX7_digest 4 = .ok (.iconst 0, 1) := by decide +kernel
theorem dX7_digest_5 : decode cX7_digest 5 = .ok (.istore_n 3, 1) := by decide +kernel
theorem dX7_digest_6 : decode cX7_digest 6 = .ok (.iload_n 3, 1) := by decide +kernel
theorem dX7_digest_7 : decode cX7_digest 7 = .ok (.aload_n 0, 1) := by decide +kernel
theorem dX7_digest_8 : decode cX7_digest 8 = .ok (.getfield 22, 3) := by decide +kernel
theorem dX7_digest_11 : decode cX7_digest 11 = .ok (.if_icmp .ge 32, 3) := by decide +kernel
theorem dX7_digest_14 : decode cX7_digest 14 = .ok (.ldc2_w 177, 3) := by decide +kernel
theorem dX7_digest_17 : decode cX7_digest 17 = .ok (.lload_n 1, 1) := by decide +kernel
theorem dX7_digest_18 : decode cX7_digest 18 = .ok (.lmul, 1) := by decide +kernel
theorem dX7_digest_19 : decode cX7_digest 19 = .ok (.aload_n 0, 1) := by decide +kernel
theorem dX7_digest_20 : decode cX7_digest 20 = .ok (.getfield 60, 3) := by decide +kernel
theorem dX7_digest_23 : decode cX7_digest 23 = .ok (.aload_n 0, 1) := by decide +kernel
theorem dX7_digest_24 : decode cX7_digest 24 = .ok (.getfield 22, 3) := by decide +kernel
theorem dX7_digest_27 : decode cX7_digest 27 = .ok (.iconst 1, 1) := by decide +kernel
theorem dX7_digest_28 : decode cX7_digest 28 = .ok (.isub, 1) := by decide +kernel
theorem dX7_digest_29 : decode cX7_digest 29 = .ok (.iload_n 3, 1) := by decide +kernel
theorem dX7_digest_30 : decode cX7_digest 30 = .ok (.isub, 1) := by decide +kernel
theorem dX7_digest_31 : decode cX7_digest 31 = .ok (.invokestatic 167, 3) := by decide +kernel
theorem dX7_digest_34 : decode cX7_digest 34 = .ok (.i2l, 1) := by decide +kernel
theorem dX7_digest_35 : decode cX7_digest 35 = .ok (.ladd, 1) := by decide +kernel
theorem dX7_digest_36 : decode cX7_digest 36 = .ok (.lstore_n 1, 1) := by decide +kernel
theorem dX7_digest_37 : decode cX7_digest 37 = .ok (.iinc 3 1, 3) := by decide +kernel
theorem dX7_digest_40 : decode cX7_digest 40 = .ok (.goto (-34), 3) := by decide +kernel
theorem dX7_digest_43 : decode cX7_digest 43 = .ok (.aload_n 0, 1) := by decide +kernel
theorem dX7_digest_44 : decode cX7_digest 44 = .ok (.getfield 49, 3) := by decide +kernel
theorem dX7_digest_47 : decode cX7_digest 47 = .ok (.invokevirtual 84, 3) := by decide +kernel
theorem dX7_digest_50 : decode cX7_digest 50 = .ok (.ifCond .eq 9, 3) := by decide +kernel
theorem dX7_digest_53 : decode cX7_digest 53 = .ok (.aload_n 0, 1) := by decide +kernel
theorem dX7_digest_54 : decode cX7_digest 54 = .ok (.lload_n 1, 1) := by decide +kernel
theorem dX7_digest_55 : decode cX7_digest 55 = .ok (.invokevirtual 179, 3) := by decide +kernel
theorem dX7_digest_58 : decode cX7_digest 58 = .ok (.lstore_n 1, 1) := by decide +kernel
theorem dX7_digest_59 : decode cX7_digest 59 = .ok (.iconst 2, 1) := by decide +kernel
theorem dX7_digest_60 : decode cX7_digest 60 = .ok (.istore_n 3, 1) := by decide +kernel
theorem dX7_digest_61 : decode cX7_digest 61 = .ok (.iload_n 3, 1) := by decide +kernel
theorem dX7_digest_62 : decode cX7_digest 62 = .ok (.bipush 8, 2) := by decide +kernel
theorem dX7_digest_64 : decode cX7_digest 64 = .ok (.if_icmp .ge 22, 3) := by decide +kernel
theorem dX7_digest_67 : decode cX7_digest 67 = .ok (.ldc2_w 177, 3) := by decide +kernel
theorem dX7_digest_70 : decode cX7_digest 70 = .ok (.lload_n 1, 1) := by decide +kernel
theorem dX7_digest_71 : decode cX7_digest 71 = .ok (.lmul, 1) := by decide +kernel
theorem dX7_digest_72 : decode cX7_digest 72 = .ok (.aload_n 0, 1) := by decide +kernel
theorem dX7_digest_73 : decode cX7_digest 73 = .ok (.iload_n 3, 1) := by decide +kernel
theorem dX7_digest_74 : decode cX7_digest 74 = .ok (.invokevirtual 183, 3) := by decide +kernel
theorem dX7_digest_77 : decode cX7_digest 77 = .ok (.i2l, 1) := by decide +kernel
theorem dX7_digest_78 : decode cX7_digest 78 = .ok (.ladd, 1) := by decide +kernel
theorem dX7_digest_79 : decode cX7_digest 79 = .ok (.lstore_n 1, 1) := by decide +kernel
theorem dX7_digest_80 : decode cX7_digest 80 = .ok (.iinc 3 1, 3) := by decide +kernel
theorem dX7_digest_83 : decode cX7_digest 83 = .ok (.goto (-22), 3) := by decide +kernel
theorem dX7_digest_86 : decode cX7_digest 86 = .ok (.lload_n 1, 1) := by decide +kernel
theorem dX7_digest_87 : decode cX7_digest 87 = .ok (.lreturn, 1) := by decide +kernel
theorem dX7_digestKey_0 : decode cX7_digestKey 0 = .ok (.lload_n 1, 1) := by decide +kernel
theorem dX7_digestKey_1 : decode cX7_digestKey 1 = .ok (.lstore_n 3, 1) := by decide +kernel
theorem dX7_digestKey_2 : decode cX7_digestKey 2 = .ok (.iconst 0, 1) := by decide +kernel
theorem dX7_digestKey_3 : decode cX7_digestKey 3 = .ok (.istore 5, 2) := by decide +kernel
theorem dX7_digestKey_5 : decode cX7_digestKey 5 = .ok (.iload 5, 2) := by decide +kernel
theorem dX7_digestKey_7 : decode cX7_digestKey 7 = .ok (.bipush 7, 2) := by decide +kernel
theorem dX7_digestKey_9 : decode cX7_digestKey 9 = .ok (.if_icmp .ge 45, 3) := by decide +kernel
theorem dX7_digestKey_12 : decode cX7_digestKey 12 = .ok (.iconst 0, 1) := by decide +kernel
theorem dX7_digestKey_13 : decode cX7_digestKey 13 = .ok (.istore 6, 2) := by decide +kernel
theorem dX7_digestKey_15 : decode cX7_digestKey 15 = .ok (.iload 6, 2) := by decide +kernel
theorem dX7_digestKey_17 : decode cX7_digestKey 17 = .ok (.aload_n 0, 1) := by decide +kernel
theorem dX7_digestKey_18 : decode cX7_digestKey 18 = .ok (.iload 5, 2) := by decide +kernel
theorem dX7_digestKey_20 : decode cX7_digestKey 20 = .ok (.invokevirtual 112, 3) := by decide +kernel
theorem dX7_digestKey_23 : decode cX7_digestKey 23 = .ok (.if_icmp .ge 25, 3) := by decide +kernel
theorem dX7_digestKey_26 : decode cX7_digestKey 26 = .ok (.ldc2_w 177, 3) := by decide +kernel
theorem dX7_digestKey_29 : decode cX7_digestKey 29 = .ok (.lload_n 3, 1) := by decide +kernel
theorem dX7_digestKey_30 : decode cX7_digestKey 30 = .ok (.lmul, 1) := by decide +kernel
theorem dX7_digestKey_31 : decode cX7_digestKey 31 = .ok (.aload_n 0, 1) := by decide +kernel
theorem dX7_digestKey_32 : decode cX7_digestKey 32 = .ok (.iload 5, 2) := by decide +kernel
theorem dX7_digestKey_34 : decode cX7_digestKey 34 = .ok (.iload 6, 2) := by decide +kernel
theorem dX7_digestKey_36 : decode cX7_digestKey 36 = .ok (.invokevirtual 116, 3) := by decide +kernel
theorem dX7_digestKey_39 : decode cX7_digestKey 39 = .ok (.i2l, 1) := by decide +kernel
theorem dX7_digestKey_40 : decode cX7_digestKey 40 = .ok (.ladd, 1) := by decide +kernel
theorem dX7_digestKey_41 : decode cX7_digestKey 41 = .ok (.lstore_n 3, 1) := by decide +kernel
theorem dX7_digestKey_42 : decode cX7_digestKey 42 = .ok (.iinc 6 1, 3) := by decide +kernel
theorem dX7_digestKey_45 : decode cX7_digestKey 45 = .ok (.goto (-30), 3) := by decide +kernel
theorem dX7_digestKey_48 : decode cX7_digestKey 48 = .ok (.iinc 5 1, 3) := by decide +kernel
theorem dX7_digestKey_51 : decode cX7_digestKey 51 = .ok (.goto (-46), 3) := by decide +kernel
theorem dX7_digestKey_54 : decode cX7_digestKey 54 = .ok (.lload_n 3, 1) := by decide +kernel
theorem dX7_digestKey_55 : decode cX7_digestKey 55 = .ok (.lreturn, 1) := by decide +kernel
theorem dX7_bytesOfKeyPart_0 : decode cX7_bytesOfKeyPart 0 = .ok (.iload_n 1, 1) := by decide +kernel
theorem dX7_bytesOfKeyPart_1 : decode cX7_bytesOfKeyPart 1 = .ok (.iconst 2, 1) := by decide +kernel
theorem dX7_bytesOfKeyPart_2 : decode cX7_bytesOfKeyPart 2 = .ok (.if_icmp .ge 10, 3) := by decide +kernel
theorem dX7_bytesOfKeyPart_5 : decode cX7_bytesOfKeyPart 5 = .ok (.aload_n 0, 1) := by decide +kernel
theorem dX7_bytesOfKeyPart_6 : decode cX7_bytesOfKeyPart 6 = .ok (.getfield 22, 3) := by decide +kernel
theorem dX7_bytesOfKeyPart_9 : decode cX7_bytesOfKeyPart 9 = .ok (.goto 7, 3) := by decide +kernel
theorem dX7_bytesOfKeyPart_12 : decode cX7_bytesOfKeyPart 12 = .ok (.aload_n 0, 1) := by decide +kernel
theorem dX7_bytesOfKeyPart_13 : decode cX7_bytesOfKeyPart 13 = .ok (.getfield 18, 3) := by decide +kernel
theorem dX7_bytesOfKeyPart_16 : decode cX7_bytesOfKeyPart 16 = .ok (.ireturn, 1) := by decide +kernel
theorem dX7_byteOfKeyPart_0 : decode cX7_byteOfKeyPart 0 = .ok (.aload_n 0, 1) := by decide +kernel
theorem dX7_byteOfKeyPart_1 : decode cX7_byteOfKeyPart 1 = .ok (.getfield 49, 3) := by decide +kernel
theorem dX7_byteOfKeyPart_4 : decode cX7_byteOfKeyPart 4 = .ok (.iload_n 1, 1) := by decide +kernel
theorem dX7_byteOfKeyPart_5 : decode cX7_byteOfKeyPart 5 = .ok (.invokevirtual 186, 3) := by decide +kernel
theorem dX7_byteOfKeyPart_8 : decode cX7_byteOfKeyPart 8 = .ok (.aload_n 0, 1) := by decide +kernel
theorem dX7_byteOfKeyPart_9 : decode cX7_byteOfKeyPart 9 = .ok (.iload_n 1, 1) := by decide +kernel
theorem dX7_byteOfKeyPart_10 : decode cX7_byteOfKeyPart 10 = .ok (.invokevirtual 112, 3) := by decide +kernel
theorem dX7_byteOfKeyPart_13 : decode cX7_byteOfKeyPart 13 = .ok (.iconst 1, 1) := by decide +kernel
theorem dX7_byteOfKeyPart_14 : decode cX7_byteOfKeyPart 14 = .ok (.isub, 1) := by decide +kernel
theorem dX7_byteOfKeyPart_15 : decode cX7_byteOfKeyPart 15 = .ok (.iload_n 2, 1) := by decide +kernel
theorem dX7_byteOfKeyPart_16 : decode cX7_byteOfKeyPart 16 = .ok (.isub, 1) := by decide +kernel
theorem dX7_byteOfKeyPart_17 : decode cX7_byteOfKeyPart 17 = .ok (.invokestatic 167, 3) := by decide +kernel
theorem dX7_byteOfKeyPart_20 : decode cX7_byteOfKeyPart 20 = .ok (.ireturn, 1) := by decide +kernel
theorem dX7_encodedByte_0 : decode cX7_encodedByte 0 = .ok (.aload_n 0, 1) := by decide +kernel
theorem dX7_encodedByte_1 : decode cX7_encodedByte 1 = .ok (.getfield 22, 3) := by decide +kernel
theorem dX7_encodedByte_4 : decode cX7_encodedByte 4 = .ok (.bipush 32, 2) := by decide +kernel
theorem dX7_encodedByte_6 : decode cX7_encodedByte 6 = .ok (.isub, 1) := by decide +kernel
theorem dX7_encodedByte_7 : decode cX7_encodedByte 7 = .ok (.istore_n 2, 1) := by decide +kernel
theorem dX7_encodedByte_8 : decode cX7_encodedByte 8 = .ok (.iload_n 2, 1) := by decide +kernel
theorem dX7_encodedByte_9 : decode cX7_encodedByte 9 = .ok (.getstatic 190, 3) := by decide +kernel
theorem dX7_encodedByte_12 : decode cX7_encodedByte 12 = .ok (.arraylength, 1) := by decide +kernel
theorem dX7_encodedByte_13 : decode cX7_encodedByte 13 = .ok (.isub, 1) := by decide +kernel
theorem dX7_encodedByte_14 : decode cX7_encodedByte 14 = .ok (.istore_n 3, 1) := by decide +kernel
theorem dX7_encodedByte_15 : decode cX7_encodedByte 15 = .ok (.iload_n 1, 1) := by decide +kernel
theorem dX7_encodedByte_16 : decode cX7_encodedByte 16 = .ok (.iload_n 2, 1) := by decide +kernel
theorem dX7_encodedByte_17 : decode cX7_encodedByte 17 = .ok (.if_icmp .lt 14, 3) := by decide +kernel
theorem dX7_encodedByte_20 : decode cX7_encodedByte 20 = .ok (.aload_n 0, 1) := by decide +kernel
theorem dX7_encodedByte_21 : decode cX7_encodedByte 21 = .ok (.getfield 56, 3) := by decide +kernel
theorem dX7_encodedByte_24 : decode cX7_encodedByte 24 = .ok (.iload_n 1, 1) := by decide +kernel
theorem dX7_encodedByte_25 : decode cX7_encodedByte 25 = .ok (.iload_n 2, 1) := by decide +kernel
theorem dX7_encodedByte_26 : decode cX7_encodedByte 26 = .ok (.isub, 1) := by decide +kernel
theorem dX7_encodedByte_27 : decode cX7_encodedByte 27 = .ok (.invokevirtual 138, 3) := by decide +kernel
theorem dX7_encodedByte_30 : decode cX7_encodedByte 30 = .ok (.ireturn, 1) := by decide +kernel
theorem dX7_encodedByte_31 : decode cX7_encodedByte 31 = .ok (.iload_n 1, 1) := by decide +kernel
theorem dX7_encodedByte_32 : decode cX7_encodedByte 32 = .ok (.iload_n 3, 1) := by decide +kernel
theorem dX7_encodedByte_33 : decode cX7_encodedByte 33 = .ok (.if_icmp .lt 28, 3) := by decide +kernel
theorem dX7_encodedByte_36 : decode cX7_encodedByte 36 = .ok (.iload_n 1, 1) := by decide +kernel
theorem dX7_encodedByte_37 : decode cX7_encodedByte 37 = .ok (.iload_n 3, 1) := by decide +kernel
theorem dX7_encodedByte_38 : decode cX7_encodedByte 38 = .ok (.isub, 1) := by decide +kernel
theorem dX7_encodedByte_39 : decode cX7_encodedByte 39 = .ok (.istore 4, 2) := by decide +kernel
theorem dX7_encodedByte_41 : decode cX7_encodedByte 41 = .ok (.iload 4, 2) := by decide +kernel
theorem dX7_encodedByte_43 : decode cX7_encodedByte 43 = .ok (.getstatic 190, 3) := by decide +kernel
theorem dX7_encodedByte_46 : decode cX7_encodedByte 46 = .ok (.arraylength, 1) := by decide +kernel
theorem dX7_encodedByte_47 : decode cX7_encodedByte 47 = .ok (.if_icmp .ge 12, 3) := by decide +kernel
theorem dX7_encodedByte_50 : decode cX7_encodedByte 50 = .ok (.getstatic 190, 3) := by decide +kernel
theorem dX7_encodedByte_53 : decode cX7_encodedByte 53 = .ok (.iload 4, 2) := by decide +kernel
theorem dX7_encodedByte_55 : decode cX7_encodedByte 55 = .ok (.iaload, 1) := by decide +kernel
theorem dX7_encodedByte_56 : decode cX7_encodedByte 56 = .ok (.goto 4, 3) := by decide +kernel
theorem dX7_encodedByte_59 : decode cX7_encodedByte 59 = .ok (.iconst 0, 1) := by decide +kernel
theorem dX7_encodedByte_60 : decode cX7_encodedByte 60 = .ok (.ireturn, 1) := by decide +kernel
theorem dX7_encodedByte_61 : decode cX7_encodedByte 61 = .ok (.iload_n 1, 1) := by decide +kernel
theorem dX7_encodedByte_62 : decode cX7_encodedByte 62 = .ok (.ifCond .eq 10, 3) := by decide +kernel
theorem dX7_encodedByte_65 : decode cX7_encodedByte 65 = .ok (.iload_n 1, 1) := by decide +kernel
theorem dX7_encodedByte_66 : decode cX7_encodedByte 66 = .ok (.iload_n 3, 1) := by decide +kernel
theorem dX7_encodedByte_67 : decode cX7_encodedByte 67 = .ok (.iconst 1, 1) := by decide +kernel
theorem dX7_encodedByte_68 : decode cX7_encodedByte 68 = .ok (.isub, 1) := by decide +kernel
theorem dX7_encodedByte_69 : decode cX7_encodedByte 69 = .ok (.if_icmp .ne 5, 3) := by decide +kernel
theorem dX7_encodedByte_72 : decode cX7_encodedByte 72 = .ok (.iconst 0, 1) := by decide +kernel
theorem dX7_encodedByte_73 : decode cX7_encodedByte 73 = .ok (.ireturn, 1) := by decide +kernel
theorem dX7_encodedByte_74 : decode cX7_encodedByte 74 = .ok (.iload_n 1, 1) := by decide +kernel
theorem dX7_encodedByte_75 : decode cX7_encodedByte 75 = .ok (.iconst 1, 1) := by decide +kernel
theorem dX7_encodedByte_76 : decode cX7_encodedByte 76 = .ok (.if_icmp .ne 7, 3) := by decide +kernel
theorem dX7_encodedByte_79 : decode cX7_encodedByte 79 = .ok (.iconst 1, 1) := by decide +kernel
theorem dX7_encodedByte_80 : decode cX7_encodedByte 80 = .ok (.goto 6, 3) := by decide +kernel
theorem dX7_encodedByte_83 : decode cX7_encodedByte 83 = .ok (.sipush 255, 3) := by decide +kernel
theorem dX7_encodedByte_86 : decode cX7_encodedByte 86 = .ok (.ireturn, 1) := by decide +kernel
theorem dX7_writeEncoded_0 : decode cX7_writeEncoded 0 = .ok (.iconst 0, 1) := by decide +kernel
theorem dX7_writeEncoded_1 : decode cX7_writeEncoded 1 = .ok (.istore_n 2, 1) := by decide +kernel
theorem dX7_writeEncoded_2 : decode cX7_writeEncoded 2 = .ok (.iload_n 2, 1) := by decide +kernel
theorem dX7_writeEncoded_3 : decode cX7_writeEncoded 3 = .ok (.aload_n 0, 1) := by decide +kernel
theorem dX7_writeEncoded_4 : decode cX7_writeEncoded 4 = .ok (.getfield 22, 3) := by decide +kernel
theorem dX7_writeEncoded_7 : decode cX7_writeEncoded 7 = .ok (.if_icmp .ge 26, 3) := by decide +kernel
theorem dX7_writeEncoded_10 : decode cX7_writeEncoded 10 = .ok (.aload_n 1, 1) := by decide +kernel
theorem dX7_writeEncoded_11 : decode cX7_writeEncoded 11 = .ok (.aload_n 0, 1) := by decide +kernel
theorem dX7_writeEncoded_12 : decode cX7_writeEncoded 12 = .ok (.getfield 22, 3) := by decide +kernel
theorem dX7_writeEncoded_15 : decode cX7_writeEncoded 15 = .ok (.iconst 1, 1) := by decide +kernel
theorem dX7_writeEncoded_16 : decode cX7_writeEncoded 16 = .ok (.isub, 1) := by decide +kernel
theorem dX7_writeEncoded_17 : decode cX7_writeEncoded 17 = .ok (.iload_n 2, 1) := by decide +kernel
theorem dX7_writeEncoded_18 : decode cX7_writeEncoded 18 = .ok (.isub, 1) := by decide +kernel
theorem dX7_writeEncoded_19 : decode cX7_writeEncoded 19 = .ok (.aload_n 0, 1) := by decide +kernel
theorem dX7_writeEncoded_20 : decode cX7_writeEncoded 20 = .ok (.iload_n 2, 1) := by decide +kernel
theorem dX7_writeEncoded_21 : decode cX7_writeEncoded 21 = .ok (.invokevirtual 141, 3) := by decide +kernel
theorem dX7_writeEncoded_24 : decode cX7_writeEncoded 24 = .ok (.invokestatic 171, 3) := by decide +kernel
theorem dX7_writeEncoded_27 : decode cX7_writeEncoded 27 = .ok (.iinc 2 1, 3) := by decide +kernel
theorem dX7_writeEncoded_30 : decode cX7_writeEncoded 30 = .ok (.goto (-28), 3) := by decide +kernel
theorem dX7_writeEncoded_33 : decode cX7_writeEncoded 33 = .ok (.return_, 1) := by decide +kernel
theorem dX8_in_0 : decode cX8_in 0 = .ok (.iload_n 0, 1) := by decide +kernel
theorem dX8_in_1 : decode cX8_in 1 = .ok (.iload_n 1, 1) := by decide +kernel
theorem dX8_in_2 : decode cX8_in 2 = .ok (.if_icmp .lt 12, 3) := by decide +kernel
theorem dX8_in_5 : decode cX8_in 5 = .ok (.iload_n 0, 1) := by decide +kernel
theorem dX8_in_6 : decode cX8_in 6 = .ok (.iload_n 2, 1) := by decide +kernel
theorem dX8_in_7 : decode cX8_in 7 = .ok (.if_icmp .gt 7, 3) := by decide +kernel
theorem dX8_in_10 : decode cX8_in 10 = .ok (.iconst 1, 1) := by decide +kernel
theorem dX8_in_11 : decode cX8_in 11 = .ok (.goto 4, 3) := by decide +kernel
theorem dX8_in_14 : decode cX8_in 14 = .ok (.iconst 0, 1) := by decide +kernel
theorem dX8_in_15 : decode cX8_in 15 = .ok (.ireturn, 1) := by decide +kernel
theorem dX8_init_0 : decode cX8_init 0 = .ok (.aload_n 0, 1) := by decide +kernel
theorem dX8_init_1 : decode cX8_init 1 = .ok (.invokespecial 1, 3) := by decide +kernel
theorem dX8_init_4 : decode cX8_init 4 = .ok (.aload_n 0, 1) := by decide +kernel
theorem dX8_init_5 : decode cX8_init 5 = .ok (.sipush 1596, 3) := by decide +kernel
theorem dX8_init_8 : decode cX8_init 8 = .ok (.newarray .int, 2) := by decide +kernel
theorem dX8_init_10 : decode cX8_init 10 = .ok (.putfield 7, 3) := by decide +kernel
theorem dX8_init_13 : decode cX8_init 13 = .ok (.aload_n 0, 1) := by decide +kernel
theorem dX8_init_14 : decode cX8_init 14 = .ok (.sipush 300, 3) := by decide +kernel
theorem dX8_init_17 : decode cX8_init 17 = .ok (.newarray .int, 2) := by decide +kernel
theorem dX8_init_19 : decode cX8_init 19 = .ok (.putfield 13, 3) := by decide +kernel
theorem dX8_init_22 : decode cX8_init 22 = .ok (.aload_n 0, 1) := by decide +kernel
theorem dX8_init_23 : decode cX8_init 23 = .ok (.bipush 8, 2) := by decide +kernel
theorem dX8_init_25 : decode cX8_init 25 = .ok (.newarray .int, 2) := by decide +kernel
theorem dX8_init_27 : decode cX8_init 27 = .ok (.putfield 16, 3) := by decide +kernel
theorem dX8_init_30 : decode cX8_init 30 = .ok (.aload_n 0, 1) := by decide +kernel
theorem dX8_init_31 : decode cX8_init 31 = .ok (.bipush 64, 2) := by decide +kernel
theorem dX8_init_33 : decode cX8_init 33 = .ok (.newarray .int, 2) := by decide +kernel
theorem dX8_init_35 : decode cX8_init 35 = .ok (.putfield 19, 3) := by decide +kernel
theorem dX8_init_38 : decode cX8_init 38 = .ok (.aload_n 0, 1) := by decide +kernel
theorem dX8_init_39 : decode cX8_init 39 = .ok (.bipush 8, 2) := by decide +kernel
theorem dX8_init_41 : decode cX8_init 41 = .ok (.newarray .int, 2) := by decide +kernel
theorem dX8_init_43 : decode cX8_init 43 = .ok (.dup, 1) := by decide +kernel
theorem dX8_init_44 : decode cX8_init 44 = .ok (.iconst 0, 1) := by decide +kernel
theorem dX8_init_45 : decode cX8_init 45 = .ok (.ldc 22, 2) := by decide +kernel
theorem dX8_init_47 : decode cX8_init 47 = .ok (.iastore, 1) := by decide +kernel
theorem dX8_init_48 : decode cX8_init 48 = .ok (.dup, 1) := by decide +kernel
theorem dX8_init_49 : decode cX8_init 49 = .ok (.iconst 1, 1) := by decide +kernel
theorem dX8_init_50 : decode cX8_init 50 = .ok (.ldc 23, 2) := by decide +kernel
theorem dX8_init_52 : decode cX8_init 52 = .ok (.iastore, 1) := by decide +kernel
theorem dX8_init_53 : decode cX8_init 53 = .ok (.dup, 1) := by decide +kernel
theorem dX8_init_54 : decode cX8_init 54 = .ok (.iconst 2, 1) := by decide +kernel
theorem dX8_init_55 : decode cX8_init 55 = .ok (.ldc 24, 2) := by decide +kernel
theorem dX8_init_57 : decode cX8_init 57 = .ok (.iastore, 1) := by decide +kernel
theorem dX8_init_58 : decode cX8_init 58 = .ok (.dup, 1) := by decide +kernel
theorem dX8_init_59 : decode cX8_init 59 = .ok (.iconst 3, 1) := by decide +kernel
theorem dX8_init_60 : decode cX8_init 60 = .ok (.ldc 25, 2) := by decide +kernel
theorem dX8_init_62 : decode cX8_init 62 = .ok (.iastore, 1) := by decide +kernel
theorem dX8_init_63 : decode cX8_init 63 = .ok (.dup, 1) := by decide +kernel
theorem dX8_init_64 : decode cX8_init 64 = .ok (.iconst 4, 1) := by decide +kernel
theorem dX8_init_65 : decode cX8_init 65 = .ok (.ldc 26, 2) := by decide +kernel
theorem dX8_init_67 : decode cX8_init 67 = .ok (.iastore, 1) := by decide +kernel
theorem dX8_init_68 : decode cX8_init 68 = .ok (.dup, 1) := by decide +kernel
theorem dX8_init_69 : decode cX8_init 69 = .ok (.iconst 5, 1) := by decide +kernel
theorem dX8_init_70 : decode cX8_init 70 = .ok (.ldc 27, 2) := by decide +kernel
theorem dX8_init_72 : decode cX8_init 72 = .ok (.iastore, 1) := by decide +kernel
theorem dX8_init_73 : decode cX8_init 73 = .ok (.dup, 1) := by decide +kernel
theorem dX8_init_74 : decode cX8_init 74 = .ok (.bipush 6, 2) := by decide +kernel
theorem dX8_init_76 : decode cX8_init 76 = .ok (.ldc 28, 2) := by decide +kernel
theorem dX8_init_78 : decode cX8_init 78 = .ok (.iastore, 1) := by decide +kernel
theorem dX8_init_79 : decode cX8_init 79 = .ok (.dup, 1) := by decide +kernel
theorem dX8_init_80 : decode cX8_init 80 = .ok (.bipush 7, 2) := by decide +kernel
theorem dX8_init_82 : decode cX8_init 82 = .ok (.ldc 29, 2) := by decide +kernel
theorem dX8_init_84 : decode cX8_init 84 = .ok (.iastore, 1) := by decide +kernel
theorem dX8_init_85 : decode cX8_init 85 = .ok (.putfield 30, 3) := by decide +kernel
theorem dX8_init_88 : decode cX8_init 88 = .ok (.aload_n 0, 1) := by decide +kernel
theorem dX8_init_89 : decode cX8_init 89 = .ok (.bipush 64, 2) := by decide +kernel
theorem dX8_init_91 : decode cX8_init 91 = .ok (.newarray .int, 2) := by decide +kernel
theorem dX8_init_93 : decode cX8_init 93 = .ok (.dup, 1) := by decide +kernel
theorem dX8_init_94 : decode cX8_init 94 = .ok (.iconst 0, 1) := by decide +kernel
theorem dX8_init_95 : decode cX8_init 95 = .ok (.ldc 33, 2) := by decide +kernel
theorem dX8_init_97 : decode cX8_init 97 = .ok (.iastore, 1) := by decide +kernel
theorem dX8_init_98 : decode cX8_init 98 = .ok (.dup, 1) := by decide +kernel
theorem dX8_init_99 : decode cX8_init 99 = .ok (.iconst 1, 1) := by decide +kernel
theorem dX8_init_100 : decode cX8_init 100 = .ok (.ldc 34, 2) := by decide +kernel
theorem dX8_init_102 : decode cX8_init 102 = .ok (.iastore, 1) := by decide +kernel
theorem dX8_init_103 : decode cX8_init 103 = .ok (.dup, 1) := by decide +kernel
theorem dX8_init_104 : decode cX8_init 104 = .ok (.iconst 2, 1) := by decide +kernel
theorem dX8_init_105 : decode cX8_init 105 = .ok (.ldc 35, 2) := by decide +kernel
theorem dX8_init_107 : decode cX8_init 107 = .ok (.iastore, 1) := by decide +kernel
theorem dX8_init_108 : decode cX8_init 108 = .ok (.dup, 1) := by decide +kernel
theorem dX8_init_109 : decode cX8_init 109 = .ok (.iconst 3, 1) := by decide +kernel
theorem dX8_init_110 : decode cX8_init 110 = .ok (.ldc 36, 2) := by decide +kernel
theorem dX8_init_112 : decode cX8_init 112 = .ok (.iastore, 1) := by decide +kernel
theorem dX8_init_113 : decode cX8_init 113 = .ok (.dup, 1) := by decide +kernel
theorem dX8_init_114 : decode cX8_init 114 = .ok (.iconst 4, 1) := by decide +kernel
theorem dX8_init_115 : decode cX8_init 115 = .ok (.ldc 37, 2) := by decide +kernel
theorem dX8_init_117 : decode cX8_init 117 = .ok (.iastore, 1) := by decide +kernel
theorem dX8_init_118 : decode cX8_init 118 = .ok (.dup, 1) := by decide +kernel
theorem dX8_init_119 : decode cX8_init 119 = .ok (.iconst 5, 1) := by decide +kernel
theorem dX8_init_120 : decode cX8_init 120 = .ok (.ldc 38, 2) := by decide +kernel
theorem dX8_init_122 : decode cX8_init 122 = .ok (.iastore, 1) := by decide +kernel
theorem dX8_init_123 : decode cX8_init 123 = .ok (.dup, 1) := by decide +kernel
theorem dX8_init_124 : decode cX8_init 124 = .ok (.bipush 6, 2) := by decide +kernel
theorem dX8_init_126 : decode cX8_init 126 = .ok (.ldc 39, 2) := by decide +kernel
theorem dX8_init_128 : decode cX8_init 128 = .ok (.iastore, 1) := by decide +kernel
theorem dX8_init_129 : decode cX8_init 129 = .ok (.dup, 1) := by decide +kernel
theorem dX8_init_130 : decode cX8_init 130 = .ok (.bipush 7, 2) := by decide +kernel
theorem dX8_init_132 : decode cX8_init 132 = .ok (.ldc 40, 2) := by decide +kernel
theorem dX8_init_134 : decode cX8_init 134 = .ok (.iastore, 1) := by decide +kernel
theorem dX8_init_135 : decode cX8_init 135 = .ok (.dup, 1) := by decide +kernel
theorem dX8_init_136 : decode cX8_init 136 = .ok (.bipush 8, 2) := by decide +kernel
theorem dX8_init_138 : decode cX8_init 138 = .ok (.ldc 41, 2) := by decide +kernel
theorem dX8_init_140 : decode cX8_init 140 = .ok (.iastore, 1) := by decide +kernel
theorem dX8_init_141 : decode cX8_init 141 = .ok (.dup, 1) := by decide +kernel
theorem dX8_init_142 : decode cX8_init 142 = .ok (.bipush 9, 2) := by decide +kernel
theorem dX8_init_144 : decode cX8_init 144 = .ok (.ldc 42, 2) := by decide +kernel
theorem dX8_init_146 : decode cX8_init 146 = .ok (.iastore, 1) := by decide +kernel
theorem dX8_init_147 : decode cX8_init 147 = .ok (.dup, 1) := by decide +kernel
theorem dX8_init_148 : decode cX8_init 148 = .ok (.bipush 10, 2) := by decide +kernel
theorem dX8_init_150 : decode cX8_init 150 = .ok (.ldc 43, 2) := by decide +kernel
theorem dX8_init_152 : decode cX8_init 152 = .ok (.iastore, 1) := by decide +kernel
theorem dX8_init_153 : decode cX8_init 153 = .ok (.dup, 1) := by decide +kernel
theorem dX8_init_154 : decode cX8_init 154 = .ok (.bipush 11, 2) := by decide +kernel
theorem dX8_init_156 : decode cX8_init 156 = .ok (.ldc 44, 2) := by decide +kernel
theorem dX8_init_158 : decode cX8_init 158 = .ok (.iastore, 1) := by decide +kernel
theorem dX8_init_159 : decode cX8_init 159 = .ok (.dup, 1) := by decide +kernel
theorem dX8_init_160 : decode cX8_init 160 = .ok (.bipush 12, 2) := by decide +kernel
theorem dX8_init_162 : decode cX8_init 162 = .ok (.ldc 45, 2) := by decide +kernel
theorem dX8_init_164 : decode cX8_init 164 = .ok (.iastore, 1) := by decide +kernel
theorem dX8_init_165 : decode cX8_init 165 = .ok (.dup, 1) := by decide +kernel
theorem dX8_init_166 : decode cX8_init 166 = .ok (.bipush 13, 2) := by decide +kernel
theorem dX8_init_168 : decode cX8_init 168 = .ok (.ldc 46, 2) := by decide +kernel
theorem dX8_init_170 : decode cX8_init 170 = .ok (.iastore, 1) := by decide +kernel
theorem dX8_init_171 : decode cX8_init 171 = .ok (.dup, 1) := by decide +kernel
theorem dX8_init_172 : decode cX8_init 172 = .ok (.bipush 14, 2) := by decide +kernel
theorem dX8_init_174 : decode cX8_init 174 = .ok (.ldc 47, 2) := by decide +kernel
theorem dX8_init_176 : decode cX8_init 176 = .ok (.iastore, 1) := by decide +kernel
theorem dX8_init_177 : decode cX8_init 177 = .ok (.dup, 1) := by decide +kernel
theorem dX8_init_178 : decode cX8_init 178 = .ok (.bipush 15, 2) := by decide +kernel
theorem dX8_init_180 : decode cX8_init 180 = .ok (.ldc 48, 2) := by decide +kernel
theorem dX8_init_182 : decode cX8_init 182 = .ok (.iastore, 1) := by decide +kernel
theorem dX8_init_183 : decode cX8_init 183 = .ok (.dup, 1) := by decide +kernel
theorem dX8_init_184 : decode cX8_init 184 = .ok (.bipush 16, 2) := by decide +kernel
theorem dX8_init_186 : decode cX8_init 186 = .ok (.ldc 49, 2) := by decide +kernel
theorem dX8_init_188 : decode cX8_init 188 = .ok (.iastore, 1) := by decide +kernel
theorem dX8_init_189 : decode cX8_init 189 = .ok (.dup, 1) := by decide +kernel
theorem dX8_init_190 : decode cX8_init 190 = .ok (.bipush 17, 2) := by decide +kernel
theorem dX8_init_192 : decode cX8_init 192 = .ok (.ldc 50, 2) := by decide +kernel
theorem dX8_init_194 : decode cX8_init 194 = .ok (.iastore, 1) := by decide +kernel
theorem dX8_init_195 : decode cX8_init 195 = .ok (.dup, 1) := by decide +kernel
theorem dX8_init_196 : decode cX8_init 196 = .ok (.bipush 18, 2) := by decide +kernel
theorem dX8_init_198 : decode cX8_init 198 = .ok (.ldc 51, 2) := by decide +kernel
theorem dX8_init_200 : decode cX8_init 200 = .ok (.iastore, 1) := by decide +kernel
theorem dX8_init_201 : decode cX8_init 201 = .ok (.dup, 1) := by decide +kernel
theorem dX8_init_202 : decode cX8_init 202 = .ok (.bipush 19, 2) := by decide +kernel
theorem dX8_init_204 : decode cX8_init 204 = .ok (.ldc 52, 2) := by decide +kernel
theorem dX8_init_206 : decode cX8_init 206 = .ok (.iastore, 1) := by decide +kernel
theorem dX8_init_207 : decode cX8_init 207 = .ok (.dup, 1) := by decide +kernel
theorem dX8_init_208 : decode cX8_init 208 = .ok (.bipush 20, 2) := by decide +kernel
theorem dX8_init_210 : decode cX8_init 210 = .ok (.ldc 53, 2) := by decide +kernel
theorem dX8_init_212 : decode cX8_init 212 = .ok (.iastore, 1) := by decide +kernel
theorem dX8_init_213 : decode cX8_init 213 = .ok (.dup, 1) := by decide +kernel
theorem dX8_init_214 : decode cX8_init 214 = .ok (.bipush 21, 2) := by decide +kernel
theorem dX8_init_216 : decode cX8_init 216 = .ok (.ldc 54, 2) := by decide +kernel
theorem dX8_init_218 : decode cX8_init 218 = .ok (.iastore, 1) := by decide +kernel
theorem dX8_init_219 : decode cX8_init 219 = .ok (.dup, 1) := by decide +kernel
theorem dX8_init_220 : decode cX8_init 220 = .ok (.bipush 22, 2) := by decide +kernel
theorem dX8_init_222 : decode cX8_init 222 = .ok (.ldc 55, 2) := by decide +kernel
theorem dX8_init_224 : decode cX8_init 224 = .ok (.iastore, 1) := by decide +kernel
theorem dX8_init_225 : decode cX8_init 225 = .ok (.dup, 1) := by decide +kernel
theorem dX8_init_226 : decode cX8_init 226 = .ok (.bipush 23, 2) := by decide +kernel
theorem dX8_init_228 : decode cX8_init 228 = .ok (.ldc 56, 2) := by decide +kernel
theorem dX8_init_230 : decode cX8_init 230 = .ok (.iastore, 1) := by decide +kernel
theorem dX8_init_231 : decode cX8_init 231 = .ok (.dup, 1) := by decide +kernel
theorem dX8_init_232 : decode cX8_init 232 = .ok (.bipush 24, 2) := by decide +kernel
theorem dX8_init_234 : decode cX8_init 234 = .ok (.ldc 57, 2) := by decide +kernel
theorem dX8_init_236 : decode cX8_init 236 = .ok (.iastore, 1) := by decide +kernel
theorem dX8_init_237 : decode cX8_init 237 = .ok (.dup, 1) := by decide +kernel
theorem dX8_init_238 : decode cX8_init 238 = .ok (.bipush 25, 2) := by decide +kernel
theorem dX8_init_240 : decode cX8_init 240 = .ok (.ldc 58, 2) := by decide +kernel
theorem dX8_init_242 : decode cX8_init 242 = .ok (.iastore, 1) := by decide +kernel
theorem dX8_init_243 : decode cX8_init 243 = .ok (.dup, 1) := by decide +kernel
theorem dX8_init_244 : decode cX8_init 244 = .ok (.bipush 26, 2) := by decide +kernel
theorem dX8_init_246 : decode cX8_init 246 = .ok (.ldc 59, 2) := by decide +kernel
theorem dX8_init_248 : decode cX8_init 248 = .ok (.iastore, 1) := by decide +kernel
theorem dX8_init_249 : decode cX8_init 249 = .ok (.dup, 1) := by decide +kernel
theorem dX8_init_250 : decode cX8_init 250 = .ok (.bipush 27, 2) := by decide +kernel
theorem dX8_init_252 : decode cX8_init 252 = .ok (.ldc 60, 2) := by decide +kernel
theorem dX8_init_254 : decode cX8_init 254 = .ok (.iastore, 1) := by decide +kernel
theorem dX8_init_255 : decode cX8_init 255 = .ok (.dup, 1) := by decide +kernel
theorem dX8_init_256 : decode cX8_init 256 = .ok (.bipush 28, 2) := by decide +kernel
theorem dX8_init_258 : decode cX8_init 258 = .ok (.ldc 61, 2) := by decide +kernel
theorem dX8_init_260 : decode cX8_init 260 = .ok (.iastore, 1) := by decide +kernel
theorem dX8_init_261 : decode cX8_init 261 = .ok (.dup, 1) := by decide +kernel
theorem dX8_init_262 : decode cX8_init 262 = .ok (.bipush 29, 2) := by decide +kernel
theorem dX8_init_264 : decode cX8_init 264 = .ok (.ldc 62, 2) := by decide +kernel
theorem dX8_init_266 : decode cX8_init 266 = .ok (.iastore, 1) := by decide +kernel
theorem dX8_init_267 : decode cX8_init 267 = .ok (.dup, 1) := by decide +kernel
theorem dX8_init_268 : decode cX8_init 268 = .ok (.bipush 30, 2) := by decide +kernel
theorem dX8_init_270 : decode cX8_init 270 = .ok (.ldc 63, 2) := by decide +kernel
theorem dX8_init_272 : decode cX8_init 272 = .ok (.iastore, 1) := by decide +kernel
theorem dX8_init_273 : decode cX8_init 273 = .ok (.dup, 1) := by decide +kernel
theorem dX8_init_274 : decode cX8_init 274 = .ok (.bipush 31, 2) := by decide +kernel
theorem dX8_init_276 : decode cX8_init 276 = .ok (.ldc 64, 2) := by decide +kernel
theorem dX8_init_278 : decode cX8_init 278 = .ok (.iastore, 1) := by decide +kernel
theorem dX8_init_279 : decode cX8_init 279 = .ok (.dup, 1) := by decide +kernel
theorem dX8_init_280 : decode cX8_init 280 = .ok (.bipush 32, 2) := by decide +kernel
theorem dX8_init_282 : decode cX8_init 282 = .ok (.ldc 65, 2) := by decide +kernel
theorem dX8_init_284 : decode cX8_init 284 = .ok (.iastore, 1) := by decide +kernel
theorem dX8_init_285 : decode cX8_init 285 = .ok (.dup, 1) := by decide +kernel
theorem dX8_init_286 : decode cX8_init 286 = .ok (.bipush 33, 2) := by decide +kernel
theorem dX8_init_288 : decode cX8_init 288 = .ok (.ldc 66, 2) := by decide +kernel
theorem dX8_init_290 : decode cX8_init 290 = .ok (.iastore, 1) := by decide +kernel
theorem dX8_init_291 : decode cX8_init 291 = .ok (.dup, 1) := by decide +kernel
theorem dX8_init_292 : decode cX8_init 292 = .ok (.bipush 34, 2) := by decide +kernel
theorem dX8_init_294 : decode cX8_init 294 = .ok (.ldc 67, 2) := by decide +kernel
theorem dX8_init_296 : decode cX8_init 296 = .ok (.iastore, 1) := by decide +kernel
theorem dX8_init_297 : decode cX8_init 297 = .ok (.dup, 1) := by decide +kernel
theorem dX8_init_298 : decode cX8_init 298 = .ok (.bipush 35, 2) := by decide +kernel
theorem dX8_init_300 : decode cX8_init 300 = .ok (.ldc 68, 2) := by decide +kernel
theorem dX8_init_302 : decode cX8_init 302 = .ok (.iastore, 1) := by decide +kernel
theorem dX8_init_303 : decode cX8_init 303 = .ok (.dup, 1) := by decide +kernel
theorem dX8_init_304 : decode cX8_init 304 = .ok (.bipush 36, 2) := by decide +kernel
theorem dX8_init_306 : decode cX8_init 306 = .ok (.ldc 69, 2) := by decide +kernel
theorem dX8_init_308 : decode cX8_init 308 = .ok (.iastore, 1) := by decide +kernel
theorem dX8_init_309 : decode cX8_init 309 = .ok (.dup, 1) := by decide +kernel
theorem dX8_init_310 : decode cX8_init 310 = .ok (.bipush 37, 2) := by decide +kernel
theorem dX8_init_312 : decode cX8_init 312 = .ok (.ldc 70, 2) := by decide +kernel
theorem dX8_init_314 : decode cX8_init 314 = .ok (.iastore, 1) := by decide +kernel
theorem dX8_init_315 : decode cX8_init 315 = .ok (.dup, 1) := by decide +kernel
theorem dX8_init_316 : decode cX8_init 316 = .ok (.bipush 38, 2) := by decide +kernel
theorem dX8_init_318 : decode cX8_init 318 = .ok (.ldc 71, 2) := by decide +kernel
theorem dX8_init_320 : decode cX8_init 320 = .ok (.iastore, 1) := by decide +kernel
theorem dX8_init_321 : decode cX8_init 321 = .ok (.dup, 1) := by decide +kernel
theorem dX8_init_322 : decode cX8_init 322 = .ok (.bipush 39, 2) := by decide +kernel
theorem dX8_init_324 : decode cX8_init 324 = .ok (.ldc 72, 2) := by decide +kernel
theorem dX8_init_326 : decode cX8_init 326 = .ok (.iastore, 1) := by decide +kernel
theorem dX8_init_327 : decode cX8_init 327 = .ok (.dup, 1) := by decide +kernel
theorem dX8_init_328 : decode cX8_init 328 = .ok (.bipush 40, 2) := by decide +kernel
theorem dX8_init_330 : decode cX8_init 330 = .ok (.ldc 73, 2) := by decide +kernel
theorem dX8_init_332 : decode cX8_init 332 = .ok (.iastore, 1) := by decide +kernel
theorem dX8_init_333 : decode cX8_init 333 = .ok (.dup, 1) := by decide +kernel
theorem dX8_init_334 : decode cX8_init 334 = .ok (.bipush 41, 2) := by decide +kernel
theorem dX8_init_336 : decode cX8_init 336 = .ok (.ldc 74, 2) := by decide +kernel
theorem dX8_init_338 : decode cX8_init 338 = .ok (.iastore, 1) := by decide +kernel
theorem dX8_init_339 : decode cX8_init 339 = .ok (.dup, 1) := by decide +kernel
theorem dX8_init_340 : decode cX8_init 340 = .ok (.bipush 42, 2) := by decide +kernel
theorem dX8_init_342 : decode cX8_init 342 = .ok (.ldc 75, 2) := by decide +kernel
theorem dX8_init_344 : decode cX8_init 344 = .ok (.iastore, 1) := by decide +kernel
theorem dX8_init_345 : decode cX8_init 345 = .ok (.dup, 1) := by decide +kernel
theorem dX8_init_346 : decode cX8_init 346 = .ok (.bipush 43, 2) := by decide +kernel
theorem dX8_init_348 : decode cX8_init 348 = .ok (.ldc 76, 2) := by decide +kernel
theorem dX8_init_350 : decode cX8_init 350 = .ok (.iastore, 1) := by decide +kernel
theorem dX8_init_351 : decode cX8_init 351 = .ok (.dup, 1) := by decide +kernel
theorem dX8_init_352 : decode cX8_init 352 = .ok (.bipush 44, 2) := by decide +kernel
theorem dX8_init_354 : decode cX8_init 354 = .ok (.ldc 77, 2) := by decide +kernel
theorem dX8_init_356 : decode cX8_init 356 = .ok (.iastore, 1) := by decide +kernel
theorem dX8_init_357 : decode cX8_init 357 = .ok (.dup, 1) := by decide +kernel
theorem dX8_init_358 : decode cX8_init 358 = .ok (.bipush 45, 2) := by decide +kernel
theorem dX8_init_360 : decode cX8_init 360 = .ok (.ldc 78, 2) := by decide +kernel
theorem dX8_init_362 : decode cX8_init 362 = .ok (.iastore, 1) := by decide +kernel
theorem dX8_init_363 : decode cX8_init 363 = .ok (.dup, 1) := by decide +kernel
theorem dX8_init_364 : decode cX8_init 364 = .ok (.bipush 46, 2) := by decide +kernel
theorem dX8_init_366 : decode cX8_init 366 = .ok (.ldc 79, 2) := by decide +kernel
theorem dX8_init_368 : decode cX8_init 368 = .ok (.iastore, 1) := by decide +kernel
theorem dX8_init_369 : decode cX8_init 369 = .ok (.dup, 1) := by decide +kernel
theorem dX8_init_370 : decode cX8_init 370 = .ok (.bipush 47, 2) := by decide +kernel
theorem dX8_init_372 : decode cX8_init 372 = .ok (.ldc 80, 2) := by decide +kernel
theorem dX8_init_374 : decode cX8_init 374 = .ok (.iastore, 1) := by decide +kernel
theorem dX8_init_375 : decode cX8_init 375 = .ok (.dup, 1) := by decide +kernel
theorem dX8_init_376 : decode cX8_init 376 = .ok (.bipush 48, 2) := by decide +kernel
theorem dX8_init_378 : decode cX8_init 378 = .ok (.ldc 81, 2) := by decide +kernel
theorem dX8_init_380 : decode cX8_init 380 = .ok (.iastore, 1) := by decide +kernel
theorem dX8_init_381 : decode cX8_init 381 = .ok (.dup, 1) := by decide +kernel
theorem dX8_init_382 : decode cX8_init 382 = .ok (.bipush 49, 2) := by decide +kernel
theorem dX8_init_384 : decode cX8_init 384 = .ok (.ldc 82, 2) := by decide +kernel
theorem dX8_init_386 : decode cX8_init 386 = .ok (.iastore, 1) := by decide +kernel
theorem dX8_init_387 : decode cX8_init 387 = .ok (.dup, 1) := by decide +kernel
theorem dX8_init_388 : decode cX8_init 388 = .ok (.bipush 50, 2) := by decide +kernel
theorem dX8_init_390 : decode cX8_init 390 = .ok (.ldc 83, 2) := by decide +kernel
theorem dX8_init_392 : decode cX8_init 392 = .ok (.iastore, 1) := by decide +kernel
theorem dX8_init_393 : decode cX8_init 393 = .ok (.dup, 1) := by decide +kernel
theorem dX8_init_394 : decode cX8_init 394 = .ok (.bipush 51, 2) := by decide +kernel
theorem dX8_init_396 : decode cX8_init 396 = .ok (.ldc 84, 2) := by decide +kernel
theorem dX8_init_398 : decode cX8_init 398 = .ok (.iastore, 1) := by decide +kernel
theorem dX8_init_399 : decode cX8_init 399 = .ok (.dup, 1) := by decide +kernel
theorem dX8_init_400 : decode cX8_init 400 = .ok (.bipush 52, 2) := by decide +kernel
theorem dX8_init_402 : decode cX8_init 402 = .ok (.ldc 85, 2) := by decide +kernel
theorem dX8_init_404 : decode cX8_init 404 = .ok (.iastore, 1) := by decide +kernel
theorem dX8_init_405 : decode cX8_init 405 = .ok (.dup, 1) := by decide +kernel
theorem dX8_init_406 : decode cX8_init 406 = .ok (.bipush 53, 2) := by decide +kernel
theorem dX8_init_408 : decode cX8_init 408 = .ok (.ldc 86, 2) := by decide +kernel
theorem dX8_init_410 : decode cX8_init 410 = .ok (.iastore, 1) := by decide +kernel
theorem dX8_init_411 : decode cX8_init 411 = .ok (.dup, 1) := by decide +kernel
theorem dX8_init_412 : decode cX8_init 412 = .ok (.bipush 54, 2) := by decide +kernel
theorem dX8_init_414 : decode cX8_init 414 = .ok (.ldc 87, 2) := by decide +kernel
theorem dX8_init_416 : decode cX8_init 416 = .ok (.iastore, 1) := by decide +kernel
theorem dX8_init_417 : decode cX8_init 417 = .ok (.dup, 1) := by decide +kernel
theorem dX8_init_418 : decode cX8_init 418 = .ok (.bipush 55, 2) := by decide +kernel
theorem dX8_init_420 : decode cX8_init 420 = .ok (.ldc 88, 2) := by decide +kernel
theorem dX8_init_422 : decode cX8_init 422 = .ok (.iastore, 1) := by decide +kernel
theorem dX8_init_423 : decode cX8_init 423 = .ok (.dup, 1) := by decide +kernel
theorem dX8_init_424 : decode cX8_init 424 = .ok (.bipush 56, 2) := by decide +kernel
theorem dX8_init_426 : decode cX8_init 426 = .ok (.ldc 89, 2) := by decide +kernel
theorem dX8_init_428 : decode cX8_init 428 = .ok (.iastore, 1) := by decide +kernel
theorem dX8_init_429 : decode cX8_init 429 = .ok (.dup, 1) := by decide +kernel
theorem dX8_init_430 : decode cX8_init 430 = .ok (.bipush 57, 2) := by decide +kernel
theorem dX8_init_432 : decode cX8_init 432 = .ok (.ldc 90, 2) := by decide +kernel
theorem dX8_init_434 : decode cX8_init 434 = .ok (.iastore, 1) := by decide +kernel
theorem dX8_init_435 : decode cX8_init 435 = .ok (.dup, 1) := by decide +kernel
theorem dX8_init_436 : decode cX8_init 436 = .ok (.bipush 58, 2) := by decide +kernel
theorem dX8_init_438 : decode cX8_init 438 = .ok (.ldc 91, 2) := by decide +kernel
theorem dX8_init_440 : decode cX8_init 440 = .ok (.iastore, 1) := by decide +kernel
theorem dX8_init_441 : decode cX8_init 441 = .ok (.dup, 1) := by decide +kernel
theorem dX8_init_442 : decode cX8_init 442 = .ok (.bipush 59, 2) := by decide +kernel
theorem dX8_init_444 : decode cX8_init 444 = .ok (.ldc 92, 2) := by decide +kernel
theorem dX8_init_446 : decode cX8_init 446 = .ok (.iastore, 1) := by decide +kernel
theorem dX8_init_447 : decode cX8_init 447 = .ok (.dup, 1) := by decide +kernel
theorem dX8_init_448 : decode cX8_init 448 = .ok (.bipush 60, 2) := by decide +kernel
theorem dX8_init_450 : decode cX8_init 450 = .ok (.ldc 93, 2) := by decide +kernel
theorem dX8_init_452 : decode cX8_init 452 = .ok (.iastore, 1) := by decide +kernel
theorem dX8_init_453 : decode cX8_init 453 = .ok (.dup, 1) := by decide +kernel
theorem dX8_init_454 : decode cX8_init 454 = .ok (.bipush 61, 2) := by decide +kernel
theorem dX8_init_456 : decode cX8_init 456 = .ok (.ldc 94, 2) := by decide +kernel
theorem dX8_init_458 : decode cX8_init 458 = .ok (.iastore, 1) := by decide +kernel
theorem dX8_init_459 : decode cX8_init 459 = .ok (.dup, 1) := by decide +kernel
theorem dX8_init_460 : decode cX8_init 460 = .ok (.bipush 62, 2) := by decide +kernel
theorem dX8_init_462 : decode cX8_init 462 = .ok (.ldc 95, 2) := by decide +kernel
theorem dX8_init_464 : decode cX8_init 464 = .ok (.iastore, 1) := by decide +kernel
theorem dX8_init_465 : decode cX8_init 465 = .ok (.dup, 1) := by decide +kernel
theorem dX8_init_466 : decode cX8_init 466 = .ok (.bipush 63, 2) := by decide +kernel
theorem dX8_init_468 : decode cX8_init 468 = .ok (.ldc 96, 2) := by decide +kernel
theorem dX8_init_470 : decode cX8_init 470 = .ok (.iastore, 1) := by decide +kernel
theorem dX8_init_471 : decode cX8_init 471 = .ok (.putfield 97, 3) := by decide +kernel
theorem dX8_init_474 : decode cX8_init 474 = .ok (.aload_n 0, 1) := by decide +kernel
theorem dX8_init_475 : decode cX8_init 475 = .ok (.bipush 16, 2) := by decide +kernel
theorem dX8_init_477 : decode cX8_init 477 = .ok (.newarray .int, 2) := by decide +kernel
theorem dX8_init_479 : decode cX8_init 479 = .ok (.putfield 100, 3) := by decide +kernel
theorem dX8_init_482 : decode cX8_init 482 = .ok (.aload_n 0, 1) := by decide +kernel
theorem dX8_init_483 : decode cX8_init 483 = .ok (.sipush 300, 3) := by decide +kernel
theorem dX8_init_486 : decode cX8_init 486 = .ok (.newarray .int, 2) := by decide +kernel
theorem dX8_init_488 : decode cX8_init 488 = .ok (.putfield 103, 3) := by decide +kernel
theorem dX8_init_491 : decode cX8_init 491 = .ok (.aload_n 0, 1) := by decide +kernel
theorem dX8_init_492 : decode cX8_init 492 = .ok (.bipush 20, 2) := by decide +kernel
theorem dX8_init_494 : decode cX8_init 494 = .ok (.newarray .int, 2) := by decide +kernel
theorem dX8_init_496 : decode cX8_init 496 = .ok (.dup, 1) := by decide +kernel
theorem dX8_init_497 : decode cX8_init 497 = .ok (.iconst 0, 1) := by decide +kernel
theorem dX8_init_498 : decode cX8_init 498 = .ok (.iconst 0, 1) := by decide +kernel
theorem dX8_init_499 : decode cX8_init 499 = .ok (.iastore, 1) := by decide +kernel
theorem dX8_init_500 : decode cX8_init 500 = .ok (.dup, 1) := by decide +kernel
theorem dX8_init_501 : decode cX8_init 501 = .ok (.iconst 1, 1) := by decide +kernel
theorem dX8_init_502 : decode cX8_init 502 = .ok (.bipush 48, 2) := by decide +kernel
theorem dX8_init_504 : decode cX8_init 504 = .ok (.iastore, 1) := by decide +kernel
theorem dX8_init_505 : decode cX8_init 505 = .ok (.dup, 1) := by decide +kernel
theorem dX8_init_506 : decode cX8_init 506 = .ok (.iconst 2, 1) := by decide +kernel
theorem dX8_init_507 : decode cX8_init 507 = .ok (.bipush 49, 2) := by decide +kernel
theorem dX8_init_509 : decode cX8_init 509 = .ok (.iastore, 1) := by decide +kernel
theorem dX8_init_510 : decode cX8_init 510 = .ok (.dup, 1) := by decide +kernel
theorem dX8_init_511 : decode cX8_init 511 = .ok (.iconst 3, 1) := by decide +kernel
theorem dX8_init_512 : decode cX8_init 512 = .ok (.bipush 48, 2) := by decide +kernel
theorem dX8_init_514 : decode cX8_init 514 = .ok (.iastore, 1) := by decide +kernel
theorem dX8_init_515 : decode cX8_init 515 = .ok (.dup, 1) := by decide +kernel
theorem dX8_init_516 : decode cX8_init 516 = .ok (.iconst 4, 1) := by decide +kernel
theorem dX8_init_517 : decode cX8_init 517 = .ok (.bipush 13, 2) := by decide +kernel
theorem dX8_init_519 : decode cX8_init 519 = .ok (.iastore, 1) := by decide +kernel
theorem dX8_init_520 : decode cX8_init 520 = .ok (.dup, 1) := by decide +kernel
theorem dX8_init_521 : decode cX8_init 521 = .ok (.iconst 5, 1) := by decide +kernel
theorem dX8_init_522 : decode cX8_init 522 = .ok (.bipush 6, 2) := by decide +kernel
theorem dX8_init_524 : decode cX8_init 524 = .ok (.iastore, 1) := by decide +kernel
theorem dX8_init_525 : decode cX8_init 525 = .ok (.dup, 1) := by decide +kernel
theorem dX8_init_526 : decode cX8_init 526 = .ok (.bipush 6, 2) := by decide +kernel
theorem dX8_init_528 : decode cX8_init 528 = .ok (.bipush 9, 2) := by decide +kernel
theorem dX8_init_530 : decode cX8_init 530 = .ok (.iastore, 1) := by decide +kernel
theorem dX8_init_531 : decode cX8_init 531 = .ok (.dup, 1) := by decide +kernel
theorem dX8_init_532 : decode cX8_init 532 = .ok (.bipush 7, 2) := by decide +kernel
theorem dX8_init_534 : decode cX8_init 534 = .ok (.bipush 96, 2) := by decide +kernel
theorem dX8_init_536 : decode cX8_init 536 = .ok (.iastore, 1) := by decide +kernel
theorem dX8_init_537 : decode cX8_init 537 = .ok (.dup, 1) := by decide +kernel
theorem dX8_init_538 : decode cX8_init 538 = .ok (.bipush 8, 2) := by decide +kernel
theorem dX8_init_540 : decode cX8_init 540 = .ok (.sipush 134, 3) := by decide +kernel
theorem dX8_init_543 : decode cX8_init 543 = .ok (.iastore, 1) := by decide +kernel
theorem dX8_init_544 : decode cX8_init 544 = .ok (.dup, 1) := by decide +kernel
theorem dX8_init_545 : decode cX8_init 545 = .ok (.bipush 9, 2) := by decide +kernel
theorem dX8_init_547 : decode cX8_init 547 = .ok (.bipush 72, 2) := by decide +kernel
theorem dX8_init_549 : decode cX8_init 549 = .ok (.iastore, 1) := by decide +kernel
theorem dX8_init_550 : decode cX8_init 550 = .ok (.dup, 1) := by decide +kernel
theorem dX8_init_551 : decode cX8_init 551 = .ok (.bipush 10, 2) := by decide +kernel
theorem dX8_init_553 : decode cX8_init 553 = .ok (.iconst 1, 1) := by decide +kernel
theorem dX8_init_554 : decode cX8_init 554 = .ok (.iastore, 1) := by decide +kernel
theorem dX8_init_555 : decode cX8_init 555 = .ok (.dup, 1) := by decide +kernel
theorem dX8_init_556 : decode cX8_init 556 = .ok (.bipush 11, 2) := by decide +kernel
theorem dX8_init_558 : decode cX8_init 558 = .ok (.bipush 101, 2) := by decide +kernel
theorem dX8_init_560 : decode cX8_init 560 = .ok (.iastore, 1) := by decide +kernel
theorem dX8_init_561 : decode cX8_init 561 = .ok (.dup, 1) := by decide +kernel
theorem dX8_init_562 : decode cX8_init 562 = .ok (.bipush 12, 2) := by decide +kernel
theorem dX8_init_564 : decode cX8_init 564 = .ok (.iconst 3, 1) := by decide +kernel
theorem dX8_init_565 : decode cX8_init 565 = .ok (.iastore, 1) := by decide +kernel
theorem dX8_init_566 : decode cX8_init 566 = .ok (.dup, 1) := by decide +kernel
theorem dX8_init_567 : decode cX8_init 567 = .ok (.bipush 13, 2) := by decide +kernel
theorem dX8_init_569 : decode cX8_init 569 = .ok (.iconst 4, 1) := by decide +kernel
theorem dX8_init_570 : decode cX8_init 570 = .ok (.iastore, 1) := by decide +kernel
theorem dX8_init_571 : decode cX8_init 571 = .ok (.dup, 1) := by decide +kernel
theorem dX8_init_572 : decode cX8_init 572 = .ok (.bipush 14, 2) := by decide +kernel
theorem dX8_init_574 : decode cX8_init 574 = .ok (.iconst 2, 1) := by decide +kernel
theorem dX8_init_575 : decode cX8_init 575 = .ok (.iastore, 1) := by decide +kernel
theorem dX8_init_576 : decode cX8_init 576 = .ok (.dup, 1) := by decide +kernel
theorem dX8_init_577 : decode cX8_init 577 = .ok (.bipush 15, 2) := by decide +kernel
theorem dX8_init_579 : decode cX8_init 579 = .ok (.iconst 1, 1) := by decide +kernel
theorem dX8_init_580 : decode cX8_init 580 = .ok (.iastore, 1) := by decide +kernel
theorem dX8_init_581 : decode cX8_init 581 = .ok (.dup, 1) := by decide +kernel
theorem dX8_init_582 : decode cX8_init 582 = .ok (.bipush 16, 2) := by decide +kernel
theorem dX8_init_584 : decode cX8_init 584 = .ok (.iconst 5, 1) := by decide +kernel
theorem dX8_init_585 : decode cX8_init 585 = .ok (.iastore, 1) := by decide +kernel
theorem dX8_init_586 : decode cX8_init 586 = .ok (.dup, 1) := by decide +kernel
theorem dX8_init_587 : decode cX8_init 587 = .ok (.bipush 17, 2) := by decide +kernel
theorem dX8_init_589 : decode cX8_init 589 = .ok (.iconst 0, 1) := by decide +kernel
theorem dX8_init_590 : decode cX8_init 590 = .ok (.iastore, 1) := by decide +kernel
theorem dX8_init_591 : decode cX8_init 591 = .ok (.dup, 1) := by decide +kernel
theorem dX8_init_592 : decode cX8_init 592 = .ok (.bipush 18, 2) := by decide +kernel
theorem dX8_init_594 : decode cX8_init 594 = .ok (.iconst 4, 1) := by decide +kernel
theorem dX8_init_595 : decode cX8_init 595 = .ok (.iastore, 1) := by decide +kernel
theorem dX8_init_596 : decode cX8_init 596 = .ok (.dup, 1) := by decide +kernel
theorem dX8_init_597 : decode cX8_init 597 = .ok (.bipush 19, 2) := by decide +kernel
theorem dX8_init_599 : decode cX8_init 599 = .ok (.bipush 32, 2) := by decide +kernel
theorem dX8_init_601 : decode cX8_init 601 = .ok (.iastore, 1) := by decide +kernel
theorem dX8_init_602 : decode cX8_init 602 = .ok (.putfield 106, 3) := by decide +kernel
theorem dX8_init_605 : decode cX8_init 605 = .ok (.aload_n 0, 1) := by decide +kernel
theorem dX8_init_606 : decode cX8_init 606 = .ok (.iload_n 1, 1) := by decide +kernel
theorem dX8_init_607 : decode cX8_init 607 = .ok (.bipush 31, 2) := by decide +kernel
theorem dX8_init_609 : decode cX8_init 609 = .ok (.if_icmp .ge 8, 3) := by decide +kernel
theorem dX8_init_612 : decode cX8_init 612 = .ok (.bipush 31, 2) := by decide +kernel
theorem dX8_init_614 : decode cX8_init 614 = .ok (.goto 15, 3) := by decide +kernel
theorem dX8_init_617 : decode cX8_init 617 = .ok (.iload_n 1, 1) := by decide +kernel
theorem dX8_init_618 : decode cX8_init 618 = .ok (.bipush 40, 2) := by decide +kernel
theorem dX8_init_620 : decode cX8_init 620 = .ok (.if_icmp .le 8, 3) := by decide +kernel
theorem dX8_init_623 : decode cX8_init 623 = .ok (.bipush 40, 2) := by decide +kernel
theorem dX8_init_625 : decode cX8_init 625 = .ok (.goto 4, 3) := by decide +kernel
theorem dX8_init_628 : decode cX8_init 628 = .ok (.iload_n 1, 1) := by decide +kernel
theorem dX8_init_629 : decode cX8_init 629 = .ok (.putfield 109, 3) := by decide +kernel
theorem dX8_init_632 : decode cX8_init 632 = .ok (.aload_n 0, 1) := by decide +kernel
theorem dX8_init_633 : decode cX8_init 633 = .ok (.iload_n 2, 1) := by decide +kernel
theorem dX8_init_634 : decode cX8_init 634 = .ok (.iconst 1, 1) := by decide +kernel
theorem dX8_init_635 : decode cX8_init 635 = .ok (.if_icmp .ge 7, 3) := by decide +kernel
theorem dX8_init_638 : decode cX8_init 638 = .ok (.iconst 1, 1) := by decide +kernel
theorem dX8_init_639 : decode cX8_init 639 = .ok (.goto 15, 3) := by decide +kernel
theorem dX8_init_642 : decode cX8_init 642 = .ok (.iload_n 2, 1) := by decide +kernel
theorem dX8_init_643 : decode cX8_init 643 = .ok (.bipush 8, 2) := by decide +kernel
theorem dX8_init_645 : decode cX8_init 645 = .ok (.if_icmp .le 8, 3) := by decide +kernel
theorem dX8_init_648 : decode cX8_init 648 = .ok (.bipush 8, 2) := by decide +kernel
theorem dX8_init_650 : decode cX8_init 650 = .ok (.goto 4, 3) := by decide +kernel
theorem dX8_init_653 : decode cX8_init 653 = .ok (.iload_n 2, 1) := by decide +kernel
theorem dX8_init_654 : decode cX8_init 654 = .ok (.putfield 113, 3) := by decide +kernel
theorem dX8_init_657 : decode cX8_init 657 = .ok (.return_, 1) := by decide +kernel
theorem dX8_clear_0 : decode cX8_clear 0 = .ok (.iconst 0, 1) := by decide +kernel
theorem dX8_clear_1 : decode cX8_clear 1 = .ok (.istore_n 2, 1) := by decide +kernel
theorem dX8_clear_2 : decode cX8_clear 2 = .ok (.iload_n 2, 1) := by decide +kernel
theorem dX8_clear_3 : decode cX8_clear 3 = .ok (.bipush 84, 2) := by decide +kernel
theorem dX8_clear_5 : decode cX8_clear 5 = .ok (.if_icmp .ge 21, 3) := by decide +kernel
theorem dX8_clear_8 : decode cX8_clear 8 = .ok (.aload_n 0, 1) := by decide +kernel
theorem dX8_clear_9 : decode cX8_clear 9 = .ok (.getfield 7, 3) := by decide +kernel
theorem dX8_clear_12 : decode cX8_clear 12 = .ok (.bipush 84, 2) := by decide +kernel
theorem dX8_clear_14 : decode cX8_clear 14 = .ok (.iload_n 1, 1) := by decide +kernel
theorem dX8_clear_15 : decode cX8_clear 15 = .ok (.imul, 1) := by decide +kernel
theorem dX8_clear_16 : decode cX8_clear 16 = .ok (.iload_n 2, 1) := by decide +kernel
theorem dX8_clear_17 : decode cX8_clear 17 = .ok (.iadd, 1) := by decide +kernel
theorem dX8_clear_18 : decode cX8_clear 18 = .ok (.iconst 0, 1) := by decide +kernel
theorem dX8_clear_19 : decode cX8_clear 19 = .ok (.iastore, 1) := by decide +kernel
theorem dX8_clear_20 : decode cX8_clear 20 = .ok (.iinc 2 1, 3) := by decide +kernel
theorem dX8_clear_23 : decode cX8_clear 23 = .ok (.goto (-21), 3) := by decide +kernel
theorem dX8_clear_26 : decode cX8_clear 26 = .ok (.return_, 1) := by decide +kernel
theorem dX8_copy_0 : decode cX8_copy 0 = .ok (.iconst 0, 1) := by decide +kernel
theorem dX8_copy_1 : decode cX8_copy 1 = .ok (.istore_n 3, 1) := by decide +kernel
theorem dX8_copy_2 : decode cX8_copy 2 = .ok (.iload_n 3, 1) := by decide +kernel
theorem dX8_copy_3 : decode cX8_copy 3 = .ok (.bipush 84, 2) := by decide +kernel
theorem dX8_copy_5 : decode cX8_copy 5 = .ok (.if_icmp .ge 31, 3) := by decide +kernel
theorem dX8_copy_8 : decode cX8_copy 8 = .ok (.aload_n 0, 1) := by decide +kernel
theorem dX8_copy_9 : decode cX8_copy 9 = .ok (.getfield 7, 3) := by decide +kernel
theorem dX8_copy_12 : decode cX8_copy 12 = .ok (.bipush 84, 2) := by decide +kernel
theorem dX8_copy_14 : decode cX8_copy 14 = .ok (.iload_n 1, 1) := by decide +kernel
theorem dX8_copy_15 : decode cX8_copy 15 = .ok (.imul, 1) := by decide +kernel
theorem dX8_copy_16 : decode cX8_copy 16 = .ok (.iload_n 3, 1) := by decide +kernel
theorem dX8_copy_17 : decode cX8_copy 17 = .ok (.iadd, 1) := by decide +kernel
theorem dX8_copy_18 : decode cX8_copy 18 = .ok (.aload_n 0, 1) := by decide +kernel
theorem dX8_copy_19 : decode cX8_copy 19 = .ok (.getfield 7, 3) := by decide +kernel
theorem dX8_copy_22 : decode cX8_copy 22 = .ok (.bipush 84, 2) := by decide +kernel
theorem dX8_copy_24 : decode cX8_copy 24 = .ok (.iload_n 2, 1) := by decide +kernel
theorem dX8_copy_25 : decode cX8_copy 25 = .ok (.imul, 1) := by decide +kernel
theorem dX8_copy_26 : decode cX8_copy 26 = .ok (.iload_n 3, 1) := by decide +kernel
theorem dX8_copy_27 : decode cX8_copy 27 = .ok (.iadd, 1) := by decide +kernel
theorem dX8_copy_28 : decode cX8_copy 28 = .ok (.iaload, 1) := by decide +kernel
theorem dX8_copy_29 : decode cX8_copy 29 = .ok (.iastore, 1) := by decide +kernel
theorem dX8_copy_30 : decode cX8_copy 30 = .ok (.iinc 3 1, 3) := by decide +kernel
theorem dX8_copy_33 : decode cX8_copy 33 = .ok (.goto (-31), 3) := by decide +kernel
theorem dX8_copy_36 : decode cX8_copy 36 = .ok (.return_, 1) := by decide +kernel
theorem dX8_small_0 : decode cX8_small 0 = .ok (.aload_n 0, 1) := by decide +kernel
theorem dX8_small_1 : decode cX8_small 1 = .ok (.iload_n 1, 1) := by decide +kernel
theorem dX8_small_2 : decode cX8_small 2 = .ok (.invokevirtual 116, 3) := by decide +kernel
theorem dX8_small_5 : decode cX8_small 5 = .ok (.aload_n 0, 1) := by decide +kernel
theorem dX8_small_6 : decode cX8_small 6 = .ok (.getfield 7, 3) := by decide +kernel
theorem dX8_small_9 : decode cX8_small 9 = .ok (.bipush 84, 2) := by decide +kernel
theorem dX8_small_11 : decode cX8_small 11 = .ok (.iload_n 1, 1) := by decide +kernel
theorem dX8_small_12 : decode cX8_small 12 = .ok (.imul, 1) := by decide +kernel
theorem dX8_small_13 : decode cX8_small 13 = .ok (.iload_n 2, 1) := by decide +kernel
theorem dX8_small_14 : decode cX8_small 14 = .ok (.iastore, 1) := by decide +kernel
theorem dX8_small_15 : decode cX8_small 15 = .ok (.return_, 1) := by decide +kernel
theorem dX8_longOf_0 : decode cX8_longOf 0 = .ok (.bipush 84, 2) := by decide +kernel
theorem dX8_longOf_2 : decode cX8_longOf 2 = .ok (.istore_n 2, 1) := by decide +kernel
theorem dX8_longOf_3 : decode cX8_longOf 3 = .ok (.iload_n 2, 1) := by decide +kernel
theorem dX8_longOf_4 : decode cX8_longOf 4 = .ok (.ifCond .le 25, 3) := by decide +kernel
theorem dX8_longOf_7 : decode cX8_longOf 7 = .ok (.aload_n 0, 1) := by decide +kernel
theorem dX8_longOf_8 : decode cX8_longOf 8 = .ok (.getfield 7, 3) := by decide +kernel
theorem dX8_longOf_11 : decode cX8_longOf 11 = .ok (.bipush 84, 2) := by decide +kernel
theorem dX8_longOf_13 : decode cX8_longOf 13 = .ok (.iload_n 1, 1) := by decide +kernel
theorem dX8_longOf_14 : decode cX8_longOf 14 = .ok (.imul, 1) := by decide +kernel
theorem dX8_longOf_15 : decode cX8_longOf 15 = .ok (.iload_n 2, 1) := by decide +kernel
theorem dX8_longOf_16 : decode cX8_longOf 16 = .ok (.iadd, 1) := by decide +kernel
theorem dX8_longOf_17 : decode cX8_longOf 17 = .ok (.iconst 1, 1) := by decide +kernel
theorem dX8_longOf_18 : decode cX8_longOf 18 = .ok (.isub, 1) := by decide +kernel
theorem dX8_longOf_19 : decode cX8_longOf 19 = .ok (.iaload, 1) := by decide +kernel
theorem dX8_longOf_20 : decode cX8_longOf 20 = .ok (.ifCond .ne 9, 3) := by decide +kernel
theorem dX8_longOf_23 : decode cX8_longOf 23 = .ok (.iinc 2 (-1), 3) := by decide +kernel
theorem dX8_longOf_26 : decode cX8_longOf 26 = .ok (.goto (-23), 3) := by decide +kernel
theorem dX8_longOf_29 : decode cX8_longOf 29 = .ok (.iload_n 2, 1) := by decide +kernel
theorem dX8_longOf_30 : decode cX8_longOf 30 = .ok (.ireturn, 1) := by decide +kernel
theorem dX8_compare_0 : decode cX8_compare 0 = .ok (.bipush 83, 2) := by decide +kernel
theorem dX8_compare_2 : decode cX8_compare 2 = .ok (.istore_n 3, 1) := by decide +kernel
theorem dX8_compare_3 : decode cX8_compare 3 = .ok (.iload_n 3, 1) := by decide +kernel
theorem dX8_compare_4 : decode cX8_compare 4 = .ok (.ifCond .le 34, 3) := by decide +kernel
theorem dX8_compare_7 : decode cX8_compare 7 = .ok (.aload_n 0, 1) := by decide +kernel
theorem dX8_compare_8 : decode cX8_compare 8 = .ok (.getfield 7, 3) := by decide +kernel
theorem dX8_compare_11 : decode cX8_compare 11 = .ok (.bipush 84, 2) := by decide +kernel
theorem dX8_compare_13 : decode cX8_compare 13 = .ok (.iload_n 1, 1) := by decide +kernel
theorem dX8_compare_14 : decode cX8_compare 14 = .ok (.imul, 1) := by decide +kernel
theorem dX8_compare_15 : decode cX8_compare 15 = .ok (.iload_n 3, 1) := by decide +kernel
theorem dX8_compare_16 : decode cX8_compare 16 = .ok (.iadd, 1) := by decide +kernel
theorem dX8_compare_17 : decode cX8_compare 17 = .ok (.iaload, 1) := by decide +kernel
theorem dX8_compare_18 : decode cX8_compare 18 = .ok (.aload_n 0, 1) := by decide +kernel
theorem dX8_compare_19 : decode cX8_compare 19 = .ok (.getfield 7, 3) := by decide +kernel
theorem dX8_compare_22 : decode cX8_compare 22 = .ok (.bipush 84, 2) := by decide +kernel
theorem dX8_compare_24 : decode cX8_compare 24 = .ok (.iload_n 2, 1) := by decide +kernel
theorem dX8_compare_25 : decode cX8_compare 25 = .ok (.imul, 1) := by decide +kernel
theorem dX8_compare_26 : decode cX8_compare 26 = .ok (.iload_n 3, 1) := by decide +kernel
theorem dX8_compare_27 : decode cX8_compare 27 = .ok (.iadd, 1) := by decide +kernel
theorem dX8_compare_28 : decode cX8_compare 28 = .ok (.iaload, 1) := by decide +kernel
theorem dX8_compare_29 : decode cX8_compare 29 = .ok (.if_icmp .ne 9, 3) := by decide +kernel
theorem dX8_compare_32 : decode cX8_compare 32 = .ok (.iinc 3 (-1), 3) := by decide +kernel
theorem dX8_compare_35 : decode cX8_compare 35 = .ok (.goto (-32), 3) := by decide +kernel
theorem dX8_compare_38 : decode cX8_compare 38 = .ok (.aload_n 0, 1) := by decide +kernel
theorem dX8_compare_39 : decode cX8_compare 39 = .ok (.getfield 7, 3) := by decide +kernel
theorem dX8_compare_42 : decode cX8_compare 42 = .ok (.bipush 84, 2) := by decide +kernel
theorem dX8_compare_44 : decode cX8_compare 44 = .ok (.iload_n 1, 1) := by decide +kernel
theorem dX8_compare_45 : decode cX8_compare 45 = .ok (.imul, 1) := by decide +kernel
theorem dX8_compare_46 : decode cX8_compare 46 = .ok (.iload_n 3, 1) := by decide +kernel
theorem dX8_compare_47 : decode cX8_compare 47 = .ok (.iadd, 1) := by decide +kernel
theorem dX8_compare_48 : decode cX8_compare 48 = .ok (.iaload, 1) := by decide +kernel
theorem dX8_compare_49 : decode cX8_compare 49 = .ok (.istore 4, 2) := by decide +kernel
theorem dX8_compare_51 : decode cX8_compare 51 = .ok (.aload_n 0, 1) := by decide +kernel
theorem dX8_compare_52 : decode cX8_compare 52 = .ok (.getfield 7, 3) := by decide +kernel
theorem dX8_compare_55 : decode cX8_compare 55 = .ok (.bipush 84, 2) := by decide +kernel
theorem dX8_compare_57 : decode cX8_compare 57 = .ok (.iload_n 2, 1) := by decide +kernel
theorem dX8_compare_58 : decode cX8_compare 58 = .ok (.imul, 1) := by decide +kernel
theorem dX8_compare_59 : decode cX8_compare 59 = .ok (.iload_n 3, 1) := by decide +kernel
theorem dX8_compare_60 : decode cX8_compare 60 = .ok (.iadd, 1) := by decide +kernel
theorem dX8_compare_61 : decode cX8_compare 61 = .ok (.iaload, 1) := by decide +kernel
theorem dX8_compare_62 : decode cX8_compare 62 = .ok (.istore 5, 2) := by decide +kernel
theorem dX8_compare_64 : decode cX8_compare 64 = .ok (.iload 4, 2) := by decide +kernel
theorem dX8_compare_66 : decode cX8_compare 66 = .ok (.iload 5, 2) := by decide +kernel
theorem dX8_compare_68 : decode cX8_compare 68 = .ok (.if_icmp .ge 7, 3) := by decide +kernel
theorem dX8_compare_71 : decode cX8_compare 71 = .ok (.iconst (-1), 1) := by decide +kernel
theorem dX8_compare_72 : decode cX8_compare 72 = .ok (.goto 15, 3) := by decide +kernel
theorem dX8_compare_75 : decode cX8_compare 75 = .ok (.iload 4, 2) := by decide +kernel
theorem dX8_compare_77 : decode cX8_compare 77 = .ok (.iload 5, 2) := by decide +kernel
theorem dX8_compare_79 : decode cX8_compare 79 = .ok (.if_icmp .le 7, 3) := by decide +kernel
theorem dX8_compare_82 : decode cX8_compare 82 = .ok (.iconst 1, 1) := by decide +kernel
theorem dX8_compare_83 : decode cX8_compare 83 = .ok (.goto 4, 3) := by decide +kernel
theorem dX8_compare_86 : decode cX8_compare 86 = .ok (.iconst 0, 1) := by decide +kernel
theorem dX8_compare_87 : decode cX8_compare 87 = .ok (.ireturn, 1) := by decide +kernel
theorem dX8_isSmall_0 : decode cX8_isSmall 0 = .ok (.aload_n 0, 1) := by decide +kernel
theorem dX8_isSmall_1 : decode cX8_isSmall 1 = .ok (.iload_n 1, 1) := by decide +kernel
theorem dX8_isSmall_2 : decode cX8_isSmall 2 = .ok (.invokevirtual 120, 3) := by decide +kernel
theorem dX8_isSmall_5 : decode cX8_isSmall 5 = .ok (.iconst 1, 1) := by decide +kernel
theorem dX8_isSmall_6 : decode cX8_isSmall 6 = .ok (.if_icmp .gt 20, 3) := by decide +kernel
theorem dX8_isSmall_9 : decode cX8_isSmall 9 = .ok (.aload_n 0, 1) := by decide +kernel
theorem dX8_isSmall_10 : decode cX8_isSmall 10 = .ok (.getfield 7, 3) := by decide +kernel
theorem dX8_isSmall_13 : decode cX8_isSmall 13 = .ok (.bipush 84, 2) := by decide +kernel
theorem dX8_isSmall_15 : decode cX8_isSmall 15 = .ok (.iload_n 1, 1) := by decide +kernel
theorem dX8_isSmall_16 : decode cX8_isSmall 16 = .ok (.imul, 1) := by decide +kernel
theorem dX8_isSmall_17 : decode cX8_isSmall 17 = .ok (.iaload, 1) := by decide +kernel
theorem dX8_isSmall_18 : decode cX8_isSmall 18 = .ok (.iload_n 2, 1) := by decide +kernel
theorem dX8_isSmall_19 : decode cX8_isSmall 19 = .ok (.if_icmp .ne 7, 3) := by decide +kernel
theorem dX8_isSmall_22 : decode cX8_isSmall 22 = .ok (.iconst 1, 1) := by decide +kernel
theorem dX8_isSmall_23 : decode cX8_isSmall 23 = .ok (.goto 4, 3) := by decide +kernel
theorem dX8_isSmall_26 : decode cX8_isSmall 26 = .ok (.iconst 0, 1) := by decide +kernel
theorem dX8_isSmall_27 : decode cX8_isSmall 27 = .ok (.ireturn, 1) := by decide +kernel
theorem dX8_adds_0 : decode cX8_adds 0 = .ok (.iconst 0, 1) := by decide +kernel
theorem dX8_adds_1 : decode cX8_adds 1 = .ok (.istore_n 3, 1) := by decide +kernel
theorem dX8_adds_2 : decode cX8_adds 2 = .ok (.iconst 0, 1) := by decide +kernel
theorem dX8_adds_3 : decode cX8_adds 3 = .ok (.istore 4, 2) := by decide +kernel
theorem dX8_adds_5 : decode cX8_adds 5 = .ok (.iload 4, 2) := by decide +kernel
theorem dX8_adds_7 : decode cX8_adds 7 = .ok (.bipush 84, 2) := by decide +kernel
theorem dX8_adds_9 : decode cX8_adds 9 = .ok (.if_icmp .ge 61, 3) := by decide +kernel
theorem dX8_adds_12 : decode cX8_adds 12 = .ok (.aload_n 0, 1) := by decide +kernel
theorem dX8_adds_13 : decode cX8_adds 13 = .ok (.getfield 7, 3) := by decide +kernel
theorem dX8_adds_16 : decode cX8_adds 16 = .ok (.bipush 84, 2) := by decide +kernel
theorem dX8_adds_18 : decode cX8_adds 18 = .ok (.iload_n 1, 1) := by decide +kernel
theorem dX8_adds_19 : decode cX8_adds 19 = .ok (.imul, 1) := by decide +kernel
theorem dX8_adds_20 : decode cX8_adds 20 = .ok (.iload 4, 2) := by decide +kernel
theorem dX8_adds_22 : decode cX8_adds 22 = .ok (.iadd, 1) := by decide +kernel
theorem dX8_adds_23 : decode cX8_adds 23 = .ok (.iaload, 1) := by decide +kernel
theorem dX8_adds_24 : decode cX8_adds 24 = .ok (.aload_n 0, 1) := by decide +kernel
theorem dX8_adds_25 : decode cX8_adds 25 = .ok (.getfield 7, 3) := by decide +kernel
theorem dX8_adds_28 : decode cX8_adds 28 = .ok (.bipush 84, 2) := by decide +kernel
theorem dX8_adds_30 : decode cX8_adds 30 = .ok (.iload_n 2, 1) := by decide +kernel
theorem dX8_adds_31 : decode cX8_adds 31 = .ok (.imul, 1) := by decide +kernel
theorem dX8_adds_32 : decode cX8_adds 32 = .ok (.iload 4, 2) := by decide +kernel
theorem dX8_adds_34 : decode cX8_adds 34 = .ok (.iadd, 1) := by decide +kernel
theorem dX8_adds_35 : decode cX8_adds 35 = .ok (.iaload, 1) := by decide +kernel
theorem dX8_adds_36 : decode cX8_adds 36 = .ok (.iadd, 1) := by decide +kernel
theorem dX8_adds_37 : decode cX8_adds 37 = .ok (.iload_n 3, 1) := by decide +kernel
theorem dX8_adds_38 : decode cX8_adds 38 = .ok (.iadd, 1) := by decide +kernel
theorem dX8_adds_39 : decode cX8_adds 39 = .ok (.istore 5, 2) := by decide +kernel
theorem dX8_adds_41 : decode cX8_adds 41 = .ok (.aload_n 0, 1) := by decide +kernel
theorem dX8_adds_42 : decode cX8_adds 42 = .ok (.getfield 7, 3) := by decide +kernel
theorem dX8_adds_45 : decode cX8_adds 45 = .ok (.bipush 84, 2) := by decide +kernel
theorem dX8_adds_47 : decode cX8_adds 47 = .ok (.iload_n 1, 1) := by decide +kernel
theorem dX8_adds_48 : decode cX8_adds 48 = .ok (.imul, 1) := by decide +kernel
theorem dX8_adds_49 : decode cX8_adds 49 = .ok (.iload 4, 2) := by decide +kernel
theorem dX8_adds_51 : decode cX8_adds 51 = .ok (.iadd, 1) := by decide +kernel
theorem dX8_adds_52 : decode cX8_adds 52 = .ok (.iload 5, 2) := by decide +kernel
theorem dX8_adds_54 : decode cX8_adds 54 = .ok (.ldc 124, 2) := by decide +kernel
theorem dX8_adds_56 : decode cX8_adds 56 = .ok (.iand, 1) := by decide +kernel
theorem dX8_adds_57 : decode cX8_adds 57 = .ok (.iastore, 1) := by decide +kernel
theorem dX8_adds_58 : decode cX8_adds 58 = .ok (.iload 5, 2) := by decide +kernel
theorem dX8_adds_60 : decode cX8_adds 60 = .ok (.bipush 16, 2) := by decide +kernel
theorem dX8_adds_62 : decode cX8_adds 62 = .ok (.ishr, 1) := by decide +kernel
theorem dX8_adds_63 : decode cX8_adds 63 = .ok (.istore_n 3, 1) := by decide +kernel
theorem dX8_adds_64 : decode cX8_adds 64 = .ok (.iinc 4 1, 3) := by decide +kernel
theorem dX8_adds_67 : decode cX8_adds 67 = .ok (.goto (-62), 3) := by decide +kernel
theorem dX8_adds_70 : decode cX8_adds 70 = .ok (.return_, 1) := by decide +kernel
theorem dX8_takes_0 : decode cX8_takes 0 = .ok (.iconst 0, 1) := by decide +kernel
theorem dX8_takes_1 : decode cX8_takes 1 = .ok (.istore_n 3, 1) := by decide +kernel
theorem dX8_takes_2 : decode cX8_takes 2 = .ok (.iconst 0, 1) := by decide +kernel
theorem dX8_takes_3 : decode cX8_takes 3 = .ok (.istore 4, 2) := by decide +kernel
theorem dX8_takes_5 : decode cX8_takes 5 = .ok (.iload 4, 2) := by decide +kernel
theorem dX8_takes_7 : decode cX8_takes 7 = .ok (.bipush 84, 2) := by decide +kernel
theorem dX8_takes_9 : decode cX8_takes 9 = .ok (.if_icmp .ge 66, 3) := by decide +kernel
theorem dX8_takes_12 : decode cX8_takes 12 = .ok (.aload_n 0, 1) := by decide +kernel
theorem dX8_takes_13 : decode cX8_takes 13 = .ok (.getfield 7, 3) := by decide +kernel
theorem dX8_takes_16 : decode cX8_takes 16 = .ok (.bipush 84, 2) := by decide +kernel
theorem dX8_takes_18 : decode cX8_takes 18 = .ok (.iload_n 1, 1) := by decide +kernel
theorem dX8_takes_19 : decode cX8_takes 19 = .ok (.imul, 1) := by decide +kernel
theorem dX8_takes_20 : decode cX8_takes 20 = .ok (.iload 4, 2) := by decide +kernel
theorem dX8_takes_22 : decode cX8_takes 22 = .ok (.iadd, 1) := by decide +kernel
theorem dX8_takes_23 : decode cX8_takes 23 = .ok (.iaload, 1) := by decide +kernel
theorem dX8_takes_24 : decode cX8_takes 24 = .ok (.aload_n 0, 1) := by decide +kernel
theorem dX8_takes_25 : decode cX8_takes 25 = .ok (.getfield 7, 3) := by decide +kernel
theorem dX8_takes_28 : decode cX8_takes 28 = .ok (.bipush 84, 2) := by decide +kernel
theorem dX8_takes_30 : decode cX8_takes 30 = .ok (.iload_n 2, 1) := by decide +kernel
theorem dX8_takes_31 : decode cX8_takes 31 = .ok (.imul, 1) := by decide +kernel
theorem dX8_takes_32 : decode cX8_takes 32 = .ok (.iload 4, 2) := by decide +kernel
theorem dX8_takes_34 : decode cX8_takes 34 = .ok (.iadd, 1) := by decide +kernel
theorem dX8_takes_35 : decode cX8_takes 35 = .ok (.iaload, 1) := by decide +kernel
theorem dX8_takes_36 : decode cX8_takes 36 = .ok (.isub, 1) := by decide +kernel
theorem dX8_takes_37 : decode cX8_takes 37 = .ok (.iload_n 3, 1) := by decide +kernel
theorem dX8_takes_38 : decode cX8_takes 38 = .ok (.isub, 1) := by decide +kernel
theorem dX8_takes_39 : decode cX8_takes 39 = .ok (.istore 5, 2) := by decide +kernel
theorem dX8_takes_41 : decode cX8_takes 41 = .ok (.aload_n 0, 1) := by decide +kernel
theorem dX8_takes_42 : decode cX8_takes 42 = .ok (.getfield 7, 3) := by decide +kernel
theorem dX8_takes_45 : decode cX8_takes 45 = .ok (.bipush 84, 2) := by decide +kernel
theorem dX8_takes_47 : decode cX8_takes 47 = .ok (.iload_n 1, 1) := by decide +kernel
theorem dX8_takes_48 : decode cX8_takes 48 = .ok (.imul, 1) := by decide +kernel
theorem dX8_takes_49 : decode cX8_takes 49 = .ok (.iload 4, 2) := by decide +kernel
theorem dX8_takes_51 : decode cX8_takes 51 = .ok (.iadd, 1) := by decide +kernel
theorem dX8_takes_52 : decode cX8_takes 52 = .ok (.iload 5, 2) := by decide +kernel
theorem dX8_takes_54 : decode cX8_takes 54 = .ok (.ldc 124, 2) := by decide +kernel
theorem dX8_takes_56 : decode cX8_takes 56 = .ok (.iand, 1) := by decide +kernel
theorem dX8_takes_57 : decode cX8_takes 57 = .ok (.iastore, 1) := by decide +kernel
theorem dX8_takes_58 : decode cX8_takes 58 = .ok (.iload 5, 2) := by decide +kernel
theorem dX8_takes_60 : decode cX8_takes 60 = .ok (.ifCond .ge 7, 3) := by decide +kernel
theorem dX8_takes_63 : decode cX8_takes 63 = .ok (.iconst 1, 1) := by decide +kernel
theorem dX8_takes_64 : decode cX8_takes 64 = .ok (.goto 4, 3) := by decide +kernel
theorem dX8_takes_67 : decode cX8_takes 67 = .ok (.iconst 0, 1) := by decide +kernel
theorem dX8_takes_68 : decode cX8_takes 68 = .ok (.istore_n 3, 1) := by decide +kernel
theorem dX8_takes_69 : decode cX8_takes 69 = .ok (.iinc 4 1, 3) := by decide +kernel
theorem dX8_takes_72 : decode cX8_takes 72 = .ok (.goto (-67), 3) := by decide +kernel
theorem dX8_takes_75 : decode cX8_takes 75 = .ok (.return_, 1) := by decide +kernel
theorem dX8_takesSmall_0 : decode cX8_takesSmall 0 = .ok (.iload_n 2, 1) := by decide +kernel
theorem dX8_takesSmall_1 : decode cX8_takesSmall 1 = .ok (.istore_n 3, 1) := by decide +kernel
theorem dX8_takesSmall_2 : decode cX8_takesSmall 2 = .ok (.iconst 0, 1) := by decide +kernel
theorem dX8_takesSmall_3 : decode cX8_takesSmall 3 = .ok (.istore 4, 2) := by decide +kernel
theorem dX8_takesSmall_5 : decode cX8_takesSmall 5 = .ok (.iload 4, 2) := by decide +kernel
theorem dX8_takesSmall_7 : decode cX8_takesSmall 7 = .ok (.bipush 84, 2) := by decide +kernel
theorem dX8_takesSmall_9 : decode cX8_takesSmall 9 = .ok (.if_icmp .ge 57, 3) := by decide +kernel
theorem dX8_takesSmall_12 : decode cX8_takesSmall 12 = .ok (.iload_n 3, 1) := by decide +kernel
theorem dX8_takesSmall_13 : decode cX8_takesSmall 13 = .ok (.ifCond .le 53, 3) := by decide +kernel
theorem dX8_takesSmall_16 : decode cX8_takesSmall 16 = .ok (.aload_n 0, 1) := by decide +kernel
theorem dX8_takesSmall_17 : decode cX8_takesSmall 17 = .ok (.getfield 7, 3) := by decide +kernel
theorem dX8_takesSmall_20 : decode cX8_takesSmall 20 = .ok (.bipush 84, 2) := by decide +kernel
theorem dX8_takesSmall_22 : decode cX8_takesSmall 22 = .ok (.iload_n 1, 1) := by decide +kernel
theorem dX8_takesSmall_23 : decode cX8_takesSmall 23 = .ok (.imul, 1) := by decide +kernel
theorem dX8_takesSmall_24 : decode cX8_takesSmall 24 = .ok (.iload 4, 2) := by decide +kernel
theorem dX8_takesSmall_26 : decode cX8_takesSmall 26 = .ok (.iadd, 1) := by decide +kernel
theorem dX8_takesSmall_27 : decode cX8_takesSmall 27 = .ok (.iaload, 1) := by decide +kernel
theorem dX8_takesSmall_28 : decode cX8_takesSmall 28 = .ok (.iload_n 3, 1) := by decide +kernel
theorem dX8_takesSmall_29 : decode cX8_takesSmall 29 = .ok (.isub, 1) := by decide +kernel
theorem dX8_takesSmall_30 : decode cX8_takesSmall 30 = .ok (.istore 5, 2) := by decide +kernel
theorem dX8_takesSmall_32 : decode cX8_takesSmall 32 = .ok (.aload_n 0, 1) := by decide +kernel
theorem dX8_takesSmall_33 : decode cX8_takesSmall 33 = .ok (.getfield 7, 3) := by decide +kernel
theorem dX8_takesSmall_36 : decode cX8_takesSmall 36 = .ok (.bipush 84, 2) := by decide +kernel
theorem dX8_takesSmall_38 : decode cX8_takesSmall 38 = .ok (.iload_n 1, 1) := by decide +kernel
theorem dX8_takesSmall_39 : decode cX8_takesSmall 39 = .ok (.imul, 1) := by decide +kernel
theorem dX8_takesSmall_40 : decode cX8_takesSmall 40 = .ok (.iload 4, 2) := by decide +kernel
theorem dX8_takesSmall_42 : decode cX8_takesSmall 42 = .ok (.iadd, 1) := by decide +kernel
theorem dX8_takesSmall_43 : decode cX8_takesSmall 43 = .ok (.iload 5, 2) := by decide +kernel
theorem dX8_takesSmall_45 : decode cX8_takesSmall 45 = .ok (.ldc 124, 2) := by decide +kernel
theorem dX8_takesSmall_47 : decode cX8_takesSmall 47 = .ok (.iand, 1) := by decide +kernel
theorem dX8_takesSmall_48 : decode cX8_takesSmall 48 = .ok (.iastore, 1) := by decide +kernel
theorem dX8_takesSmall_49 : decode cX8_takesSmall 49 = .ok (.iload 5, 2) := by decide +kernel
theorem dX8_takesSmall_51 : decode cX8_takesSmall 51 = .ok (.ifCond .ge 7, 3) := by decide +kernel
theorem dX8_takesSmall_54 : decode cX8_takesSmall 54 = .ok (.iconst 1, 1) := by decide +kernel
theorem dX8_takesSmall_55 : decode cX8_takesSmall 55 = .ok (.goto 4, 3) := by decide +kernel
theorem dX8_takesSmall_58 : decode cX8_takesSmall 58 = .ok (.iconst 0, 1) := by decide +kernel
theorem dX8_takesSmall_59 : decode cX8_takesSmall 59 = .ok (.istore_n 3, 1) := by decide +kernel
theorem dX8_takesSmall_60 : decode cX8_takesSmall 60 = .ok (.iinc 4 1, 3) := by decide +kernel
theorem dX8_takesSmall_63 : decode cX8_takesSmall 63 = .ok (.goto (-58), 3) := by decide +kernel
theorem dX8_takesSmall_66 : decode cX8_takesSmall 66 = .ok (.return_, 1) := by decide +kernel
theorem dX8_growsSmall_0 : decode cX8_growsSmall 0 = .ok (.iload_n 3, 1) := by decide +kernel
theorem dX8_growsSmall_1 : decode cX8_growsSmall 1 = .ok (.i2l, 1) := by decide +kernel
theorem dX8_growsSmall_2 : decode cX8_growsSmall 2 = .ok (.lstore 4, 2) := by decide +kernel
theorem dX8_growsSmall_4 : decode cX8_growsSmall 4 = .ok (.iconst 0, 1) := by decide +kernel
theorem dX8_growsSmall_5 : decode cX8_growsSmall 5 = .ok (.istore 6, 2) := by decide +kernel
theorem dX8_growsSmall_7 : decode cX8_growsSmall 7 = .ok (.iload 6, 2) := by decide +kernel
theorem dX8_growsSmall_9 : decode cX8_growsSmall 9 = .ok (.bipush 84, 2) := by decide +kernel
theorem dX8_growsSmall_11 : decode cX8_growsSmall 11 = .ok (.if_icmp .ge 56, 3) := by decide +kernel
theorem dX8_growsSmall_14 : decode cX8_growsSmall 14 = .ok (.aload_n 0, 1) := by decide +kernel
theorem dX8_growsSmall_15 : decode cX8_growsSmall 15 = .ok (.getfield 7, 3) := by decide +kernel
theorem dX8_growsSmall_18 : decode cX8_growsSmall 18 = .ok (.bipush 84, 2) := by decide +kernel
theorem dX8_growsSmall_20 : decode cX8_growsSmall 20 = .ok (.iload_n 1, 1) := by decide +kernel
theorem dX8_growsSmall_21 : decode cX8_growsSmall 21 = .ok (.imul, 1) := by decide +kernel
theorem dX8_growsSmall_22 : decode cX8_growsSmall 22 = .ok (.iload 6, 2) := by decide +kernel
theorem dX8_growsSmall_24 : decode cX8_growsSmall 24 = .ok (.iadd, 1) := by decide +kernel
theorem dX8_growsSmall_25 : decode cX8_growsSmall 25 = .ok (.iaload, 1) := by decide +kernel
theorem dX8_growsSmall_26 : decode cX8_growsSmall 26 = .ok (.i2l, 1) := by decide +kernel
theorem dX8_growsSmall_27 : decode cX8_growsSmall 27 = .ok (.iload_n 2, 1) := by decide +kernel
theorem dX8_growsSmall_28 : decode cX8_growsSmall 28 = .ok (.i2l, 1) := by decide +kernel
theorem dX8_growsSmall_29 : decode cX8_growsSmall 29 = .ok (.lmul, 1) := by decide +kernel
theorem dX8_growsSmall_30 : decode cX8_growsSmall 30 = .ok (.lload 4, 2) := by decide +kernel
theorem dX8_growsSmall_32 : decode cX8_growsSmall 32 = .ok (.ladd, 1) := by decide +kernel
theorem dX8_growsSmall_33 : decode cX8_growsSmall 33 = .ok (.lstore 7, 2) := by decide +kernel
theorem dX8_growsSmall_35 : decode cX8_growsSmall 35 = .ok (.aload_n 0, 1) := by decide +kernel
theorem dX8_growsSmall_36 : decode cX8_growsSmall 36 = .ok (.getfield 7, 3) := by decide +kernel
theorem dX8_growsSmall_39 : decode cX8_growsSmall 39 = .ok (.bipush 84, 2) := by decide +kernel
theorem dX8_growsSmall_41 : decode cX8_growsSmall 41 = .ok (.iload_n 1, 1) := by decide +kernel
theorem dX8_growsSmall_42 : decode cX8_growsSmall 42 = .ok (.imul, 1) := by decide +kernel
theorem dX8_growsSmall_43 : decode cX8_growsSmall 43 = .ok (.iload 6, 2) := by decide +kernel
theorem dX8_growsSmall_45 : decode cX8_growsSmall 45 = .ok (.iadd, 1) := by decide +kernel
theorem dX8_growsSmall_46 : decode cX8_growsSmall 46 = .ok (.lload 7, 2) := by decide +kernel
theorem dX8_growsSmall_48 : decode cX8_growsSmall 48 = .ok (.ldc2_w 125, 3) := by decide +kernel
theorem dX8_growsSmall_51 : decode cX8_growsSmall 51 = .ok (.land, 1) := by decide +kernel
theorem dX8_growsSmall_52 : decode cX8_growsSmall 52 = .ok (.l2i, 1) := by decide +kernel
theorem dX8_growsSmall_53 : decode cX8_growsSmall 53 = .ok (.iastore, 1) := by decide +kernel
theorem dX8_growsSmall_54 : decode cX8_growsSmall 54 = .ok (.lload 7, 2) := by decide +kernel
theorem dX8_growsSmall_56 : decode cX8_growsSmall 56 = .ok (.bipush 16, 2) := by decide +kernel
theorem dX8_growsSmall_58 : decode cX8_growsSmall 58 = .ok (.lshr, 1) := by decide +kernel
theorem dX8_growsSmall_59 : decode cX8_growsSmall 59 = .ok (.lstore 4, 2) := by decide +kernel
theorem dX8_growsSmall_61 : decode cX8_growsSmall 61 = .ok (.iinc 6 1, 3) := by decide +kernel
theorem dX8_growsSmall_64 : decode cX8_growsSmall 64 = .ok (.goto (-57), 3) := by decide +kernel
theorem dX8_growsSmall_67 : decode cX8_growsSmall 67 = .ok (.return_, 1) := by decide +kernel
theorem dX8_restSmall_0 : decode cX8_restSmall 0 = .ok (.lconst 0, 1) := by decide +kernel
theorem dX8_restSmall_1 : decode cX8_restSmall 1 = .ok (.lstore_n 3, 1) := by decide +kernel
theorem dX8_restSmall_2 : decode cX8_restSmall 2 = .ok (.bipush 83, 2) := by decide +kernel
theorem dX8_restSmall_4 : decode cX8_restSmall 4 = .ok (.istore 5, 2) := by decide +kernel
theorem dX8_restSmall_6 : decode cX8_restSmall 6 = .ok (.iload 5, 2) := by decide +kernel
theorem dX8_restSmall_8 : decode cX8_restSmall 8 = .ok (.ifCond .lt 31, 3) := by decide +kernel
theorem dX8_restSmall_11 : decode cX8_restSmall 11 = .ok (.lload_n 3, 1) := by decide +kernel
theorem dX8_restSmall_12 : decode cX8_restSmall 12 = .ok (.bipush 16, 2) := by decide +kernel
theorem dX8_restSmall_14 : decode cX8_restSmall 14 = .ok (.lshl, 1) := by decide +kernel
theorem dX8_restSmall_15 : decode cX8_restSmall 15 = .ok (.aload_n 0, 1) := by decide +kernel
theorem dX8_restSmall_16 : decode cX8_restSmall 16 = .ok (.getfield 7, 3) := by decide +kernel
theorem dX8_restSmall_19 : decode cX8_restSmall 19 = .ok (.bipush 84, 2) := by decide +kernel
theorem dX8_restSmall_21 : decode cX8_restSmall 21 = .ok (.iload_n 1, 1) := by decide +kernel
theorem dX8_restSmall_22 : decode cX8_restSmall 22 = .ok (.imul, 1) := by decide +kernel
theorem dX8_restSmall_23 : decode cX8_restSmall 23 = .ok (.iload 5, 2) := by decide +kernel
theorem dX8_restSmall_25 : decode cX8_restSmall 25 = .ok (.iadd, 1) := by decide +kernel
theorem dX8_restSmall_26 : decode cX8_restSmall 26 = .ok (.iaload, 1) := by decide +kernel
theorem dX8_restSmall_27 : decode cX8_restSmall 27 = .ok (.i2l, 1) := by decide +kernel
theorem dX8_restSmall_28 : decode cX8_restSmall 28 = .ok (.lor, 1) := by decide +kernel
theorem dX8_restSmall_29 : decode cX8_restSmall 29 = .ok (.iload_n 2, 1) := by decide +kernel
theorem dX8_restSmall_30 : decode cX8_restSmall 30 = .ok (.i2l, 1) := by decide +kernel
theorem dX8_restSmall_31 : decode cX8_restSmall 31 = .ok (.lrem, 1) := by decide +kernel
theorem dX8_restSmall_32 : decode cX8_restSmall 32 = .ok (.lstore_n 3, 1) := by decide +kernel
theorem dX8_restSmall_33 : decode cX8_restSmall 33 = .ok (.iinc 5 (-1), 3) := by decide +kernel
theorem dX8_restSmall_36 : decode cX8_restSmall 36 = .ok (.goto (-30), 3) := by decide +kernel
theorem dX8_restSmall_39 : decode cX8_restSmall 39 = .ok (.lload_n 3, 1) := by decide +kernel
theorem dX8_restSmall_40 : decode cX8_restSmall 40 = .ok (.l2i, 1) := by decide +kernel
theorem dX8_restSmall_41 : decode cX8_restSmall 41 = .ok (.ireturn, 1) := by decide +kernel
theorem dX8_shareSmall_0 : decode cX8_shareSmall 0 = .ok (.lconst 0, 1) := by decide +kernel
theorem dX8_shareSmall_1 : decode cX8_shareSmall 1 = .ok (.lstore_n 3, 1) := by decide +kernel
theorem dX8_shareSmall_2 : decode cX8_shareSmall 2 = .ok (.bipush 83, 2) := by decide +kernel
theorem dX8_shareSmall_4 : decode cX8_shareSmall 4 = .ok (.istore 5, 2) := by decide +kernel
theorem dX8_shareSmall_6 : decode cX8_shareSmall 6 = .ok (.iload 5, 2) := by decide +kernel
theorem dX8_shareSmall_8 : decode cX8_shareSmall 8 = .ok (.ifCond .lt 53, 3) := by decide +kernel
theorem dX8_shareSmall_11 : decode cX8_shareSmall 11 = .ok (.lload_n 3, 1) := by decide +kernel
theorem dX8_shareSmall_12 : decode cX8_shareSmall 12 = .ok (.bipush 16, 2) := by decide +kernel
theorem dX8_shareSmall_14 : decode cX8_shareSmall 14 = .ok (.lshl, 1) := by decide +kernel
theorem dX8_shareSmall_15 : decode cX8_shareSmall 15 = .ok (.aload_n 0, 1) := by decide +kernel
theorem dX8_shareSmall_16 : decode cX8_shareSmall 16 = .ok (.getfield 7, 3) := by decide +kernel
theorem dX8_shareSmall_19 : decode cX8_shareSmall 19 = .ok (.bipush 84, 2) := by decide +kernel
theorem dX8_shareSmall_21 : decode cX8_shareSmall 21 = .ok (.iload_n 1, 1) := by decide +kernel
theorem dX8_shareSmall_22 : decode cX8_shareSmall 22 = .ok (.imul, 1) := by decide +kernel
theorem dX8_shareSmall_23 : decode cX8_shareSmall 23 = .ok (.iload 5, 2) := by decide +kernel
theorem dX8_shareSmall_25 : decode cX8_shareSmall 25 = .ok (.iadd, 1) := by decide +kernel
theorem dX8_shareSmall_26 : decode cX8_shareSmall 26 = .ok (.iaload, 1) := by decide +kernel
theorem dX8_shareSmall_27 : decode cX8_shareSmall 27 = .ok (.i2l, 1) := by decide +kernel
theorem dX8_shareSmall_28 : decode cX8_shareSmall 28 = .ok (.lor, 1) := by decide +kernel
theorem dX8_shareSmall_29 : decode cX8_shareSmall 29 = .ok (.lstore 6, 2) := by decide +kernel
theorem dX8_shareSmall_31 : decode cX8_shareSmall 31 = .ok (.aload_n 0, 1) := by decide +kernel
theorem dX8_shareSmall_32 : decode cX8_shareSmall 32 = .ok (.getfield 7, 3) := by decide +kernel
theorem dX8_shareSmall_35 : decode cX8_shareSmall 35 = .ok (.bipush 84, 2) := by decide +kernel
theorem dX8_shareSmall_37 : decode cX8_shareSmall 37 = .ok (.iload_n 1, 1) := by decide +kernel
theorem dX8_shareSmall_38 : decode cX8_shareSmall 38 = .ok (.imul, 1) := by decide +kernel
theorem dX8_shareSmall_39 : decode cX8_shareSmall 39 = .ok (.iload 5, 2) := by decide +kernel
theorem dX8_shareSmall_41 : decode cX8_shareSmall 41 = .ok (.iadd, 1) := by decide +kernel
theorem dX8_shareSmall_42 : decode cX8_shareSmall 42 = .ok (.lload 6, 2) := by decide +kernel
theorem dX8_shareSmall_44 : decode cX8_shareSmall 44 = .ok (.iload_n 2, 1) := by decide +kernel
theorem dX8_shareSmall_45 : decode cX8_shareSmall 45 = .ok (.i2l, 1) := by decide +kernel
theorem dX8_shareSmall_46 : decode cX8_shareSmall 46 = .ok (.ldiv, 1) := by decide +kernel
theorem dX8_shareSmall_47 : decode cX8_shareSmall 47 = .ok (.l2i, 1) := by decide +kernel
theorem dX8_shareSmall_48 : decode cX8_shareSmall 48 = .ok (.iastore, 1) := by decide +kernel
theorem dX8_shareSmall_49 : decode cX8_shareSmall 49 = .ok (.lload 6, 2) := by decide +kernel
theorem dX8_shareSmall_51 : decode cX8_shareSmall 51 = .ok (.iload_n 2, 1) := by decide +kernel
theorem dX8_shareSmall_52 : decode cX8_shareSmall 52 = .ok (.i2l, 1) := by decide +kernel
theorem dX8_shareSmall_53 : decode cX8_shareSmall 53 = .ok (.lrem, 1) := by decide +kernel
theorem dX8_shareSmall_54 : decode cX8_shareSmall 54 = .ok (.lstore_n 3, 1) := by decide +kernel
theorem dX8_shareSmall_55 : decode cX8_shareSmall 55 = .ok (.iinc 5 (-1), 3) := by decide +kernel
theorem dX8_shareSmall_58 : decode cX8_shareSmall 58 = .ok (.goto (-52), 3) := by decide +kernel
theorem dX8_shareSmall_61 : decode cX8_shareSmall 61 = .ok (.return_, 1) := by decide +kernel
theorem dX8_moveLeft_0 : decode cX8_moveLeft 0 = .ok (.iconst 0, 1) := by decide +kernel
theorem dX8_moveLeft_1 : decode cX8_moveLeft 1 = .ok (.istore 4, 2) := by decide +kernel
theorem dX8_moveLeft_3 : decode cX8_moveLeft 3 = .ok (.iconst 0, 1) := by decide +kernel
theorem dX8_moveLeft_4 : decode cX8_moveLeft 4 = .ok (.istore 5, 2) := by decide +kernel
theorem dX8_moveLeft_6 : decode cX8_moveLeft 6 = .ok (.iload 5, 2) := by decide +kernel
theorem dX8_moveLeft_8 : decode cX8_moveLeft 8 = .ok (.bipush 84, 2) := by decide +kernel
theorem dX8_moveLeft_10 : decode cX8_moveLeft 10 = .ok (.if_icmp .ge 52, 3) := by decide +kernel
theorem dX8_moveLeft_13 : decode cX8_moveLeft 13 = .ok (.aload_n 0, 1) := by decide +kernel
theorem dX8_moveLeft_14 : decode cX8_moveLeft 14 = .ok (.getfield 7, 3) := by decide +kernel
theorem dX8_moveLeft_17 : decode cX8_moveLeft 17 = .ok (.bipush 84, 2) := by decide +kernel
theorem dX8_moveLeft_19 : decode cX8_moveLeft 19 = .ok (.iload_n 2, 1) := by decide +kernel
theorem dX8_moveLeft_20 : decode cX8_moveLeft 20 = .ok (.imul, 1) := by decide +kernel
theorem dX8_moveLeft_21 : decode cX8_moveLeft 21 = .ok (.iload 5, 2) := by decide +kernel
theorem dX8_moveLeft_23 : decode cX8_moveLeft 23 = .ok (.iadd, 1) := by decide +kernel
theorem dX8_moveLeft_24 : decode cX8_moveLeft 24 = .ok (.iaload, 1) := by decide +kernel
theorem dX8_moveLeft_25 : decode cX8_moveLeft 25 = .ok (.iload_n 3, 1) := by decide +kernel
theorem dX8_moveLeft_26 : decode cX8_moveLeft 26 = .ok (.ishl, 1) := by decide +kernel
theorem dX8_moveLeft_27 : decode cX8_moveLeft 27 = .ok (.iload 4, 2) := by decide +kernel
theorem dX8_moveLeft_29 : decode cX8_moveLeft 29 = .ok (.ior, 1) := by decide +kernel
theorem dX8_moveLeft_30 : decode cX8_moveLeft 30 = .ok (.istore 6, 2) := by decide +kernel
theorem dX8_moveLeft_32 : decode cX8_moveLeft 32 = .ok (.aload_n 0, 1) := by decide +kernel
theorem dX8_moveLeft_33 : decode cX8_moveLeft 33 = .ok (.getfield 7, 3) := by decide +kernel
theorem dX8_moveLeft_36 : decode cX8_moveLeft 36 = .ok (.bipush 84, 2) := by decide +kernel
theorem dX8_moveLeft_38 : decode cX8_moveLeft 38 = .ok (.iload_n 1, 1) := by decide +kernel
theorem dX8_moveLeft_39 : decode cX8_moveLeft 39 = .ok (.imul, 1) := by decide +kernel
theorem dX8_moveLeft_40 : decode cX8_moveLeft 40 = .ok (.iload 5, 2) := by decide +kernel
theorem dX8_moveLeft_42 : decode cX8_moveLeft 42 = .ok (.iadd, 1) := by decide +kernel
theorem dX8_moveLeft_43 : decode cX8_moveLeft 43 = .ok (.iload 6, 2) := by decide +kernel
theorem dX8_moveLeft_45 : decode cX8_moveLeft 45 = .ok (.ldc 124, 2) := by decide +kernel
theorem dX8_moveLeft_47 : decode cX8_moveLeft 47 = .ok (.iand, 1) := by decide +kernel
theorem dX8_moveLeft_48 : decode cX8_moveLeft 48 = .ok (.iastore, 1) := by decide +kernel
theorem dX8_moveLeft_49 : decode cX8_moveLeft 49 = .ok (.iload 6, 2) := by decide +kernel
theorem dX8_moveLeft_51 : decode cX8_moveLeft 51 = .ok (.bipush 16, 2) := by decide +kernel
theorem dX8_moveLeft_53 : decode cX8_moveLeft 53 = .ok (.iushr, 1) := by decide +kernel
theorem dX8_moveLeft_54 : decode cX8_moveLeft 54 = .ok (.istore 4, 2) := by decide +kernel
theorem dX8_moveLeft_56 : decode cX8_moveLeft 56 = .ok (.iinc 5 1, 3) := by decide +kernel
theorem dX8_moveLeft_59 : decode cX8_moveLeft 59 = .ok (.goto (-53), 3) := by decide +kernel
theorem dX8_moveLeft_62 : decode cX8_moveLeft 62 = .ok (.return_, 1) := by decide +kernel
theorem dX8_moveRight_0 : decode cX8_moveRight 0 = .ok (.iconst 0, 1) := by decide +kernel
theorem dX8_moveRight_1 : decode cX8_moveRight 1 = .ok (.istore_n 3, 1) := by decide +kernel
theorem dX8_moveRight_2 : decode cX8_moveRight 2 = .ok (.iload_n 3, 1) := by decide +kernel
theorem dX8_moveRight_3 : decode cX8_moveRight 3 = .ok (.bipush 84, 2) := by decide +kernel
theorem dX8_moveRight_5 : decode cX8_moveRight 5 = .ok (.if_icmp .ge 69, 3) := by decide +kernel
theorem dX8_moveRight_8 : decode cX8_moveRight 8 = .ok (.iload_n 3, 1) := by decide +kernel
theorem dX8_moveRight_9 : decode cX8_moveRight 9 = .ok (.iconst 1, 1) := by decide +kernel
theorem dX8_moveRight_10 : decode cX8_moveRight 10 = .ok (.iadd, 1) := by decide +kernel
theorem dX8_moveRight_11 : decode cX8_moveRight 11 = .ok (.bipush 84, 2) := by decide +kernel
theorem dX8_moveRight_13 : decode cX8_moveRight 13 = .ok (.if_icmp .ge 19, 3) := by decide +kernel
theorem dX8_moveRight_16 : decode cX8_moveRight 16 = .ok (.aload_n 0, 1) := by decide +kernel
theorem dX8_moveRight_17 : decode cX8_moveRight 17 = .ok (.getfield 7, 3) := by decide +kernel
theorem dX8_moveRight_20 : decode cX8_moveRight 20 = .ok (.bipush 84, 2) := by decide +kernel
theorem dX8_moveRight_22 : decode cX8_moveRight 22 = .ok (.iload_n 1, 1) := by decide +kernel
theorem dX8_moveRight_23 : decode cX8_moveRight 23 = .ok (.imul, 1) := by decide +kernel
theorem dX8_moveRight_24 : decode cX8_moveRight 24 = .ok (.iload_n 3, 1) := by decide +kernel
theorem dX8_moveRight_25 : decode cX8_moveRight 25 = .ok (.iadd, 1) := by decide +kernel
theorem dX8_moveRight_26 : decode cX8_moveRight 26 = .ok (.iconst 1, 1) := by decide +kernel
theorem dX8_moveRight_27 : decode cX8_moveRight 27 = .ok (.iadd, 1) := by decide +kernel
theorem dX8_moveRight_28 : decode cX8_moveRight 28 = .ok (.iaload, 1) := by decide +kernel
theorem dX8_moveRight_29 : decode cX8_moveRight 29 = .ok (.goto 4, 3) := by decide +kernel
theorem dX8_moveRight_32 : decode cX8_moveRight 32 = .ok (.iconst 0, 1) := by decide +kernel
theorem dX8_moveRight_33 : decode cX8_moveRight 33 = .ok (.istore 4, 2) := by decide +kernel
theorem dX8_moveRight_35 : decode cX8_moveRight 35 = .ok (.aload_n 0, 1) := by decide +kernel
theorem dX8_moveRight_36 : decode cX8_moveRight 36 = .ok (.getfield 7, 3) := by decide +kernel
theorem dX8_moveRight_39 : decode cX8_moveRight 39 = .ok (.bipush 84, 2) := by decide +kernel
theorem dX8_moveRight_41 : decode cX8_moveRight 41 = .ok (.iload_n 1, 1) := by decide +kernel
theorem dX8_moveRight_42 : decode cX8_moveRight 42 = .ok (.imul, 1) := by decide +kernel
theorem dX8_moveRight_43 : decode cX8_moveRight 43 = .ok (.iload_n 3, 1) := by decide +kernel
theorem dX8_moveRight_44 : decode cX8_moveRight 44 = .ok (.iadd, 1) := by decide +kernel
theorem dX8_moveRight_45 : decode cX8_moveRight 45 = .ok (.iload 4, 2) := by decide +kernel
theorem dX8_moveRight_47 : decode cX8_moveRight 47 = .ok (.bipush 16, 2) := by decide +kernel
theorem dX8_moveRight_49 : decode cX8_moveRight 49 = .ok (.ishl, 1) := by decide +kernel
theorem dX8_moveRight_50 : decode cX8_moveRight 50 = .ok (.aload_n 0, 1) := by decide +kernel
theorem dX8_moveRight_51 : decode cX8_moveRight 51 = .ok (.getfield 7, 3) := by decide +kernel
theorem dX8_moveRight_54 : decode cX8_moveRight 54 = .ok (.bipush 84, 2) := by decide +kernel
theorem dX8_moveRight_56 : decode cX8_moveRight 56 = .ok (.iload_n 1, 1) := by decide +kernel
theorem dX8_moveRight_57 : decode cX8_moveRight 57 = .ok (.imul, 1) := by decide +kernel
theorem dX8_moveRight_58 : decode cX8_moveRight 58 = .ok (.iload_n 3, 1) := by decide +kernel
theorem dX8_moveRight_59 : decode cX8_moveRight 59 = .ok (.iadd, 1) := by decide +kernel
theorem dX8_moveRight_60 : decode cX8_moveRight 60 = .ok (.iaload, 1) := by decide +kernel
theorem dX8_moveRight_61 : decode cX8_moveRight 61 = .ok (.ior, 1) := by decide +kernel
theorem dX8_moveRight_62 : decode cX8_moveRight 62 = .ok (.iload_n 2, 1) := by decide +kernel
theorem dX8_moveRight_63 : decode cX8_moveRight 63 = .ok (.iushr, 1) := by decide +kernel
theorem dX8_moveRight_64 : decode cX8_moveRight 64 = .ok (.ldc 124, 2) := by decide +kernel
theorem dX8_moveRight_66 : decode cX8_moveRight 66 = .ok (.iand, 1) := by decide +kernel
theorem dX8_moveRight_67 : decode cX8_moveRight 67 = .ok (.iastore, 1) := by decide +kernel
theorem dX8_moveRight_68 : decode cX8_moveRight 68 = .ok (.iinc 3 1, 3) := by decide +kernel
theorem dX8_moveRight_71 : decode cX8_moveRight 71 = .ok (.goto (-69), 3) := by decide +kernel
theorem dX8_moveRight_74 : decode cX8_moveRight 74 = .ok (.return_, 1) := by decide +kernel
theorem dX8_times_0 : decode cX8_times 0 = .ok (.aload_n 0, 1) := by decide +kernel
theorem dX8_times_1 : decode cX8_times 1 = .ok (.iload_n 2, 1) := by decide +kernel
theorem dX8_times_2 : decode cX8_times 2 = .ok (.invokevirtual 120, 3) := by decide +kernel
theorem dX8_times_5 : decode cX8_times 5 = .ok (.istore 4, 2) := by decide +kernel
theorem dX8_times_7 : decode cX8_times 7 = .ok (.aload_n 0, 1) := by decide +kernel
theorem dX8_times_8 : decode cX8_times 8 = .ok (.iload_n 3, 1) := by decide +kernel
theorem dX8_times_9 : decode cX8_times 9 = .ok (.invokevirtual 120, 3) := by decide +kernel
theorem dX8_times_12 : decode cX8_times 12 = .ok (.istore 5, 2) := by decide +kernel
theorem dX8_times_14 : decode cX8_times 14 = .ok (.aload_n 0, 1) := by decide +kernel
theorem dX8_times_15 : decode cX8_times 15 = .ok (.iload_n 1, 1) := by decide +kernel
theorem dX8_times_16 : decode cX8_times 16 = .ok (.invokevirtual 116, 3) := by decide +kernel
theorem dX8_times_19 : decode cX8_times 19 = .ok (.iconst 0, 1) := by decide +kernel
theorem dX8_times_20 : decode cX8_times 20 = .ok (.istore 6, 2) := by decide +kernel
theorem dX8_times_22 : decode cX8_times 22 = .ok (.iload 6, 2) := by decide +kernel
theorem dX8_times_24 : decode cX8_times 24 = .ok (.iload 4, 2) := by decide +kernel
theorem dX8_times_26 : decode cX8_times 26 = .ok (.if_icmp .ge 128, 3) := by decide +kernel
theorem dX8_times_29 : decode cX8_times 29 = .ok (.lconst 0, 1) := by decide +kernel
theorem dX8_times_30 : decode cX8_times 30 = .ok (.lstore 7, 2) := by decide +kernel
theorem dX8_times_32 : decode cX8_times 32 = .ok (.aload_n 0, 1) := by decide +kernel
theorem dX8_times_33 : decode cX8_times 33 = .ok (.getfield 7, 3) := by decide +kernel
theorem dX8_times_36 : decode cX8_times 36 = .ok (.bipush 84, 2) := by decide +kernel
theorem dX8_times_38 : decode cX8_times 38 = .ok (.iload_n 2, 1) := by decide +kernel
theorem dX8_times_39 : decode cX8_times 39 = .ok (.imul, 1) := by decide +kernel
theorem dX8_times_40 : decode cX8_times 40 = .ok (.iload 6, 2) := by decide +kernel
theorem dX8_times_42 : decode cX8_times 42 = .ok (.iadd, 1) := by decide +kernel
theorem dX8_times_43 : decode cX8_times 43 = .ok (.iaload, 1) := by decide +kernel
theorem dX8_times_44 : decode cX8_times 44 = .ok (.i2l, 1) := by decide +kernel
theorem dX8_times_45 : decode cX8_times 45 = .ok (.lstore 9, 2) := by decide +kernel
theorem dX8_times_47 : decode cX8_times 47 = .ok (.iconst 0, 1) := by decide +kernel
theorem dX8_times_48 : decode cX8_times 48 = .ok (.istore 11, 2) := by decide +kernel
theorem dX8_times_50 : decode cX8_times 50 = .ok (.iload 11, 2) := by decide +kernel
theorem dX8_times_52 : decode cX8_times 52 = .ok (.iload 5, 2) := by decide +kernel
theorem dX8_times_54 : decode cX8_times 54 = .ok (.if_icmp .ge 76, 3) := by decide +kernel
theorem dX8_times_57 : decode cX8_times 57 = .ok (.lload 9, 2) := by decide +kernel
theorem dX8_times_59 : decode cX8_times 59 = .ok (.aload_n 0, 1) := by decide +kernel
theorem dX8_times_60 : decode cX8_times 60 = .ok (.getfield 7, 3) := by decide +kernel
theorem dX8_times_63 : decode cX8_times 63 = .ok (.bipush 84, 2) := by decide +kernel
theorem dX8_times_65 : decode cX8_times 65 = .ok (.iload_n 3, 1) := by decide +kernel
theorem dX8_times_66 : decode cX8_times 66 = .ok (.imul, 1) := by decide +kernel
theorem dX8_times_67 : decode cX8_times 67 = .ok (.iload 11, 2) := by decide +kernel
theorem dX8_times_69 : decode cX8_times 69 = .ok (.iadd, 1) := by decide +kernel
theorem dX8_times_70 : decode cX8_times 70 = .ok (.iaload, 1) := by decide +kernel
theorem dX8_times_71 : decode cX8_times 71 = .ok (.i2l, 1) := by decide +kernel
theorem dX8_times_72 : decode cX8_times 72 = .ok (.lmul, 1) := by decide +kernel
theorem dX8_times_73 : decode cX8_times 73 = .ok (.aload_n 0, 1) := by decide +kernel
theorem dX8_times_74 : decode cX8_times 74 = .ok (.getfield 7, 3) := by decide +kernel
theorem dX8_times_77 : decode cX8_times 77 = .ok (.bipush 84, 2) := by decide +kernel
theorem dX8_times_79 : decode cX8_times 79 = .ok (.iload_n 1, 1) := by decide +kernel
theorem dX8_times_80 : decode cX8_times 80 = .ok (.imul, 1) := by decide +kernel
theorem dX8_times_81 : decode cX8_times 81 = .ok (.iload 6, 2) := by decide +kernel
theorem dX8_times_83 : decode cX8_times 83 = .ok (.iadd, 1) := by decide +kernel
theorem dX8_times_84 : decode cX8_times 84 = .ok (.iload 11, 2) := by decide +kernel
theorem dX8_times_86 : decode cX8_times 86 = .ok (.iadd, 1) := by decide +kernel
theorem dX8_times_87 : decode cX8_times 87 = .ok (.iaload, 1) := by decide +kernel
theorem dX8_times_88 : decode cX8_times 88 = .ok (.i2l, 1) := by decide +kernel
theorem dX8_times_89 : decode cX8_times 89 = .ok (.ladd, 1) := by decide +kernel
theorem dX8_times_90 : decode cX8_times 90 = .ok (.lload 7, 2) := by decide +kernel
theorem dX8_times_92 : decode cX8_times 92 = .ok (.ladd, 1) := by decide +kernel
theorem dX8_times_93 : decode cX8_times 93 = .ok (.lstore 12, 2) := by decide +kernel
theorem dX8_times_95 : decode cX8_times 95 = .ok (.aload_n 0, 1) := by decide +kernel
theorem dX8_times_96 : decode cX8_times 96 = .ok (.getfield 7, 3) := by decide +kernel
theorem dX8_times_99 : decode cX8_times 99 = .ok (.bipush 84, 2) := by decide +kernel
theorem dX8_times_101 : decode cX8_times 101 = .ok (.iload_n 1, 1) := by decide +kernel
theorem dX8_times_102 : decode cX8_times 102 = .ok (.imul, 1) := by decide +kernel
theorem dX8_times_103 : decode cX8_times 103 = .ok (.iload 6, 2) := by decide +kernel
theorem dX8_times_105 : decode cX8_times 105 = .ok (.iadd, 1) := by decide +kernel
theorem dX8_times_106 : decode cX8_times 106 = .ok (.iload 11, 2) := by decide +kernel
theorem dX8_times_108 : decode cX8_times 108 = .ok (.iadd, 1) := by decide +kernel
theorem dX8_times_109 : decode cX8_times 109 = .ok (.lload 12, 2) := by decide +kernel
theorem dX8_times_111 : decode cX8_times 111 = .ok (.ldc2_w 125, 3) := by decide +kernel
theorem dX8_times_114 : decode cX8_times 114 = .ok (.land, 1) := by decide +kernel
theorem dX8_times_115 : decode cX8_times 115 = .ok (.l2i, 1) := by decide +kernel
theorem dX8_times_116 : decode cX8_times 116 = .ok (.iastore, 1) := by decide +kernel
theorem dX8_times_117 : decode cX8_times 117 = .ok (.lload 12, 2) := by decide +kernel
theorem dX8_times_119 : decode cX8_times 119 = .ok (.bipush 16, 2) := by decide +kernel
theorem dX8_times_121 : decode cX8_times 121 = .ok (.lshr, 1) := by decide +kernel
theorem dX8_times_122 : decode cX8_times 122 = .ok (.lstore 7, 2) := by decide +kernel
theorem dX8_times_124 : decode cX8_times 124 = .ok (.iinc 11 1, 3) := by decide +kernel
theorem dX8_times_127 : decode cX8_times 127 = .ok (.goto (-77), 3) := by decide +kernel
theorem dX8_times_130 : decode cX8_times 130 = .ok (.aload_n 0, 1) := by decide +kernel
theorem dX8_times_131 : decode cX8_times 131 = .ok (.getfield 7, 3) := by decide +kernel
theorem dX8_times_134 : decode cX8_times 134 = .ok (.bipush 84, 2) := by decide +kernel
theorem dX8_times_136 : decode cX8_times 136 = .ok (.iload_n 1, 1) := by decide +kernel
theorem dX8_times_137 : decode cX8_times 137 = .ok (.imul, 1) := by decide +kernel
theorem dX8_times_138 : decode cX8_times 138 = .ok (.iload 6, 2) := by decide +kernel
theorem dX8_times_140 : decode cX8_times 140 = .ok (.iadd, 1) := by decide +kernel
theorem dX8_times_141 : decode cX8_times 141 = .ok (.iload 5, 2) := by decide +kernel
theorem dX8_times_143 : decode cX8_times 143 = .ok (.iadd, 1) := by decide +kernel
theorem dX8_times_144 : decode cX8_times 144 = .ok (.lload 7, 2) := by decide +kernel
theorem dX8_times_146 : decode cX8_times 146 = .ok (.l2i, 1) := by decide +kernel
theorem dX8_times_147 : decode cX8_times 147 = .ok (.iastore, 1) := by decide +kernel
theorem dX8_times_148 : decode cX8_times 148 = .ok (.iinc 6 1, 3) := by decide +kernel
theorem dX8_times_151 : decode cX8_times 151 = .ok (.goto (-129), 3) := by decide +kernel
theorem dX8_times_154 : decode cX8_times 154 = .ok (.return_, 1) := by decide +kernel
theorem dX8_dividesAt_0 : decode cX8_dividesAt 0 = .ok (.bipush 84, 2) := by decide +kernel
theorem dX8_dividesAt_2 : decode cX8_dividesAt 2 = .ok (.iload_n 1, 1) := by decide +kernel
theorem dX8_dividesAt_3 : decode cX8_dividesAt 3 = .ok (.imul, 1) := by decide +kernel
theorem dX8_dividesAt_4 : decode cX8_dividesAt 4 = .ok (.iload_n 2, 1) := by decide +kernel
theorem dX8_dividesAt_5 : decode cX8_dividesAt 5 = .ok (.iadd, 1) := by decide +kernel
theorem dX8_dividesAt_6 : decode cX8_dividesAt 6 = .ok (.istore 4, 2) := by decide +kernel
theorem dX8_dividesAt_8 : decode cX8_dividesAt 8 = .ok (.sipush 1008, 3) := by decide +kernel
theorem dX8_dividesAt_11 : decode cX8_dividesAt 11 = .ok (.istore 5, 2) := by decide +kernel
theorem dX8_dividesAt_13 : decode cX8_dividesAt 13 = .ok (.aload_n 0, 1) := by decide +kernel
theorem dX8_dividesAt_14 : decode cX8_dividesAt 14 = .ok (.getfield 7, 3) := by decide +kernel
theorem dX8_dividesAt_17 : decode cX8_dividesAt 17 = .ok (.iload 5, 2) := by decide +kernel
theorem dX8_dividesAt_19 : decode cX8_dividesAt 19 = .ok (.iload_n 3, 1) := by decide +kernel
theorem dX8_dividesAt_20 : decode cX8_dividesAt 20 = .ok (.iadd, 1) := by decide +kernel
theorem dX8_dividesAt_21 : decode cX8_dividesAt 21 = .ok (.iconst 1, 1) := by decide +kernel
theorem dX8_dividesAt_22 : decode cX8_dividesAt 22 = .ok (.isub, 1) := by decide +kernel
theorem dX8_dividesAt_23 : decode cX8_dividesAt 23 = .ok (.iaload, 1) := by decide +kernel
theorem dX8_dividesAt_24 : decode cX8_dividesAt 24 = .ok (.i2l, 1) := by decide +kernel
theorem dX8_dividesAt_25 : decode cX8_dividesAt 25 = .ok (.lstore 6, 2) := by decide +kernel
theorem dX8_dividesAt_27 : decode cX8_dividesAt 27 = .ok (.aload_n 0, 1) := by decide +kernel
theorem dX8_dividesAt_28 : decode cX8_dividesAt 28 = .ok (.getfield 7, 3) := by decide +kernel
theorem dX8_dividesAt_31 : decode cX8_dividesAt 31 = .ok (.iload 5, 2) := by decide +kernel
theorem dX8_dividesAt_33 : decode cX8_dividesAt 33 = .ok (.iload_n 3, 1) := by decide +kernel
theorem dX8_dividesAt_34 : decode cX8_dividesAt 34 = .ok (.iadd, 1) := by decide +kernel
theorem dX8_dividesAt_35 : decode cX8_dividesAt 35 = .ok (.iconst 2, 1) := by decide +kernel
theorem dX8_dividesAt_36 : decode cX8_dividesAt 36 = .ok (.isub, 1) := by decide +kernel
theorem dX8_dividesAt_37 : decode cX8_dividesAt 37 = .ok (.iaload, 1) := by decide +kernel
theorem dX8_dividesAt_38 : decode cX8_dividesAt 38 = .ok (.i2l, 1) := by decide +kernel
theorem dX8_dividesAt_39 : decode cX8_dividesAt 39 = .ok (.lstore 8, 2) := by decide +kernel
theorem dX8_dividesAt_41 : decode cX8_dividesAt 41 = .ok (.aload_n 0, 1) := by decide +kernel
theorem dX8_dividesAt_42 : decode cX8_dividesAt 42 = .ok (.getfield 7, 3) := by decide +kernel
theorem dX8_dividesAt_45 : decode cX8_dividesAt 45 = .ok (.iload 4, 2) := by decide +kernel
theorem dX8_dividesAt_47 : decode cX8_dividesAt 47 = .ok (.iload_n 3, 1) := by decide +kernel
theorem dX8_dividesAt_48 : decode cX8_dividesAt 48 = .ok (.iadd, 1) := by decide +kernel
theorem dX8_dividesAt_49 : decode cX8_dividesAt 49 = .ok (.iaload, 1) := by decide +kernel
theorem dX8_dividesAt_50 : decode cX8_dividesAt 50 = .ok (.i2l, 1) := by decide +kernel
theorem dX8_dividesAt_51 : decode cX8_dividesAt 51 = .ok (.bipush 16, 2) := by decide +kernel
theorem dX8_dividesAt_53 : decode cX8_dividesAt 53 = .ok (.lshl, 1) := by decide +kernel
theorem dX8_dividesAt_54 : decode cX8_dividesAt 54 = .ok (.aload_n 0, 1) := by decide +kernel
theorem dX8_dividesAt_55 : decode cX8_dividesAt 55 = .ok (.getfield 7, 3) := by decide +kernel
theorem dX8_dividesAt_58 : decode cX8_dividesAt 58 = .ok (.iload 4, 2) := by decide +kernel
theorem dX8_dividesAt_60 : decode cX8_dividesAt 60 = .ok (.iload_n 3, 1) := by decide +kernel
theorem dX8_dividesAt_61 : decode cX8_dividesAt 61 = .ok (.iadd, 1) := by decide +kernel
theorem dX8_dividesAt_62 : decode cX8_dividesAt 62 = .ok (.iconst 1, 1) := by decide +kernel
theorem dX8_dividesAt_63 : decode cX8_dividesAt 63 = .ok (.isub, 1) := by decide +kernel
theorem dX8_dividesAt_64 : decode cX8_dividesAt 64 = .ok (.iaload, 1) := by decide +kernel
theorem dX8_dividesAt_65 : decode cX8_dividesAt 65 = .ok (.i2l, 1) := by decide +kernel
theorem dX8_dividesAt_66 : decode cX8_dividesAt 66 = .ok (.lor, 1) := by decide +kernel
theorem dX8_dividesAt_67 : decode cX8_dividesAt 67 = .ok (.lstore 10, 2) := by decide +kernel
theorem dX8_dividesAt_69 : decode cX8_dividesAt 69 = .ok (.lload 10, 2) := by decide +kernel
theorem dX8_dividesAt_71 : decode cX8_dividesAt 71 = .ok (.lload 6, 2) := by decide +kernel
theorem dX8_dividesAt_73 : decode cX8_dividesAt 73 = .ok (.ldiv, 1) := by decide +kernel
theorem dX8_dividesAt_74 : decode cX8_dividesAt 74 = .ok (.lstore 12, 2) := by decide +kernel
theorem dX8_dividesAt_76 : decode cX8_dividesAt 76 = .ok (.lload 10, 2) := by decide +kernel
theorem dX8_dividesAt_78 : decode cX8_dividesAt 78 = .ok (.lload 6, 2) := by decide +kernel
theorem dX8_dividesAt_80 : decode cX8_dividesAt 80 = .ok (.lrem, 1) := by decide +kernel
theorem dX8_dividesAt_81 : decode cX8_dividesAt 81 = .ok (.lstore 14, 2) := by decide +kernel
theorem dX8_dividesAt_83 : decode cX8_dividesAt 83 = .ok (.iconst 1, 1) := by decide +kernel
theorem dX8_dividesAt_84 : decode cX8_dividesAt 84 = .ok (.istore 16, 2) := by decide +kernel
theorem dX8_dividesAt_86 : decode cX8_dividesAt 86 = .ok (.iload 16, 2) := by decide +kernel
theorem dX8_dividesAt_88 : decode cX8_dividesAt 88 = .ok (.ifCond .eq 71, 3) := by decide +kernel
theorem dX8_dividesAt_91 : decode cX8_dividesAt 91 = .ok (.lload 12, 2) := by decide +kernel
theorem dX8_dividesAt_93 : decode cX8_dividesAt 93 = .ok (.ldc2_w 125, 3) := by decide +kernel
theorem dX8_dividesAt_96 : decode cX8_dividesAt 96 = .ok (.lcmp, 1) := by decide +kernel
theorem dX8_dividesAt_97 : decode cX8_dividesAt 97 = .ok (.ifCond .gt 30, 3) := by decide +kernel
theorem dX8_dividesAt_100 : decode cX8_dividesAt 100 = .ok (.lload 12, 2) := by decide +kernel
theorem dX8_dividesAt_102 : decode cX8_dividesAt 102 = .ok (.lload 8, 2) := by decide +kernel
theorem dX8_dividesAt_104 : decode cX8_dividesAt 104 = .ok (.lmul, 1) := by decide +kernel
theorem dX8_dividesAt_105 : decode cX8_dividesAt 105 = .ok (.lload 14, 2) := by decide +kernel
theorem dX8_dividesAt_107 : decode cX8_dividesAt 107 = .ok (.bipush 16, 2) := by decide +kernel
theorem dX8_dividesAt_109 : decode cX8_dividesAt 109 = .ok (.lshl, 1) := by decide +kernel
theorem dX8_dividesAt_110 : decode cX8_dividesAt 110 = .ok (.aload_n 0, 1) := by decide +kernel
theorem dX8_dividesAt_111 : decode cX8_dividesAt 111 = .ok (.getfield 7, 3) := by decide +kernel
theorem dX8_dividesAt_114 : decode cX8_dividesAt 114 = .ok (.iload 4, 2) := by decide +kernel
theorem dX8_dividesAt_116 : decode cX8_dividesAt 116 = .ok (.iload_n 3, 1) := by decide +kernel
theorem dX8_dividesAt_117 : decode cX8_dividesAt 117 = .ok (.iadd, 1) := by decide +kernel
theorem dX8_dividesAt_118 : decode cX8_dividesAt 118 = .ok (.iconst 2, 1) := by decide +kernel
theorem dX8_dividesAt_119 : decode cX8_dividesAt 119 = .ok (.isub, 1) := by decide +kernel
theorem dX8_dividesAt_120 : decode cX8_dividesAt 120 = .ok (.iaload, 1) := by decide +kernel
theorem dX8_dividesAt_121 : decode cX8_dividesAt 121 = .ok (.i2l, 1) := by decide +kernel
theorem dX8_dividesAt_122 : decode cX8_dividesAt 122 = .ok (.lor, 1) := by decide +kernel
theorem dX8_dividesAt_123 : decode cX8_dividesAt 123 = .ok (.lcmp, 1) := by decide +kernel
theorem dX8_dividesAt_124 : decode cX8_dividesAt 124 = .ok (.ifCond .le 35, 3) := by decide +kernel
theorem dX8_dividesAt_127 : decode cX8_dividesAt 127 = .ok (.lload 12, 2) := by decide +kernel
theorem dX8_dividesAt_129 : decode cX8_dividesAt 129 = .ok (.lconst 1, 1) := by decide +kernel
theorem dX8_dividesAt_130 : decode cX8_dividesAt 130 = .ok (.lsub, 1) := by decide +kernel
theorem dX8_dividesAt_131 : decode cX8_dividesAt 131 = .ok (.lstore 12, 2) := by decide +kernel
theorem dX8_dividesAt_133 : decode cX8_dividesAt 133 = .ok (.lload 14, 2) := by decide +kernel
theorem dX8_dividesAt_135 : decode cX8_dividesAt 135 = .ok (.lload 6, 2) := by decide +kernel
theorem dX8_dividesAt_137 : decode cX8_dividesAt 137 = .ok (.ladd, 1) := by decide +kernel
theorem dX8_dividesAt_138 : decode cX8_dividesAt 138 = .ok (.lstore 14, 2) := by decide +kernel
theorem dX8_dividesAt_140 : decode cX8_dividesAt 140 = .ok (.lload 14, 2) := by decide +kernel
theorem dX8_dividesAt_142 : decode cX8_dividesAt 142 = .ok (.ldc2_w 125, 3) := by decide +kernel
theorem dX8_dividesAt_145 : decode cX8_dividesAt 145 = .ok (.lcmp, 1) := by decide +kernel
theorem dX8_dividesAt_146 : decode cX8_dividesAt 146 = .ok (.ifCond .gt 7, 3) := by decide +kernel
theorem dX8_dividesAt_149 : decode cX8_dividesAt 149 = .ok (.iconst 1, 1) := by decide +kernel
theorem dX8_dividesAt_150 : decode cX8_dividesAt 150 = .ok (.goto 4, 3) := by decide +kernel
theorem dX8_dividesAt_153 : decode cX8_dividesAt 153 = .ok (.iconst 0, 1) := by decide +kernel
theorem dX8_dividesAt_154 : decode cX8_dividesAt 154 = .ok (.istore 16, 2) := by decide +kernel
theorem dX8_dividesAt_156 : decode cX8_dividesAt 156 = .ok (.goto (-70), 3) := by decide +kernel
theorem dX8_dividesAt_159 : decode cX8_dividesAt 159 = .ok (.lconst 0, 1) := by decide +kernel
theorem dX8_dividesAt_160 : decode cX8_dividesAt 160 = .ok (.lstore 17, 2) := by decide +kernel
theorem dX8_dividesAt_162 : decode cX8_dividesAt 162 = .ok (.lconst 0, 1) := by decide +kernel
theorem dX8_dividesAt_163 : decode cX8_dividesAt 163 = .ok (.lstore 19, 2) := by decide +kernel
theorem dX8_dividesAt_165 : decode cX8_dividesAt 165 = .ok (.iconst 0, 1) := by decide +kernel
theorem dX8_dividesAt_166 : decode cX8_dividesAt 166 = .ok (.istore 21, 2) := by decide +kernel
theorem dX8_dividesAt_168 : decode cX8_dividesAt 168 = .ok (.iload 21, 2) := by decide +kernel
theorem dX8_dividesAt_170 : decode cX8_dividesAt 170 = .ok (.iload_n 3, 1) := by decide +kernel
theorem dX8_dividesAt_171 : decode cX8_dividesAt 171 = .ok (.if_icmp .ge 89, 3) := by decide +kernel
theorem dX8_dividesAt_174 : decode cX8_dividesAt 174 = .ok (.lload 12, 2) := by decide +kernel
theorem dX8_dividesAt_176 : decode cX8_dividesAt 176 = .ok (.aload_n 0, 1) := by decide +kernel
theorem dX8_dividesAt_177 : decode cX8_dividesAt 177 = .ok (.getfield 7, 3) := by decide +kernel
theorem dX8_dividesAt_180 : decode cX8_dividesAt 180 = .ok (.iload 5, 2) := by decide +kernel
theorem dX8_dividesAt_182 : decode cX8_dividesAt 182 = .ok (.iload 21, 2) := by decide +kernel
theorem dX8_dividesAt_184 : decode cX8_dividesAt 184 = .ok (.iadd, 1) := by decide +kernel
theorem dX8_dividesAt_185 : decode cX8_dividesAt 185 = .ok (.iaload, 1) := by decide +kernel
theorem dX8_dividesAt_186 : decode cX8_dividesAt 186 = .ok (.i2l, 1) := by decide +kernel
theorem dX8_dividesAt_187 : decode cX8_dividesAt 187 = .ok (.lmul, 1) := by decide +kernel
theorem dX8_dividesAt_188 : decode cX8_dividesAt 188 = .ok (.lload 17, 2) := by decide +kernel
theorem dX8_dividesAt_190 : decode cX8_dividesAt 190 = .ok (.ladd, 1) := by decide +kernel
theorem dX8_dividesAt_191 : decode cX8_dividesAt 191 = .ok (.lstore 22, 2) := by decide +kernel
theorem dX8_dividesAt_193 : decode cX8_dividesAt 193 = .ok (.lload 22, 2) := by decide +kernel
theorem dX8_dividesAt_195 : decode cX8_dividesAt 195 = .ok (.bipush 16, 2) := by decide +kernel
theorem dX8_dividesAt_197 : decode cX8_dividesAt 197 = .ok (.lshr, 1) := by decide +kernel
theorem dX8_dividesAt_198 : decode cX8_dividesAt 198 = .ok (.lstore 17, 2) := by decide +kernel
theorem dX8_dividesAt_200 : decode cX8_dividesAt 200 = .ok (.aload_n 0, 1) := by decide +kernel
theorem dX8_dividesAt_201 : decode cX8_dividesAt 201 = .ok (.getfield 7, 3) := by decide +kernel
theorem dX8_dividesAt_204 : decode cX8_dividesAt 204 = .ok (.iload 4, 2) := by decide +kernel
theorem dX8_dividesAt_206 : decode cX8_dividesAt 206 = .ok (.iload 21, 2) := by decide +kernel
theorem dX8_dividesAt_208 : decode cX8_dividesAt 208 = .ok (.iadd, 1) := by decide +kernel
theorem dX8_dividesAt_209 : decode cX8_dividesAt 209 = .ok (.iaload, 1) := by decide +kernel
theorem dX8_dividesAt_210 : decode cX8_dividesAt 210 = .ok (.i2l, 1) := by decide +kernel
theorem dX8_dividesAt_211 : decode cX8_dividesAt 211 = .ok (.lload 22, 2) := by decide +kernel
theorem dX8_dividesAt_213 : decode cX8_dividesAt 213 = .ok (.ldc2_w 125, 3) := by decide +kernel
theorem dX8_dividesAt_216 : decode cX8_dividesAt 216 = .ok (.land, 1) := by decide +kernel
theorem dX8_dividesAt_217 : decode cX8_dividesAt 217 = .ok (.lsub, 1) := by decide +kernel
theorem dX8_dividesAt_218 : decode cX8_dividesAt 218 = .ok (.lload 19, 2) := by decide +kernel
theorem dX8_dividesAt_220 : decode cX8_dividesAt 220 = .ok (.lsub, 1) := by decide +kernel
theorem dX8_dividesAt_221 : decode cX8_dividesAt 221 = .ok (.lstore 24, 2) := by decide +kernel
theorem dX8_dividesAt_223 : decode cX8_dividesAt 223 = .ok (.aload_n 0, 1) := by decide +kernel
theorem dX8_dividesAt_224 : decode cX8_dividesAt 224 = .ok (.getfield 7, 3) := by decide +kernel
theorem dX8_dividesAt_227 : decode cX8_dividesAt 227 = .ok (.iload 4, 2) := by decide +kernel
theorem dX8_dividesAt_229 : decode cX8_dividesAt 229 = .ok (.iload 21, 2) := by decide +kernel
theorem dX8_dividesAt_231 : decode cX8_dividesAt 231 = .ok (.iadd, 1) := by decide +kernel
theorem dX8_dividesAt_232 : decode cX8_dividesAt 232 = .ok (.lload 24, 2) := by decide +kernel
theorem dX8_dividesAt_234 : decode cX8_dividesAt 234 = .ok (.ldc2_w 125, 3) := by decide +kernel
theorem dX8_dividesAt_237 : decode cX8_dividesAt 237 = .ok (.land, 1) := by decide +kernel
theorem dX8_dividesAt_238 : decode cX8_dividesAt 238 = .ok (.l2i, 1) := by decide +kernel
theorem dX8_dividesAt_239 : decode cX8_dividesAt 239 = .ok (.iastore, 1) := by decide +kernel
theorem dX8_dividesAt_240 : decode cX8_dividesAt 240 = .ok (.lload 24, 2) := by decide +kernel
theorem dX8_dividesAt_242 : decode cX8_dividesAt 242 = .ok (.lconst 0, 1) := by decide +kernel
theorem dX8_dividesAt_243 : decode cX8_dividesAt 243 = .ok (.lcmp, 1) := by decide +kernel
theorem dX8_dividesAt_244 : decode cX8_dividesAt 244 = .ok (.ifCond .ge 7, 3) := by decide +kernel
theorem dX8_dividesAt_247 : decode cX8_dividesAt 247 = .ok (.lconst 1, 1) := by decide +kernel
theorem dX8_dividesAt_248 : decode cX8_dividesAt 248 = .ok (.goto 4, 3) := by decide +kernel
theorem dX8_dividesAt_251 : decode cX8_dividesAt 251 = .ok (.lconst 0, 1) := by decide +kernel
theorem dX8_dividesAt_252 : decode cX8_dividesAt 252 = .ok (.lstore 19, 2) := by decide +kernel
theorem dX8_dividesAt_254 : decode cX8_dividesAt 254 = .ok (.iinc 21 1, 3) := by decide +kernel
theorem dX8_dividesAt_257 : decode cX8_dividesAt 257 = .ok (.goto (-89), 3) := by decide +kernel
theorem dX8_dividesAt_260 : decode cX8_dividesAt 260 = .ok (.aload_n 0, 1) := by decide +kernel
theorem dX8_dividesAt_261 : decode cX8_dividesAt 261 = .ok (.getfield 7, 3) := by decide +kernel
theorem dX8_dividesAt_264 : decode cX8_dividesAt 264 = .ok (.iload 4, 2) := by decide +kernel
theorem dX8_dividesAt_266 : decode cX8_dividesAt 266 = .ok (.iload_n 3, 1) := by decide +kernel
theorem dX8_dividesAt_267 : decode cX8_dividesAt 267 = .ok (.iadd, 1) := by decide +kernel
theorem dX8_dividesAt_268 : decode cX8_dividesAt 268 = .ok (.iaload, 1) := by decide +kernel
theorem dX8_dividesAt_269 : decode cX8_dividesAt 269 = .ok (.i2l, 1) := by decide +kernel
theorem dX8_dividesAt_270 : decode cX8_dividesAt 270 = .ok (.lload 17, 2) := by decide +kernel
theorem dX8_dividesAt_272 : decode cX8_dividesAt 272 = .ok (.lsub, 1) := by decide +kernel
theorem dX8_dividesAt_273 : decode cX8_dividesAt 273 = .ok (.lload 19, 2) := by decide +kernel
theorem dX8_dividesAt_275 : decode cX8_dividesAt 275 = .ok (.lsub, 1) := by decide +kernel
theorem dX8_dividesAt_276 : decode cX8_dividesAt 276 = .ok (.lstore 21, 2) := by decide +kernel
theorem dX8_dividesAt_278 : decode cX8_dividesAt 278 = .ok (.aload_n 0, 1) := by decide +kernel
theorem dX8_dividesAt_279 : decode cX8_dividesAt 279 = .ok (.getfield 7, 3) := by decide +kernel
theorem dX8_dividesAt_282 : decode cX8_dividesAt 282 = .ok (.iload 4, 2) := by decide +kernel
theorem dX8_dividesAt_284 : decode cX8_dividesAt 284 = .ok (.iload_n 3, 1) := by decide +kernel
theorem dX8_dividesAt_285 : decode cX8_dividesAt 285 = .ok (.iadd, 1) := by decide +kernel
theorem dX8_dividesAt_286 : decode cX8_dividesAt 286 = .ok (.lload 21, 2) := by decide +kernel
theorem dX8_dividesAt_288 : decode cX8_dividesAt 288 = .ok (.ldc2_w 125, 3) := by decide +kernel
theorem dX8_dividesAt_291 : decode cX8_dividesAt 291 = .ok (.land, 1) := by decide +kernel
theorem dX8_dividesAt_292 : decode cX8_dividesAt 292 = .ok (.l2i, 1) := by decide +kernel
theorem dX8_dividesAt_293 : decode cX8_dividesAt 293 = .ok (.iastore, 1) := by decide +kernel
theorem dX8_dividesAt_294 : decode cX8_dividesAt 294 = .ok (.lload 21, 2) := by decide +kernel
theorem dX8_dividesAt_296 : decode cX8_dividesAt 296 = .ok (.lconst 0, 1) := by decide +kernel
theorem dX8_dividesAt_297 : decode cX8_dividesAt 297 = .ok (.lcmp, 1) := by decide +kernel
theorem dX8_dividesAt_298 : decode cX8_dividesAt 298 = .ok (.ifCond .ge 93, 3) := by decide +kernel
theorem dX8_dividesAt_301 : decode cX8_dividesAt 301 = .ok (.iconst 0, 1) := by decide +kernel
theorem dX8_dividesAt_302 : decode cX8_dividesAt 302 = .ok (.istore 23, 2) := by decide +kernel
theorem dX8_dividesAt_304 : decode cX8_dividesAt 304 = .ok (.iconst 0, 1) := by decide +kernel
theorem dX8_dividesAt_305 : decode cX8_dividesAt 305 = .ok (.istore 24, 2) := by decide +kernel
theorem dX8_dividesAt_307 : decode cX8_dividesAt 307 = .ok (.iload 24, 2) := by decide +kernel
theorem dX8_dividesAt_309 : decode cX8_dividesAt 309 = .ok (.iload_n 3, 1) := by decide +kernel
theorem dX8_dividesAt_310 : decode cX8_dividesAt 310 = .ok (.if_icmp .ge 57, 3) := by decide +kernel
theorem dX8_dividesAt_313 : decode cX8_dividesAt 313 = .ok (.aload_n 0, 1) := by decide +kernel
theorem dX8_dividesAt_314 : decode cX8_dividesAt 314 = .ok (.getfield 7, 3) := by decide +kernel
theorem dX8_dividesAt_317 : decode cX8_dividesAt 317 = .ok (.iload 4, 2) := by decide +kernel
theorem dX8_dividesAt_319 : decode cX8_dividesAt 319 = .ok (.iload 24, 2) := by decide +kernel
theorem dX8_dividesAt_321 : decode cX8_dividesAt 321 = .ok (.iadd, 1) := by decide +kernel
theorem dX8_dividesAt_322 : decode cX8_dividesAt 322 = .ok (.iaload, 1) := by decide +kernel
theorem dX8_dividesAt_323 : decode cX8_dividesAt 323 = .ok (.aload_n 0, 1) := by decide +kernel
theorem dX8_dividesAt_324 : decode cX8_dividesAt 324 = .ok (.getfield 7, 3) := by decide +kernel
theorem dX8_dividesAt_327 : decode cX8_dividesAt 327 = .ok (.iload 5, 2) := by decide +kernel
theorem dX8_dividesAt_329 : decode cX8_dividesAt 329 = .ok (.iload 24, 2) := by decide +kernel
theorem dX8_dividesAt_331 : decode cX8_dividesAt 331 = .ok (.iadd, 1) := by decide +kernel
theorem dX8_dividesAt_332 : decode cX8_dividesAt 332 = .ok (.iaload, 1) := by decide +kernel
theorem dX8_dividesAt_333 : decode cX8_dividesAt 333 = .ok (.iadd, 1) := by decide +kernel
theorem dX8_dividesAt_334 : decode cX8_dividesAt 334 = .ok (.iload 23, 2) := by decide +kernel
theorem dX8_dividesAt_336 : decode cX8_dividesAt 336 = .ok (.iadd, 1) := by decide +kernel
theorem dX8_dividesAt_337 : decode cX8_dividesAt 337 = .ok (.istore 25, 2) := by decide +kernel
theorem dX8_dividesAt_339 : decode cX8_dividesAt 339 = .ok (.aload_n 0, 1) := by decide +kernel
theorem dX8_dividesAt_340 : decode cX8_dividesAt 340 = .ok (.getfield 7, 3) := by decide +kernel
theorem dX8_dividesAt_343 : decode cX8_dividesAt 343 = .ok (.iload 4, 2) := by decide +kernel
theorem dX8_dividesAt_345 : decode cX8_dividesAt 345 = .ok (.iload 24, 2) := by decide +kernel
theorem dX8_dividesAt_347 : decode cX8_dividesAt 347 = .ok (.iadd, 1) := by decide +kernel
theorem dX8_dividesAt_348 : decode cX8_dividesAt 348 = .ok (.iload 25, 2) := by decide +kernel
theorem dX8_dividesAt_350 : decode cX8_dividesAt 350 = .ok (.ldc 124, 2) := by decide +kernel
theorem dX8_dividesAt_352 : decode cX8_dividesAt 352 = .ok (.iand, 1) := by decide +kernel
theorem dX8_dividesAt_353 : decode cX8_dividesAt 353 = .ok (.iastore, 1) := by decide +kernel
theorem dX8_dividesAt_354 : decode cX8_dividesAt 354 = .ok (.iload 25, 2) := by decide +kernel
theorem dX8_dividesAt_356 : decode cX8_dividesAt 356 = .ok (.bipush 16, 2) := by decide +kernel
theorem dX8_dividesAt_358 : decode cX8_dividesAt 358 = .ok (.ishr, 1) := by decide +kernel
theorem dX8_dividesAt_359 : decode cX8_dividesAt 359 = .ok (.istore 23, 2) := by decide +kernel
theorem dX8_dividesAt_361 : decode cX8_dividesAt 361 = .ok (.iinc 24 1, 3) := by decide +kernel
theorem dX8_dividesAt_364 : decode cX8_dividesAt 364 = .ok (.goto (-57), 3) := by decide +kernel
theorem dX8_dividesAt_367 : decode cX8_dividesAt 367 = .ok (.aload_n 0, 1) := by decide +kernel
theorem dX8_dividesAt_368 : decode cX8_dividesAt 368 = .ok (.getfield 7, 3) := by decide +kernel
theorem dX8_dividesAt_371 : decode cX8_dividesAt 371 = .ok (.iload 4, 2) := by decide +kernel
theorem dX8_dividesAt_373 : decode cX8_dividesAt 373 = .ok (.iload_n 3, 1) := by decide +kernel
theorem dX8_dividesAt_374 : decode cX8_dividesAt 374 = .ok (.iadd, 1) := by decide +kernel
theorem dX8_dividesAt_375 : decode cX8_dividesAt 375 = .ok (.aload_n 0, 1) := by decide +kernel
theorem dX8_dividesAt_376 : decode cX8_dividesAt 376 = .ok (.getfield 7, 3) := by decide +kernel
theorem dX8_dividesAt_379 : decode cX8_dividesAt 379 = .ok (.iload 4, 2) := by decide +kernel
theorem dX8_dividesAt_381 : decode cX8_dividesAt 381 = .ok (.iload_n 3, 1) := by decide +kernel
theorem dX8_dividesAt_382 : decode cX8_dividesAt 382 = .ok (.iadd, 1) := by decide +kernel
theorem dX8_dividesAt_383 : decode cX8_dividesAt 383 = .ok (.iaload, 1) := by decide +kernel
theorem dX8_dividesAt_384 : decode cX8_dividesAt 384 = .ok (.iload 23, 2) := by decide +kernel
theorem dX8_dividesAt_386 : decode cX8_dividesAt 386 = .ok (.iadd, 1) := by decide +kernel
theorem dX8_dividesAt_387 : decode cX8_dividesAt 387 = .ok (.ldc 124, 2) := by decide +kernel
theorem dX8_dividesAt_389 : decode cX8_dividesAt 389 = .ok (.iand, 1) := by decide +kernel
theorem dX8_dividesAt_390 : decode cX8_dividesAt 390 = .ok (.iastore, 1) := by decide +kernel
theorem dX8_dividesAt_391 : decode cX8_dividesAt 391 = .ok (.return_, 1) := by decide +kernel
theorem dX8_leaves_0 : decode cX8_leaves 0 = .ok (.aload_n 0, 1) := by decide +kernel
theorem dX8_leaves_1 : decode cX8_leaves 1 = .ok (.iload_n 2, 1) := by decide +kernel
theorem dX8_leaves_2 : decode cX8_leaves 2 = .ok (.invokevirtual 120, 3) := by decide +kernel
theorem dX8_leaves_5 : decode cX8_leaves 5 = .ok (.istore_n 3, 1) := by decide +kernel
theorem dX8_leaves_6 : decode cX8_leaves 6 = .ok (.aload_n 0, 1) := by decide +kernel
theorem dX8_leaves_7 : decode cX8_leaves 7 = .ok (.iload_n 1, 1) := by decide +kernel
theorem dX8_leaves_8 : decode cX8_leaves 8 = .ok (.invokevirtual 120, 3) := by decide +kernel
theorem dX8_leaves_11 : decode cX8_leaves 11 = .ok (.istore 4, 2) := by decide +kernel
theorem dX8_leaves_13 : decode cX8_leaves 13 = .ok (.iload 4, 2) := by decide +kernel
theorem dX8_leaves_15 : decode cX8_leaves 15 = .ok (.iload_n 3, 1) := by decide +kernel
theorem dX8_leaves_16 : decode cX8_leaves 16 = .ok (.if_icmp .ge 4, 3) := by decide +kernel
theorem dX8_leaves_19 : decode cX8_leaves 19 = .ok (.return_, 1) := by decide +kernel
theorem dX8_leaves_20 : decode cX8_leaves 20 = .ok (.iconst 0, 1) := by decide +kernel
theorem dX8_leaves_21 : decode cX8_leaves 21 = .ok (.istore 5, 2) := by decide +kernel
theorem dX8_leaves_23 : decode cX8_leaves 23 = .ok (.aload_n 0, 1) := by decide +kernel
theorem dX8_leaves_24 : decode cX8_leaves 24 = .ok (.getfield 7, 3) := by decide +kernel
theorem dX8_leaves_27 : decode cX8_leaves 27 = .ok (.bipush 84, 2) := by decide +kernel
theorem dX8_leaves_29 : decode cX8_leaves 29 = .ok (.iload_n 2, 1) := by decide +kernel
theorem dX8_leaves_30 : decode cX8_leaves 30 = .ok (.imul, 1) := by decide +kernel
theorem dX8_leaves_31 : decode cX8_leaves 31 = .ok (.iload_n 3, 1) := by decide +kernel
theorem dX8_leaves_32 : decode cX8_leaves 32 = .ok (.iadd, 1) := by decide +kernel
theorem dX8_leaves_33 : decode cX8_leaves 33 = .ok (.iconst 1, 1) := by decide +kernel
theorem dX8_leaves_34 : decode cX8_leaves 34 = .ok (.isub, 1) := by decide +kernel
theorem dX8_leaves_35 : decode cX8_leaves 35 = .ok (.iaload, 1) := by decide +kernel
theorem dX8_leaves_36 : decode cX8_leaves 36 = .ok (.iload 5, 2) := by decide +kernel
theorem dX8_leaves_38 : decode cX8_leaves 38 = .ok (.ishl, 1) := by decide +kernel
theorem dX8_leaves_39 : decode cX8_leaves 39 = .ok (.ldc 127, 2) := by decide +kernel
theorem dX8_leaves_41 : decode cX8_leaves 41 = .ok (.iand, 1) := by decide +kernel
theorem dX8_leaves_42 : decode cX8_leaves 42 = .ok (.ifCond .ne 9, 3) := by decide +kernel
theorem dX8_leaves_45 : decode cX8_leaves 45 = .ok (.iinc 5 1, 3) := by decide +kernel
theorem dX8_leaves_48 : decode cX8_leaves 48 = .ok (.goto (-25), 3) := by decide +kernel
theorem dX8_leaves_51 : decode cX8_leaves 51 = .ok (.aload_n 0, 1) := by decide +kernel
end
section
theorem dX8_leaves_52 : decode cX8_leaves 52 = .ok (.bipush 12, 2) := by decide +kernel
theorem dX8_leaves_54 : decode cX8_leaves 54 = .ok (.iload_n 2, 1) := by decide +kernel
theorem dX8_leaves_55 : decode cX8_leaves 55 = .ok (.iload 5, 2) := by decide +kernel
theorem dX8_leaves_57 : decode cX8_leaves 57 = .ok (.invokevirtual 128, 3) := by decide +kernel
theorem dX8_leaves_60 : decode cX8_leaves 60 = .ok (.aload_n 0, 1) := by decide +kernel
theorem dX8_leaves_61 : decode cX8_leaves 61 = .ok (.iload_n 1, 1) := by decide +kernel
theorem dX8_leaves_62 : decode cX8_leaves 62 = .ok (.iload_n 1, 1) := by decide +kernel
theorem dX8_leaves_63 : decode cX8_leaves 63 = .ok (.iload 5, 2) := by decide +kernel
theorem dX8_leaves_65 : decode cX8_leaves 65 = .ok (.invokevirtual 128, 3) := by decide +kernel
theorem dX8_leaves_68 : decode cX8_leaves 68 = .ok (.iload 4, 2) := by decide +kernel
theorem dX8_leaves_70 : decode cX8_leaves 70 = .ok (.iload_n 3, 1) := by decide +kernel
theorem dX8_leaves_71 : decode cX8_leaves 71 = .ok (.isub, 1) := by decide +kernel
theorem dX8_leaves_72 : decode cX8_leaves 72 = .ok (.istore 6, 2) := by decide +kernel
theorem dX8_leaves_74 : decode cX8_leaves 74 = .ok (.iload 6, 2) := by decide +kernel
theorem dX8_leaves_76 : decode cX8_leaves 76 = .ok (.ifCond .lt 17, 3) := by decide +kernel
theorem dX8_leaves_79 : decode cX8_leaves 79 = .ok (.aload_n 0, 1) := by decide +kernel
theorem dX8_leaves_80 : decode cX8_leaves 80 = .ok (.iload_n 1, 1) := by decide +kernel
theorem dX8_leaves_81 : decode cX8_leaves 81 = .ok (.iload 6, 2) := by decide +kernel
theorem dX8_leaves_83 : decode cX8_leaves 83 = .ok (.iload_n 3, 1) := by decide +kernel
theorem dX8_leaves_84 : decode cX8_leaves 84 = .ok (.invokevirtual 132, 3) := by decide +kernel
theorem dX8_leaves_87 : decode cX8_leaves 87 = .ok (.iinc 6 (-1), 3) := by decide +kernel
theorem dX8_leaves_90 : decode cX8_leaves 90 = .ok (.goto (-16), 3) := by decide +kernel
theorem dX8_leaves_93 : decode cX8_leaves 93 = .ok (.aload_n 0, 1) := by decide +kernel
theorem dX8_leaves_94 : decode cX8_leaves 94 = .ok (.iload_n 1, 1) := by decide +kernel
theorem dX8_leaves_95 : decode cX8_leaves 95 = .ok (.iload 5, 2) := by decide +kernel
theorem dX8_leaves_97 : decode cX8_leaves 97 = .ok (.invokevirtual 135, 3) := by decide +kernel
theorem dX8_leaves_100 : decode cX8_leaves 100 = .ok (.return_, 1) := by decide +kernel
theorem dX8_bit_0 : decode cX8_bit 0 = .ok (.aload_n 0, 1) := by decide +kernel
theorem dX8_bit_1 : decode cX8_bit 1 = .ok (.getfield 7, 3) := by decide +kernel
theorem dX8_bit_4 : decode cX8_bit 4 = .ok (.bipush 84, 2) := by decide +kernel
theorem dX8_bit_6 : decode cX8_bit 6 = .ok (.iload_n 1, 1) := by decide +kernel
theorem dX8_bit_7 : decode cX8_bit 7 = .ok (.imul, 1) := by decide +kernel
theorem dX8_bit_8 : decode cX8_bit 8 = .ok (.iload_n 2, 1) := by decide +kernel
theorem dX8_bit_9 : decode cX8_bit 9 = .ok (.bipush 16, 2) := by decide +kernel
theorem dX8_bit_11 : decode cX8_bit 11 = .ok (.idiv, 1) := by decide +kernel
theorem dX8_bit_12 : decode cX8_bit 12 = .ok (.iadd, 1) := by decide +kernel
theorem dX8_bit_13 : decode cX8_bit 13 = .ok (.iaload, 1) := by decide +kernel
theorem dX8_bit_14 : decode cX8_bit 14 = .ok (.iload_n 2, 1) := by decide +kernel
theorem dX8_bit_15 : decode cX8_bit 15 = .ok (.bipush 16, 2) := by decide +kernel
theorem dX8_bit_17 : decode cX8_bit 17 = .ok (.irem, 1) := by decide +kernel
theorem dX8_bit_18 : decode cX8_bit 18 = .ok (.ishr, 1) := by decide +kernel
theorem dX8_bit_19 : decode cX8_bit 19 = .ok (.iconst 1, 1) := by decide +kernel
theorem dX8_bit_20 : decode cX8_bit 20 = .ok (.iand, 1) := by decide +kernel
theorem dX8_bit_21 : decode cX8_bit 21 = .ok (.iconst 1, 1) := by decide +kernel
theorem dX8_bit_22 : decode cX8_bit 22 = .ok (.if_icmp .ne 7, 3) := by decide +kernel
theorem dX8_bit_25 : decode cX8_bit 25 = .ok (.iconst 1, 1) := by decide +kernel
theorem dX8_bit_26 : decode cX8_bit 26 = .ok (.goto 4, 3) := by decide +kernel
theorem dX8_bit_29 : decode cX8_bit 29 = .ok (.iconst 0, 1) := by decide +kernel
theorem dX8_bit_30 : decode cX8_bit 30 = .ok (.ireturn, 1) := by decide +kernel
theorem dX8_powers_0 : decode cX8_powers 0 = .ok (.aload_n 0, 1) := by decide +kernel
theorem dX8_powers_1 : decode cX8_powers 1 = .ok (.bipush 9, 2) := by decide +kernel
theorem dX8_powers_3 : decode cX8_powers 3 = .ok (.iload_n 1, 1) := by decide +kernel
theorem dX8_powers_4 : decode cX8_powers 4 = .ok (.invokevirtual 139, 3) := by decide +kernel
theorem dX8_powers_7 : decode cX8_powers 7 = .ok (.aload_n 0, 1) := by decide +kernel
theorem dX8_powers_8 : decode cX8_powers 8 = .ok (.bipush 9, 2) := by decide +kernel
theorem dX8_powers_10 : decode cX8_powers 10 = .ok (.iload_n 3, 1) := by decide +kernel
theorem dX8_powers_11 : decode cX8_powers 11 = .ok (.invokevirtual 142, 3) := by decide +kernel
theorem dX8_powers_14 : decode cX8_powers 14 = .ok (.aload_n 0, 1) := by decide +kernel
theorem dX8_powers_15 : decode cX8_powers 15 = .ok (.bipush 10, 2) := by decide +kernel
theorem dX8_powers_17 : decode cX8_powers 17 = .ok (.iconst 1, 1) := by decide +kernel
theorem dX8_powers_18 : decode cX8_powers 18 = .ok (.invokevirtual 145, 3) := by decide +kernel
theorem dX8_powers_21 : decode cX8_powers 21 = .ok (.bipush 16, 2) := by decide +kernel
theorem dX8_powers_23 : decode cX8_powers 23 = .ok (.aload_n 0, 1) := by decide +kernel
theorem dX8_powers_24 : decode cX8_powers 24 = .ok (.iload_n 2, 1) := by decide +kernel
theorem dX8_powers_25 : decode cX8_powers 25 = .ok (.invokevirtual 120, 3) := by decide +kernel
theorem dX8_powers_28 : decode cX8_powers 28 = .ok (.imul, 1) := by decide +kernel
theorem dX8_powers_29 : decode cX8_powers 29 = .ok (.iconst 1, 1) := by decide +kernel
theorem dX8_powers_30 : decode cX8_powers 30 = .ok (.isub, 1) := by decide +kernel
theorem dX8_powers_31 : decode cX8_powers 31 = .ok (.istore 4, 2) := by decide +kernel
theorem dX8_powers_33 : decode cX8_powers 33 = .ok (.iload 4, 2) := by decide +kernel
theorem dX8_powers_35 : decode cX8_powers 35 = .ok (.ifCond .lt 69, 3) := by decide +kernel
theorem dX8_powers_38 : decode cX8_powers 38 = .ok (.aload_n 0, 1) := by decide +kernel
theorem dX8_powers_39 : decode cX8_powers 39 = .ok (.bipush 11, 2) := by decide +kernel
theorem dX8_powers_41 : decode cX8_powers 41 = .ok (.bipush 10, 2) := by decide +kernel
theorem dX8_powers_43 : decode cX8_powers 43 = .ok (.bipush 10, 2) := by decide +kernel
theorem dX8_powers_45 : decode cX8_powers 45 = .ok (.invokevirtual 148, 3) := by decide +kernel
theorem dX8_powers_48 : decode cX8_powers 48 = .ok (.aload_n 0, 1) := by decide +kernel
theorem dX8_powers_49 : decode cX8_powers 49 = .ok (.bipush 11, 2) := by decide +kernel
theorem dX8_powers_51 : decode cX8_powers 51 = .ok (.iload_n 3, 1) := by decide +kernel
theorem dX8_powers_52 : decode cX8_powers 52 = .ok (.invokevirtual 142, 3) := by decide +kernel
theorem dX8_powers_55 : decode cX8_powers 55 = .ok (.aload_n 0, 1) := by decide +kernel
theorem dX8_powers_56 : decode cX8_powers 56 = .ok (.bipush 10, 2) := by decide +kernel
theorem dX8_powers_58 : decode cX8_powers 58 = .ok (.bipush 11, 2) := by decide +kernel
theorem dX8_powers_60 : decode cX8_powers 60 = .ok (.invokevirtual 139, 3) := by decide +kernel
theorem dX8_powers_63 : decode cX8_powers 63 = .ok (.aload_n 0, 1) := by decide +kernel
theorem dX8_powers_64 : decode cX8_powers 64 = .ok (.iload_n 2, 1) := by decide +kernel
theorem dX8_powers_65 : decode cX8_powers 65 = .ok (.iload 4, 2) := by decide +kernel
theorem dX8_powers_67 : decode cX8_powers 67 = .ok (.invokevirtual 151, 3) := by decide +kernel
theorem dX8_powers_70 : decode cX8_powers 70 = .ok (.ifCond .eq 28, 3) := by decide +kernel
theorem dX8_powers_73 : decode cX8_powers 73 = .ok (.aload_n 0, 1) := by decide +kernel
theorem dX8_powers_74 : decode cX8_powers 74 = .ok (.bipush 11, 2) := by decide +kernel
theorem dX8_powers_76 : decode cX8_powers 76 = .ok (.bipush 10, 2) := by decide +kernel
theorem dX8_powers_78 : decode cX8_powers 78 = .ok (.bipush 9, 2) := by decide +kernel
theorem dX8_powers_80 : decode cX8_powers 80 = .ok (.invokevirtual 148, 3) := by decide +kernel
theorem dX8_powers_83 : decode cX8_powers 83 = .ok (.aload_n 0, 1) := by decide +kernel
theorem dX8_powers_84 : decode cX8_powers 84 = .ok (.bipush 11, 2) := by decide +kernel
theorem dX8_powers_86 : decode cX8_powers 86 = .ok (.iload_n 3, 1) := by decide +kernel
theorem dX8_powers_87 : decode cX8_powers 87 = .ok (.invokevirtual 142, 3) := by decide +kernel
theorem dX8_powers_90 : decode cX8_powers 90 = .ok (.aload_n 0, 1) := by decide +kernel
theorem dX8_powers_91 : decode cX8_powers 91 = .ok (.bipush 10, 2) := by decide +kernel
theorem dX8_powers_93 : decode cX8_powers 93 = .ok (.bipush 11, 2) := by decide +kernel
theorem dX8_powers_95 : decode cX8_powers 95 = .ok (.invokevirtual 139, 3) := by decide +kernel
theorem dX8_powers_98 : decode cX8_powers 98 = .ok (.iinc 4 (-1), 3) := by decide +kernel
theorem dX8_powers_101 : decode cX8_powers 101 = .ok (.goto (-68), 3) := by decide +kernel
theorem dX8_powers_104 : decode cX8_powers 104 = .ok (.return_, 1) := by decide +kernel
theorem dX8_byteAt_0 : decode cX8_byteAt 0 = .ok (.iload_n 2, 1) := by decide +kernel
theorem dX8_byteAt_1 : decode cX8_byteAt 1 = .ok (.iconst 1, 1) := by decide +kernel
theorem dX8_byteAt_2 : decode cX8_byteAt 2 = .ok (.isub, 1) := by decide +kernel
theorem dX8_byteAt_3 : decode cX8_byteAt 3 = .ok (.iload_n 3, 1) := by decide +kernel
theorem dX8_byteAt_4 : decode cX8_byteAt 4 = .ok (.isub, 1) := by decide +kernel
theorem dX8_byteAt_5 : decode cX8_byteAt 5 = .ok (.istore 4, 2) := by decide +kernel
theorem dX8_byteAt_7 : decode cX8_byteAt 7 = .ok (.aload_n 0, 1) := by decide +kernel
theorem dX8_byteAt_8 : decode cX8_byteAt 8 = .ok (.getfield 7, 3) := by decide +kernel
theorem dX8_byteAt_11 : decode cX8_byteAt 11 = .ok (.bipush 84, 2) := by decide +kernel
theorem dX8_byteAt_13 : decode cX8_byteAt 13 = .ok (.iload_n 1, 1) := by decide +kernel
theorem dX8_byteAt_14 : decode cX8_byteAt 14 = .ok (.imul, 1) := by decide +kernel
theorem dX8_byteAt_15 : decode cX8_byteAt 15 = .ok (.iload 4, 2) := by decide +kernel
theorem dX8_byteAt_17 : decode cX8_byteAt 17 = .ok (.iconst 2, 1) := by decide +kernel
theorem dX8_byteAt_18 : decode cX8_byteAt 18 = .ok (.idiv, 1) := by decide +kernel
theorem dX8_byteAt_19 : decode cX8_byteAt 19 = .ok (.iadd, 1) := by decide +kernel
theorem dX8_byteAt_20 : decode cX8_byteAt 20 = .ok (.iaload, 1) := by decide +kernel
theorem dX8_byteAt_21 : decode cX8_byteAt 21 = .ok (.bipush 8, 2) := by decide +kernel
theorem dX8_byteAt_23 : decode cX8_byteAt 23 = .ok (.iload 4, 2) := by decide +kernel
theorem dX8_byteAt_25 : decode cX8_byteAt 25 = .ok (.iconst 2, 1) := by decide +kernel
theorem dX8_byteAt_26 : decode cX8_byteAt 26 = .ok (.irem, 1) := by decide +kernel
theorem dX8_byteAt_27 : decode cX8_byteAt 27 = .ok (.imul, 1) := by decide +kernel
theorem dX8_byteAt_28 : decode cX8_byteAt 28 = .ok (.ishr, 1) := by decide +kernel
theorem dX8_byteAt_29 : decode cX8_byteAt 29 = .ok (.sipush 255, 3) := by decide +kernel
theorem dX8_byteAt_32 : decode cX8_byteAt 32 = .ok (.iand, 1) := by decide +kernel
theorem dX8_byteAt_33 : decode cX8_byteAt 33 = .ok (.ireturn, 1) := by decide +kernel
theorem dX8_byteTo_0 : decode cX8_byteTo 0 = .ok (.iload_n 2, 1) := by decide +kernel
theorem dX8_byteTo_1 : decode cX8_byteTo 1 = .ok (.iconst 1, 1) := by decide +kernel
theorem dX8_byteTo_2 : decode cX8_byteTo 2 = .ok (.isub, 1) := by decide +kernel
theorem dX8_byteTo_3 : decode cX8_byteTo 3 = .ok (.iload_n 3, 1) := by decide +kernel
theorem dX8_byteTo_4 : decode cX8_byteTo 4 = .ok (.isub, 1) := by decide +kernel
theorem dX8_byteTo_5 : decode cX8_byteTo 5 = .ok (.istore 5, 2) := by decide +kernel
theorem dX8_byteTo_7 : decode cX8_byteTo 7 = .ok (.bipush 84, 2) := by decide +kernel
theorem dX8_byteTo_9 : decode cX8_byteTo 9 = .ok (.iload_n 1, 1) := by decide +kernel
theorem dX8_byteTo_10 : decode cX8_byteTo 10 = .ok (.imul, 1) := by decide +kernel
theorem dX8_byteTo_11 : decode cX8_byteTo 11 = .ok (.iload 5, 2) := by decide +kernel
theorem dX8_byteTo_13 : decode cX8_byteTo 13 = .ok (.iconst 2, 1) := by decide +kernel
theorem dX8_byteTo_14 : decode cX8_byteTo 14 = .ok (.idiv, 1) := by decide +kernel
theorem dX8_byteTo_15 : decode cX8_byteTo 15 = .ok (.iadd, 1) := by decide +kernel
theorem dX8_byteTo_16 : decode cX8_byteTo 16 = .ok (.istore 6, 2) := by decide +kernel
theorem dX8_byteTo_18 : decode cX8_byteTo 18 = .ok (.aload_n 0, 1) := by decide +kernel
theorem dX8_byteTo_19 : decode cX8_byteTo 19 = .ok (.getfield 7, 3) := by decide +kernel
theorem dX8_byteTo_22 : decode cX8_byteTo 22 = .ok (.iload 6, 2) := by decide +kernel
theorem dX8_byteTo_24 : decode cX8_byteTo 24 = .ok (.iload 5, 2) := by decide +kernel
theorem dX8_byteTo_26 : decode cX8_byteTo 26 = .ok (.iconst 2, 1) := by decide +kernel
theorem dX8_byteTo_27 : decode cX8_byteTo 27 = .ok (.irem, 1) := by decide +kernel
theorem dX8_byteTo_28 : decode cX8_byteTo 28 = .ok (.ifCond .ne 19, 3) := by decide +kernel
theorem dX8_byteTo_31 : decode cX8_byteTo 31 = .ok (.aload_n 0, 1) := by decide +kernel
theorem dX8_byteTo_32 : decode cX8_byteTo 32 = .ok (.getfield 7, 3) := by decide +kernel
theorem dX8_byteTo_35 : decode cX8_byteTo 35 = .ok (.iload 6, 2) := by decide +kernel
theorem dX8_byteTo_37 : decode cX8_byteTo 37 = .ok (.iaload, 1) := by decide +kernel
theorem dX8_byteTo_38 : decode cX8_byteTo 38 = .ok (.ldc 155, 2) := by decide +kernel
theorem dX8_byteTo_40 : decode cX8_byteTo 40 = .ok (.iand, 1) := by decide +kernel
theorem dX8_byteTo_41 : decode cX8_byteTo 41 = .ok (.iload 4, 2) := by decide +kernel
theorem dX8_byteTo_43 : decode cX8_byteTo 43 = .ok (.ior, 1) := by decide +kernel
theorem dX8_byteTo_44 : decode cX8_byteTo 44 = .ok (.goto 20, 3) := by decide +kernel
theorem dX8_byteTo_47 : decode cX8_byteTo 47 = .ok (.aload_n 0, 1) := by decide +kernel
theorem dX8_byteTo_48 : decode cX8_byteTo 48 = .ok (.getfield 7, 3) := by decide +kernel
theorem dX8_byteTo_51 : decode cX8_byteTo 51 = .ok (.iload 6, 2) := by decide +kernel
theorem dX8_byteTo_53 : decode cX8_byteTo 53 = .ok (.iaload, 1) := by decide +kernel
theorem dX8_byteTo_54 : decode cX8_byteTo 54 = .ok (.sipush 255, 3) := by decide +kernel
theorem dX8_byteTo_57 : decode cX8_byteTo 57 = .ok (.iand, 1) := by decide +kernel
theorem dX8_byteTo_58 : decode cX8_byteTo 58 = .ok (.iload 4, 2) := by decide +kernel
theorem dX8_byteTo_60 : decode cX8_byteTo 60 = .ok (.bipush 8, 2) := by decide +kernel
theorem dX8_byteTo_62 : decode cX8_byteTo 62 = .ok (.ishl, 1) := by decide +kernel
theorem dX8_byteTo_63 : decode cX8_byteTo 63 = .ok (.ior, 1) := by decide +kernel
theorem dX8_byteTo_64 : decode cX8_byteTo 64 = .ok (.iastore, 1) := by decide +kernel
theorem dX8_byteTo_65 : decode cX8_byteTo 65 = .ok (.return_, 1) := by decide +kernel
theorem dX8_padded_0 : decode cX8_padded 0 = .ok (.iload_n 1, 1) := by decide +kernel
theorem dX8_padded_1 : decode cX8_padded 1 = .ok (.aload_n 0, 1) := by decide +kernel
theorem dX8_padded_2 : decode cX8_padded 2 = .ok (.getfield 156, 3) := by decide +kernel
theorem dX8_padded_5 : decode cX8_padded 5 = .ok (.if_icmp .ge 10, 3) := by decide +kernel
theorem dX8_padded_8 : decode cX8_padded 8 = .ok (.aload_n 0, 1) := by decide +kernel
theorem dX8_padded_9 : decode cX8_padded 9 = .ok (.getfield 13, 3) := by decide +kernel
theorem dX8_padded_12 : decode cX8_padded 12 = .ok (.iload_n 1, 1) := by decide +kernel
theorem dX8_padded_13 : decode cX8_padded 13 = .ok (.iaload, 1) := by decide +kernel
theorem dX8_padded_14 : decode cX8_padded 14 = .ok (.ireturn, 1) := by decide +kernel
theorem dX8_padded_15 : decode cX8_padded 15 = .ok (.iload_n 1, 1) := by decide +kernel
theorem dX8_padded_16 : decode cX8_padded 16 = .ok (.aload_n 0, 1) := by decide +kernel
theorem dX8_padded_17 : decode cX8_padded 17 = .ok (.getfield 156, 3) := by decide +kernel
theorem dX8_padded_20 : decode cX8_padded 20 = .ok (.if_icmp .ne 7, 3) := by decide +kernel
theorem dX8_padded_23 : decode cX8_padded 23 = .ok (.sipush 128, 3) := by decide +kernel
theorem dX8_padded_26 : decode cX8_padded 26 = .ok (.ireturn, 1) := by decide +kernel
theorem dX8_padded_27 : decode cX8_padded 27 = .ok (.iload_n 1, 1) := by decide +kernel
theorem dX8_padded_28 : decode cX8_padded 28 = .ok (.iload_n 2, 1) := by decide +kernel
theorem dX8_padded_29 : decode cX8_padded 29 = .ok (.iconst 4, 1) := by decide +kernel
theorem dX8_padded_30 : decode cX8_padded 30 = .ok (.isub, 1) := by decide +kernel
theorem dX8_padded_31 : decode cX8_padded 31 = .ok (.if_icmp .ge 7, 3) := by decide +kernel
theorem dX8_padded_34 : decode cX8_padded 34 = .ok (.iconst 0, 1) := by decide +kernel
theorem dX8_padded_35 : decode cX8_padded 35 = .ok (.goto 23, 3) := by decide +kernel
theorem dX8_padded_38 : decode cX8_padded 38 = .ok (.bipush 8, 2) := by decide +kernel
theorem dX8_padded_40 : decode cX8_padded 40 = .ok (.aload_n 0, 1) := by decide +kernel
theorem dX8_padded_41 : decode cX8_padded 41 = .ok (.getfield 156, 3) := by decide +kernel
theorem dX8_padded_44 : decode cX8_padded 44 = .ok (.imul, 1) := by decide +kernel
theorem dX8_padded_45 : decode cX8_padded 45 = .ok (.bipush 8, 2) := by decide +kernel
theorem dX8_padded_47 : decode cX8_padded 47 = .ok (.iload_n 2, 1) := by decide +kernel
theorem dX8_padded_48 : decode cX8_padded 48 = .ok (.iconst 1, 1) := by decide +kernel
theorem dX8_padded_49 : decode cX8_padded 49 = .ok (.isub, 1) := by decide +kernel
theorem dX8_padded_50 : decode cX8_padded 50 = .ok (.iload_n 1, 1) := by decide +kernel
theorem dX8_padded_51 : decode cX8_padded 51 = .ok (.isub, 1) := by decide +kernel
theorem dX8_padded_52 : decode cX8_padded 52 = .ok (.imul, 1) := by decide +kernel
theorem dX8_padded_53 : decode cX8_padded 53 = .ok (.iushr, 1) := by decide +kernel
theorem dX8_padded_54 : decode cX8_padded 54 = .ok (.sipush 255, 3) := by decide +kernel
theorem dX8_padded_57 : decode cX8_padded 57 = .ok (.iand, 1) := by decide +kernel
theorem dX8_padded_58 : decode cX8_padded 58 = .ok (.ireturn, 1) := by decide +kernel
theorem dX8_turned_0 : decode cX8_turned 0 = .ok (.iload_n 0, 1) := by decide +kernel
theorem dX8_turned_1 : decode cX8_turned 1 = .ok (.iload_n 1, 1) := by decide +kernel
theorem dX8_turned_2 : decode cX8_turned 2 = .ok (.iushr, 1) := by decide +kernel
theorem dX8_turned_3 : decode cX8_turned 3 = .ok (.iload_n 0, 1) := by decide +kernel
theorem dX8_turned_4 : decode cX8_turned 4 = .ok (.bipush 32, 2) := by decide +kernel
theorem dX8_turned_6 : decode cX8_turned 6 = .ok (.iload_n 1, 1) := by decide +kernel
theorem dX8_turned_7 : decode cX8_turned 7 = .ok (.isub, 1) := by decide +kernel
theorem dX8_turned_8 : decode cX8_turned 8 = .ok (.ishl, 1) := by decide +kernel
theorem dX8_turned_9 : decode cX8_turned 9 = .ok (.ior, 1) := by decide +kernel
theorem dX8_turned_10 : decode cX8_turned 10 = .ok (.ireturn, 1) := by decide +kernel
theorem dX8_block_0 : decode cX8_block 0 = .ok (.iconst 0, 1) := by decide +kernel
theorem dX8_block_1 : decode cX8_block 1 = .ok (.istore_n 3, 1) := by decide +kernel
theorem dX8_block_2 : decode cX8_block 2 = .ok (.iload_n 3, 1) := by decide +kernel
theorem dX8_block_3 : decode cX8_block 3 = .ok (.bipush 16, 2) := by decide +kernel
theorem dX8_block_5 : decode cX8_block 5 = .ok (.if_icmp .ge 68, 3) := by decide +kernel
theorem dX8_block_8 : decode cX8_block 8 = .ok (.iload_n 1, 1) := by decide +kernel
theorem dX8_block_9 : decode cX8_block 9 = .ok (.iconst 4, 1) := by decide +kernel
theorem dX8_block_10 : decode cX8_block 10 = .ok (.iload_n 3, 1) := by decide +kernel
theorem dX8_block_11 : decode cX8_block 11 = .ok (.imul, 1) := by decide +kernel
theorem dX8_block_12 : decode cX8_block 12 = .ok (.iadd, 1) := by decide +kernel
theorem dX8_block_13 : decode cX8_block 13 = .ok (.istore 4, 2) := by decide +kernel
theorem dX8_block_15 : decode cX8_block 15 = .ok (.aload_n 0, 1) := by decide +kernel
theorem dX8_block_16 : decode cX8_block 16 = .ok (.getfield 19, 3) := by decide +kernel
theorem dX8_block_19 : decode cX8_block 19 = .ok (.iload_n 3, 1) := by decide +kernel
theorem dX8_block_20 : decode cX8_block 20 = .ok (.aload_n 0, 1) := by decide +kernel
theorem dX8_block_21 : decode cX8_block 21 = .ok (.iload 4, 2) := by decide +kernel
theorem dX8_block_23 : decode cX8_block 23 = .ok (.iload_n 2, 1) := by decide +kernel
theorem dX8_block_24 : decode cX8_block 24 = .ok (.invokevirtual 159, 3) := by decide +kernel
theorem dX8_block_27 : decode cX8_block 27 = .ok (.bipush 24, 2) := by decide +kernel
theorem dX8_block_29 : decode cX8_block 29 = .ok (.ishl, 1) := by decide +kernel
theorem dX8_block_30 : decode cX8_block 30 = .ok (.aload_n 0, 1) := by decide +kernel
theorem dX8_block_31 : decode cX8_block 31 = .ok (.iload 4, 2) := by decide +kernel
theorem dX8_block_33 : decode cX8_block 33 = .ok (.iconst 1, 1) := by decide +kernel
theorem dX8_block_34 : decode cX8_block 34 = .ok (.iadd, 1) := by decide +kernel
theorem dX8_block_35 : decode cX8_block 35 = .ok (.iload_n 2, 1) := by decide +kernel
theorem dX8_block_36 : decode cX8_block 36 = .ok (.invokevirtual 159, 3) := by decide +kernel
theorem dX8_block_39 : decode cX8_block 39 = .ok (.bipush 16, 2) := by decide +kernel
theorem dX8_block_41 : decode cX8_block 41 = .ok (.ishl, 1) := by decide +kernel
theorem dX8_block_42 : decode cX8_block 42 = .ok (.ior, 1) := by decide +kernel
theorem dX8_block_43 : decode cX8_block 43 = .ok (.aload_n 0, 1) := by decide +kernel
theorem dX8_block_44 : decode cX8_block 44 = .ok (.iload 4, 2) := by decide +kernel
theorem dX8_block_46 : decode cX8_block 46 = .ok (.iconst 2, 1) := by decide +kernel
theorem dX8_block_47 : decode cX8_block 47 = .ok (.iadd, 1) := by decide +kernel
theorem dX8_block_48 : decode cX8_block 48 = .ok (.iload_n 2, 1) := by decide +kernel
theorem dX8_block_49 : decode cX8_block 49 = .ok (.invokevirtual 159, 3) := by decide +kernel
theorem dX8_block_52 : decode cX8_block 52 = .ok (.bipush 8, 2) := by decide +kernel
theorem dX8_block_54 : decode cX8_block 54 = .ok (.ishl, 1) := by decide +kernel
theorem dX8_block_55 : decode cX8_block 55 = .ok (.ior, 1) := by decide +kernel
theorem dX8_block_56 : decode cX8_block 56 = .ok (.aload_n 0, 1) := by decide +kernel
theorem dX8_block_57 : decode cX8_block 57 = .ok (.iload 4, 2) := by decide +kernel
theorem dX8_block_59 : decode cX8_block 59 = .ok (.iconst 3, 1) := by decide +kernel
theorem dX8_block_60 : decode cX8_block 60 = .ok (.iadd, 1) := by decide +kernel
theorem dX8_block_61 : decode cX8_block 61 = .ok (.iload_n 2, 1) := by decide +kernel
theorem dX8_block_62 : decode cX8_block 62 = .ok (.invokevirtual 159, 3) := by decide +kernel
theorem dX8_block_65 : decode cX8_block 65 = .ok (.ior, 1) := by decide +kernel
theorem dX8_block_66 : decode cX8_block 66 = .ok (.iastore, 1) := by decide +kernel
theorem dX8_block_67 : decode cX8_block 67 = .ok (.iinc 3 1, 3) := by decide +kernel
theorem dX8_block_70 : decode cX8_block 70 = .ok (.goto (-68), 3) := by decide +kernel
theorem dX8_block_73 : decode cX8_block 73 = .ok (.bipush 16, 2) := by decide +kernel
theorem dX8_block_75 : decode cX8_block 75 = .ok (.istore_n 3, 1) := by decide +kernel
theorem dX8_block_76 : decode cX8_block 76 = .ok (.iload_n 3, 1) := by decide +kernel
theorem dX8_block_77 : decode cX8_block 77 = .ok (.bipush 64, 2) := by decide +kernel
theorem dX8_block_79 : decode cX8_block 79 = .ok (.if_icmp .ge 98, 3) := by decide +kernel
theorem dX8_block_82 : decode cX8_block 82 = .ok (.aload_n 0, 1) := by decide +kernel
theorem dX8_block_83 : decode cX8_block 83 = .ok (.getfield 19, 3) := by decide +kernel
theorem dX8_block_86 : decode cX8_block 86 = .ok (.iload_n 3, 1) := by decide +kernel
theorem dX8_block_87 : decode cX8_block 87 = .ok (.bipush 15, 2) := by decide +kernel
theorem dX8_block_89 : decode cX8_block 89 = .ok (.isub, 1) := by decide +kernel
theorem dX8_block_90 : decode cX8_block 90 = .ok (.iaload, 1) := by decide +kernel
theorem dX8_block_91 : decode cX8_block 91 = .ok (.istore 4, 2) := by decide +kernel
theorem dX8_block_93 : decode cX8_block 93 = .ok (.aload_n 0, 1) := by decide +kernel
theorem dX8_block_94 : decode cX8_block 94 = .ok (.getfield 19, 3) := by decide +kernel
theorem dX8_block_97 : decode cX8_block 97 = .ok (.iload_n 3, 1) := by decide +kernel
theorem dX8_block_98 : decode cX8_block 98 = .ok (.iconst 2, 1) := by decide +kernel
theorem dX8_block_99 : decode cX8_block 99 = .ok (.isub, 1) := by decide +kernel
theorem dX8_block_100 : decode cX8_block 100 = .ok (.iaload, 1) := by decide +kernel
theorem dX8_block_101 : decode cX8_block 101 = .ok (.istore 5, 2) := by decide +kernel
theorem dX8_block_103 : decode cX8_block 103 = .ok (.aload_n 0, 1) := by decide +kernel
theorem dX8_block_104 : decode cX8_block 104 = .ok (.getfield 19, 3) := by decide +kernel
theorem dX8_block_107 : decode cX8_block 107 = .ok (.iload_n 3, 1) := by decide +kernel
theorem dX8_block_108 : decode cX8_block 108 = .ok (.aload_n 0, 1) := by decide +kernel
theorem dX8_block_109 : decode cX8_block 109 = .ok (.getfield 19, 3) := by decide +kernel
theorem dX8_block_112 : decode cX8_block 112 = .ok (.iload_n 3, 1) := by decide +kernel
theorem dX8_block_113 : decode cX8_block 113 = .ok (.bipush 16, 2) := by decide +kernel
theorem dX8_block_115 : decode cX8_block 115 = .ok (.isub, 1) := by decide +kernel
theorem dX8_block_116 : decode cX8_block 116 = .ok (.iaload, 1) := by decide +kernel
theorem dX8_block_117 : decode cX8_block 117 = .ok (.iload 4, 2) := by decide +kernel
theorem dX8_block_119 : decode cX8_block 119 = .ok (.bipush 7, 2) := by decide +kernel
theorem dX8_block_121 : decode cX8_block 121 = .ok (.invokestatic 163, 3) := by decide +kernel
theorem dX8_block_124 : decode cX8_block 124 = .ok (.iload 4, 2) := by decide +kernel
theorem dX8_block_126 : decode cX8_block 126 = .ok (.bipush 18, 2) := by decide +kernel
theorem dX8_block_128 : decode cX8_block 128 = .ok (.invokestatic 163, 3) := by decide +kernel
theorem dX8_block_131 : decode cX8_block 131 = .ok (.ixor, 1) := by decide +kernel
theorem dX8_block_132 : decode cX8_block 132 = .ok (.iload 4, 2) := by decide +kernel
theorem dX8_block_134 : decode cX8_block 134 = .ok (.iconst 3, 1) := by decide +kernel
theorem dX8_block_135 : decode cX8_block 135 = .ok (.iushr, 1) := by decide +kernel
theorem dX8_block_136 : decode cX8_block 136 = .ok (.ixor, 1) := by decide +kernel
theorem dX8_block_137 : decode cX8_block 137 = .ok (.iadd, 1) := by decide +kernel
theorem dX8_block_138 : decode cX8_block 138 = .ok (.aload_n 0, 1) := by decide +kernel
theorem dX8_block_139 : decode cX8_block 139 = .ok (.getfield 19, 3) := by decide +kernel
theorem dX8_block_142 : decode cX8_block 142 = .ok (.iload_n 3, 1) := by decide +kernel
theorem dX8_block_143 : decode cX8_block 143 = .ok (.bipush 7, 2) := by decide +kernel
theorem dX8_block_145 : decode cX8_block 145 = .ok (.isub, 1) := by decide +kernel
theorem dX8_block_146 : decode cX8_block 146 = .ok (.iaload, 1) := by decide +kernel
theorem dX8_block_147 : decode cX8_block 147 = .ok (.iadd, 1) := by decide +kernel
theorem dX8_block_148 : decode cX8_block 148 = .ok (.iload 5, 2) := by decide +kernel
theorem dX8_block_150 : decode cX8_block 150 = .ok (.bipush 17, 2) := by decide +kernel
theorem dX8_block_152 : decode cX8_block 152 = .ok (.invokestatic 163, 3) := by decide +kernel
theorem dX8_block_155 : decode cX8_block 155 = .ok (.iload 5, 2) := by decide +kernel
theorem dX8_block_157 : decode cX8_block 157 = .ok (.bipush 19, 2) := by decide +kernel
theorem dX8_block_159 : decode cX8_block 159 = .ok (.invokestatic 163, 3) := by decide +kernel
theorem dX8_block_162 : decode cX8_block 162 = .ok (.ixor, 1) := by decide +kernel
theorem dX8_block_163 : decode cX8_block 163 = .ok (.iload 5, 2) := by decide +kernel
theorem dX8_block_165 : decode cX8_block 165 = .ok (.bipush 10, 2) := by decide +kernel
theorem dX8_block_167 : decode cX8_block 167 = .ok (.iushr, 1) := by decide +kernel
theorem dX8_block_168 : decode cX8_block 168 = .ok (.ixor, 1) := by decide +kernel
theorem dX8_block_169 : decode cX8_block 169 = .ok (.iadd, 1) := by decide +kernel
theorem dX8_block_170 : decode cX8_block 170 = .ok (.iastore, 1) := by decide +kernel
theorem dX8_block_171 : decode cX8_block 171 = .ok (.iinc 3 1, 3) := by decide +kernel
theorem dX8_block_174 : decode cX8_block 174 = .ok (.goto (-98), 3) := by decide +kernel
theorem dX8_block_177 : decode cX8_block 177 = .ok (.aload_n 0, 1) := by decide +kernel
theorem dX8_block_178 : decode cX8_block 178 = .ok (.getfield 16, 3) := by decide +kernel
theorem dX8_block_181 : decode cX8_block 181 = .ok (.iconst 0, 1) := by decide +kernel
theorem dX8_block_182 : decode cX8_block 182 = .ok (.iaload, 1) := by decide +kernel
theorem dX8_block_183 : decode cX8_block 183 = .ok (.istore_n 3, 1) := by decide +kernel
theorem dX8_block_184 : decode cX8_block 184 = .ok (.aload_n 0, 1) := by decide +kernel
theorem dX8_block_185 : decode cX8_block 185 = .ok (.getfield 16, 3) := by decide +kernel
theorem dX8_block_188 : decode cX8_block 188 = .ok (.iconst 1, 1) := by decide +kernel
theorem dX8_block_189 : decode cX8_block 189 = .ok (.iaload, 1) := by decide +kernel
theorem dX8_block_190 : decode cX8_block 190 = .ok (.istore 4, 2) := by decide +kernel
theorem dX8_block_192 : decode cX8_block 192 = .ok (.aload_n 0, 1) := by decide +kernel
theorem dX8_block_193 : decode cX8_block 193 = .ok (.getfield 16, 3) := by decide +kernel
theorem dX8_block_196 : decode cX8_block 196 = .ok (.iconst 2, 1) := by decide +kernel
theorem dX8_block_197 : decode cX8_block 197 = .ok (.iaload, 1) := by decide +kernel
theorem dX8_block_198 : decode cX8_block 198 = .ok (.istore 5, 2) := by decide +kernel
theorem dX8_block_200 : decode cX8_block 200 = .ok (.aload_n 0, 1) := by decide +kernel
theorem dX8_block_201 : decode cX8_block 201 = .ok (.getfield 16, 3) := by decide +kernel
theorem dX8_block_204 : decode cX8_block 204 = .ok (.iconst 3, 1) := by decide +kernel
theorem dX8_block_205 : decode cX8_block 205 = .ok (.iaload, 1) := by decide +kernel
theorem dX8_block_206 : decode cX8_block 206 = .ok (.istore 6, 2) := by decide +kernel
theorem dX8_block_208 : decode cX8_block 208 = .ok (.aload_n 0, 1) := by decide +kernel
theorem dX8_block_209 : decode cX8_block 209 = .ok (.getfield 16, 3) := by decide +kernel
theorem dX8_block_212 : decode cX8_block 212 = .ok (.iconst 4, 1) := by decide +kernel
theorem dX8_block_213 : decode cX8_block 213 = .ok (.iaload, 1) := by decide +kernel
theorem dX8_block_214 : decode cX8_block 214 = .ok (.istore 7, 2) := by decide +kernel
theorem dX8_block_216 : decode cX8_block 216 = .ok (.aload_n 0, 1) := by decide +kernel
theorem dX8_block_217 : decode cX8_block 217 = .ok (.getfield 16, 3) := by decide +kernel
theorem dX8_block_220 : decode cX8_block 220 = .ok (.iconst 5, 1) := by decide +kernel
theorem dX8_block_221 : decode cX8_block 221 = .ok (.iaload, 1) := by decide +kernel
theorem dX8_block_222 : decode cX8_block 222 = .ok (.istore 8, 2) := by decide +kernel
theorem dX8_block_224 : decode cX8_block 224 = .ok (.aload_n 0, 1) := by decide +kernel
theorem dX8_block_225 : decode cX8_block 225 = .ok (.getfield 16, 3) := by decide +kernel
theorem dX8_block_228 : decode cX8_block 228 = .ok (.bipush 6, 2) := by decide +kernel
theorem dX8_block_230 : decode cX8_block 230 = .ok (.iaload, 1) := by decide +kernel
theorem dX8_block_231 : decode cX8_block 231 = .ok (.istore 9, 2) := by decide +kernel
theorem dX8_block_233 : decode cX8_block 233 = .ok (.aload_n 0, 1) := by decide +kernel
theorem dX8_block_234 : decode cX8_block 234 = .ok (.getfield 16, 3) := by decide +kernel
theorem dX8_block_237 : decode cX8_block 237 = .ok (.bipush 7, 2) := by decide +kernel
theorem dX8_block_239 : decode cX8_block 239 = .ok (.iaload, 1) := by decide +kernel
theorem dX8_block_240 : decode cX8_block 240 = .ok (.istore 10, 2) := by decide +kernel
theorem dX8_block_242 : decode cX8_block 242 = .ok (.iconst 0, 1) := by decide +kernel
theorem dX8_block_243 : decode cX8_block 243 = .ok (.istore 11, 2) := by decide +kernel
theorem dX8_block_245 : decode cX8_block 245 = .ok (.iload 11, 2) := by decide +kernel
theorem dX8_block_247 : decode cX8_block 247 = .ok (.bipush 64, 2) := by decide +kernel
theorem dX8_block_249 : decode cX8_block 249 = .ok (.if_icmp .ge 140, 3) := by decide +kernel
theorem dX8_block_252 : decode cX8_block 252 = .ok (.iload 10, 2) := by decide +kernel
theorem dX8_block_254 : decode cX8_block 254 = .ok (.iload 7, 2) := by decide +kernel
theorem dX8_block_256 : decode cX8_block 256 = .ok (.bipush 6, 2) := by decide +kernel
theorem dX8_block_258 : decode cX8_block 258 = .ok (.invokestatic 163, 3) := by decide +kernel
theorem dX8_block_261 : decode cX8_block 261 = .ok (.iload 7, 2) := by decide +kernel
theorem dX8_block_263 : decode cX8_block 263 = .ok (.bipush 11, 2) := by decide +kernel
theorem dX8_block_265 : decode cX8_block 265 = .ok (.invokestatic 163, 3) := by decide +kernel
theorem dX8_block_268 : decode cX8_block 268 = .ok (.ixor, 1) := by decide +kernel
theorem dX8_block_269 : decode cX8_block 269 = .ok (.iload 7, 2) := by decide +kernel
theorem dX8_block_271 : decode cX8_block 271 = .ok (.bipush 25, 2) := by decide +kernel
theorem dX8_block_273 : decode cX8_block 273 = .ok (.invokestatic 163, 3) := by decide +kernel
theorem dX8_block_276 : decode cX8_block 276 = .ok (.ixor, 1) := by decide +kernel
theorem dX8_block_277 : decode cX8_block 277 = .ok (.iadd, 1) := by decide +kernel
theorem dX8_block_278 : decode cX8_block 278 = .ok (.iload 7, 2) := by decide +kernel
theorem dX8_block_280 : decode cX8_block 280 = .ok (.iload 8, 2) := by decide +kernel
theorem dX8_block_282 : decode cX8_block 282 = .ok (.iand, 1) := by decide +kernel
theorem dX8_block_283 : decode cX8_block 283 = .ok (.iload 7, 2) := by decide +kernel
theorem dX8_block_285 : decode cX8_block 285 = .ok (.iconst (-1), 1) := by decide +kernel
theorem dX8_block_286 : decode cX8_block 286 = .ok (.ixor, 1) := by decide +kernel
theorem dX8_block_287 : decode cX8_block 287 = .ok (.iload 9, 2) := by decide +kernel
theorem dX8_block_289 : decode cX8_block 289 = .ok (.iand, 1) := by decide +kernel
theorem dX8_block_290 : decode cX8_block 290 = .ok (.ixor, 1) := by decide +kernel
theorem dX8_block_291 : decode cX8_block 291 = .ok (.iadd, 1) := by decide +kernel
theorem dX8_block_292 : decode cX8_block 292 = .ok (.aload_n 0, 1) := by decide +kernel
theorem dX8_block_293 : decode cX8_block 293 = .ok (.getfield 97, 3) := by decide +kernel
theorem dX8_block_296 : decode cX8_block 296 = .ok (.iload 11, 2) := by decide +kernel
theorem dX8_block_298 : decode cX8_block 298 = .ok (.iaload, 1) := by decide +kernel
theorem dX8_block_299 : decode cX8_block 299 = .ok (.iadd, 1) := by decide +kernel
theorem dX8_block_300 : decode cX8_block 300 = .ok (.aload_n 0, 1) := by decide +kernel
theorem dX8_block_301 : decode cX8_block 301 = .ok (.getfield 19, 3) := by decide +kernel
theorem dX8_block_304 : decode cX8_block 304 = .ok (.iload 11, 2) := by decide +kernel
theorem dX8_block_306 : decode cX8_block 306 = .ok (.iaload, 1) := by decide +kernel
theorem dX8_block_307 : decode cX8_block 307 = .ok (.iadd, 1) := by decide +kernel
theorem dX8_block_308 : decode cX8_block 308 = .ok (.istore 12, 2) := by decide +kernel
theorem dX8_block_310 : decode cX8_block 310 = .ok (.iload_n 3, 1) := by decide +kernel
theorem dX8_block_311 : decode cX8_block 311 = .ok (.iconst 2, 1) := by decide +kernel
theorem dX8_block_312 : decode cX8_block 312 = .ok (.invokestatic 163, 3) := by decide +kernel
theorem dX8_block_315 : decode cX8_block 315 = .ok (.iload_n 3, 1) := by decide +kernel
theorem dX8_block_316 : decode cX8_block 316 = .ok (.bipush 13, 2) := by decide +kernel
theorem dX8_block_318 : decode cX8_block 318 = .ok (.invokestatic 163, 3) := by decide +kernel
theorem dX8_block_321 : decode cX8_block 321 = .ok (.ixor, 1) := by decide +kernel
theorem dX8_block_322 : decode cX8_block 322 = .ok (.iload_n 3, 1) := by decide +kernel
theorem dX8_block_323 : decode cX8_block 323 = .ok (.bipush 22, 2) := by decide +kernel
theorem dX8_block_325 : decode cX8_block 325 = .ok (.invokestatic 163, 3) := by decide +kernel
theorem dX8_block_328 : decode cX8_block 328 = .ok (.ixor, 1) := by decide +kernel
theorem dX8_block_329 : decode cX8_block 329 = .ok (.iload_n 3, 1) := by decide +kernel
theorem dX8_block_330 : decode cX8_block 330 = .ok (.iload 4, 2) := by decide +kernel
theorem dX8_block_332 : decode cX8_block 332 = .ok (.iand, 1) := by decide +kernel
theorem dX8_block_333 : decode cX8_block 333 = .ok (.iload_n 3, 1) := by decide +kernel
theorem dX8_block_334 : decode cX8_block 334 = .ok (.iload 5, 2) := by decide +kernel
theorem dX8_block_336 : decode cX8_block 336 = .ok (.iand, 1) := by decide +kernel
theorem dX8_block_337 : decode cX8_block 337 = .ok (.ixor, 1) := by decide +kernel
theorem dX8_block_338 : decode cX8_block 338 = .ok (.iload 4, 2) := by decide +kernel
theorem dX8_block_340 : decode cX8_block 340 = .ok (.iload 5, 2) := by decide +kernel
theorem dX8_block_342 : decode cX8_block 342 = .ok (.iand, 1) := by decide +kernel
theorem dX8_block_343 : decode cX8_block 343 = .ok (.ixor, 1) := by decide +kernel
theorem dX8_block_344 : decode cX8_block 344 = .ok (.iadd, 1) := by decide +kernel
theorem dX8_block_345 : decode cX8_block 345 = .ok (.istore 13, 2) := by decide +kernel
theorem dX8_block_347 : decode cX8_block 347 = .ok (.iload 9, 2) := by decide +kernel
theorem dX8_block_349 : decode cX8_block 349 = .ok (.istore 10, 2) := by decide +kernel
theorem dX8_block_351 : decode cX8_block 351 = .ok (.iload 8, 2) := by decide +kernel
theorem dX8_block_353 : decode cX8_block 353 = .ok (.istore 9, 2) := by decide +kernel
theorem dX8_block_355 : decode cX8_block 355 = .ok (.iload 7, 2) := by decide +kernel
theorem dX8_block_357 : decode cX8_block 357 = .ok (.istore 8, 2) := by decide +kernel
theorem dX8_block_359 : decode cX8_block 359 = .ok (.iload 6, 2) := by decide +kernel
theorem dX8_block_361 : decode cX8_block 361 = .ok (.iload 12, 2) := by decide +kernel
theorem dX8_block_363 : decode cX8_block 363 = .ok (.iadd, 1) := by decide +kernel
theorem dX8_block_364 : decode cX8_block 364 = .ok (.istore 7, 2) := by decide +kernel
theorem dX8_block_366 : decode cX8_block 366 = .ok (.iload 5, 2) := by decide +kernel
theorem dX8_block_368 : decode cX8_block 368 = .ok (.istore 6, 2) := by decide +kernel
theorem dX8_block_370 : decode cX8_block 370 = .ok (.iload 4, 2) := by decide +kernel
theorem dX8_block_372 : decode cX8_block 372 = .ok (.istore 5, 2) := by decide +kernel
theorem dX8_block_374 : decode cX8_block 374 = .ok (.iload_n 3, 1) := by decide +kernel
theorem dX8_block_375 : decode cX8_block 375 = .ok (.istore 4, 2) := by decide +kernel
theorem dX8_block_377 : decode cX8_block 377 = .ok (.iload 12, 2) := by decide +kernel
theorem dX8_block_379 : decode cX8_block 379 = .ok (.iload 13, 2) := by decide +kernel
theorem dX8_block_381 : decode cX8_block 381 = .ok (.iadd, 1) := by decide +kernel
theorem dX8_block_382 : decode cX8_block 382 = .ok (.istore_n 3, 1) := by decide +kernel
theorem dX8_block_383 : decode cX8_block 383 = .ok (.iinc 11 1, 3) := by decide +kernel
theorem dX8_block_386 : decode cX8_block 386 = .ok (.goto (-141), 3) := by decide +kernel
theorem dX8_block_389 : decode cX8_block 389 = .ok (.aload_n 0, 1) := by decide +kernel
theorem dX8_block_390 : decode cX8_block 390 = .ok (.getfield 16, 3) := by decide +kernel
theorem dX8_block_393 : decode cX8_block 393 = .ok (.iconst 0, 1) := by decide +kernel
theorem dX8_block_394 : decode cX8_block 394 = .ok (.dup2, 1) := by decide +kernel
theorem dX8_block_395 : decode cX8_block 395 = .ok (.iaload, 1) := by decide +kernel
theorem dX8_block_396 : decode cX8_block 396 = .ok (.iload_n 3, 1) := by decide +kernel
theorem dX8_block_397 : decode cX8_block 397 = .ok (.iadd, 1) := by decide +kernel
theorem dX8_block_398 : decode cX8_block 398 = .ok (.iastore, 1) := by decide +kernel
theorem dX8_block_399 : decode cX8_block 399 = .ok (.aload_n 0, 1) := by decide +kernel
theorem dX8_block_400 : decode cX8_block 400 = .ok (.getfield 16, 3) := by decide +kernel
theorem dX8_block_403 : decode cX8_block 403 = .ok (.iconst 1, 1) := by decide +kernel
theorem dX8_block_404 : decode cX8_block 404 = .ok (.dup2, 1) := by decide +kernel
theorem dX8_block_405 : decode cX8_block 405 = .ok (.iaload, 1) := by decide +kernel
theorem dX8_block_406 : decode cX8_block 406 = .ok (.iload 4, 2) := by decide +kernel
theorem dX8_block_408 : decode cX8_block 408 = .ok (.iadd, 1) := by decide +kernel
theorem dX8_block_409 : decode cX8_block 409 = .ok (.iastore, 1) := by decide +kernel
theorem dX8_block_410 : decode cX8_block 410 = .ok (.aload_n 0, 1) := by decide +kernel
theorem dX8_block_411 : decode cX8_block 411 = .ok (.getfield 16, 3) := by decide +kernel
theorem dX8_block_414 : decode cX8_block 414 = .ok (.iconst 2, 1) := by decide +kernel
theorem dX8_block_415 : decode cX8_block 415 = .ok (.dup2, 1) := by decide +kernel
theorem dX8_block_416 : decode cX8_block 416 = .ok (.iaload, 1) := by decide +kernel
theorem dX8_block_417 : decode cX8_block 417 = .ok (.iload 5, 2) := by decide +kernel
theorem dX8_block_419 : decode cX8_block 419 = .ok (.iadd, 1) := by decide +kernel
theorem dX8_block_420 : decode cX8_block 420 = .ok (.iastore, 1) := by decide +kernel
theorem dX8_block_421 : decode cX8_block 421 = .ok (.aload_n 0, 1) := by decide +kernel
theorem dX8_block_422 : decode cX8_block 422 = .ok (.getfield 16, 3) := by decide +kernel
theorem dX8_block_425 : decode cX8_block 425 = .ok (.iconst 3, 1) := by decide +kernel
theorem dX8_block_426 : decode cX8_block 426 = .ok (.dup2, 1) := by decide +kernel
theorem dX8_block_427 : decode cX8_block 427 = .ok (.iaload, 1) := by decide +kernel
theorem dX8_block_428 : decode cX8_block 428 = .ok (.iload 6, 2) := by decide +kernel
theorem dX8_block_430 : decode cX8_block 430 = .ok (.iadd, 1) := by decide +kernel
theorem dX8_block_431 : decode cX8_block 431 = .ok (.iastore, 1) := by decide +kernel
theorem dX8_block_432 : decode cX8_block 432 = .ok (.aload_n 0, 1) := by decide +kernel
theorem dX8_block_433 : decode cX8_block 433 = .ok (.getfield 16, 3) := by decide +kernel
theorem dX8_block_436 : decode cX8_block 436 = .ok (.iconst 4, 1) := by decide +kernel
theorem dX8_block_437 : decode cX8_block 437 = .ok (.dup2, 1) := by decide +kernel
theorem dX8_block_438 : decode cX8_block 438 = .ok (.iaload, 1) := by decide +kernel
theorem dX8_block_439 : decode cX8_block 439 = .ok (.iload 7, 2) := by decide +kernel
theorem dX8_block_441 : decode cX8_block 441 = .ok (.iadd, 1) := by decide +kernel
theorem dX8_block_442 : decode cX8_block 442 = .ok (.iastore, 1) := by decide +kernel
theorem dX8_block_443 : decode cX8_block 443 = .ok (.aload_n 0, 1) := by decide +kernel
theorem dX8_block_444 : decode cX8_block 444 = .ok (.getfield 16, 3) := by decide +kernel
theorem dX8_block_447 : decode cX8_block 447 = .ok (.iconst 5, 1) := by decide +kernel
theorem dX8_block_448 : decode cX8_block 448 = .ok (.dup2, 1) := by decide +kernel
theorem dX8_block_449 : decode cX8_block 449 = .ok (.iaload, 1) := by decide +kernel
theorem dX8_block_450 : decode cX8_block 450 = .ok (.iload 8, 2) := by decide +kernel
theorem dX8_block_452 : decode cX8_block 452 = .ok (.iadd, 1) := by decide +kernel
theorem dX8_block_453 : decode cX8_block 453 = .ok (.iastore, 1) := by decide +kernel
theorem dX8_block_454 : decode cX8_block 454 = .ok (.aload_n 0, 1) := by decide +kernel
theorem dX8_block_455 : decode cX8_block 455 = .ok (.getfield 16, 3) := by decide +kernel
theorem dX8_block_458 : decode cX8_block 458 = .ok (.bipush 6, 2) := by decide +kernel
theorem dX8_block_460 : decode cX8_block 460 = .ok (.dup2, 1) := by decide +kernel
theorem dX8_block_461 : decode cX8_block 461 = .ok (.iaload, 1) := by decide +kernel
theorem dX8_block_462 : decode cX8_block 462 = .ok (.iload 9, 2) := by decide +kernel
theorem dX8_block_464 : decode cX8_block 464 = .ok (.iadd, 1) := by decide +kernel
theorem dX8_block_465 : decode cX8_block 465 = .ok (.iastore, 1) := by decide +kernel
theorem dX8_block_466 : decode cX8_block 466 = .ok (.aload_n 0, 1) := by decide +kernel
theorem dX8_block_467 : decode cX8_block 467 = .ok (.getfield 16, 3) := by decide +kernel
theorem dX8_block_470 : decode cX8_block 470 = .ok (.bipush 7, 2) := by decide +kernel
theorem dX8_block_472 : decode cX8_block 472 = .ok (.dup2, 1) := by decide +kernel
theorem dX8_block_473 : decode cX8_block 473 = .ok (.iaload, 1) := by decide +kernel
theorem dX8_block_474 : decode cX8_block 474 = .ok (.iload 10, 2) := by decide +kernel
theorem dX8_block_476 : decode cX8_block 476 = .ok (.iadd, 1) := by decide +kernel
theorem dX8_block_477 : decode cX8_block 477 = .ok (.iastore, 1) := by decide +kernel
theorem dX8_block_478 : decode cX8_block 478 = .ok (.return_, 1) := by decide +kernel
theorem dX8_hashes_0 : decode cX8_hashes 0 = .ok (.aload_n 0, 1) := by decide +kernel
theorem dX8_hashes_1 : decode cX8_hashes 1 = .ok (.getfield 156, 3) := by decide +kernel
theorem dX8_hashes_4 : decode cX8_hashes 4 = .ok (.bipush 8, 2) := by decide +kernel
theorem dX8_hashes_6 : decode cX8_hashes 6 = .ok (.iadd, 1) := by decide +kernel
theorem dX8_hashes_7 : decode cX8_hashes 7 = .ok (.bipush 64, 2) := by decide +kernel
theorem dX8_hashes_9 : decode cX8_hashes 9 = .ok (.idiv, 1) := by decide +kernel
theorem dX8_hashes_10 : decode cX8_hashes 10 = .ok (.bipush 64, 2) := by decide +kernel
theorem dX8_hashes_12 : decode cX8_hashes 12 = .ok (.imul, 1) := by decide +kernel
theorem dX8_hashes_13 : decode cX8_hashes 13 = .ok (.bipush 64, 2) := by decide +kernel
theorem dX8_hashes_15 : decode cX8_hashes 15 = .ok (.iadd, 1) := by decide +kernel
theorem dX8_hashes_16 : decode cX8_hashes 16 = .ok (.istore_n 1, 1) := by decide +kernel
theorem dX8_hashes_17 : decode cX8_hashes 17 = .ok (.iconst 0, 1) := by decide +kernel
theorem dX8_hashes_18 : decode cX8_hashes 18 = .ok (.istore_n 2, 1) := by decide +kernel
theorem dX8_hashes_19 : decode cX8_hashes 19 = .ok (.iload_n 2, 1) := by decide +kernel
theorem dX8_hashes_20 : decode cX8_hashes 20 = .ok (.bipush 8, 2) := by decide +kernel
theorem dX8_hashes_22 : decode cX8_hashes 22 = .ok (.if_icmp .ge 21, 3) := by decide +kernel
theorem dX8_hashes_25 : decode cX8_hashes 25 = .ok (.aload_n 0, 1) := by decide +kernel
theorem dX8_hashes_26 : decode cX8_hashes 26 = .ok (.getfield 16, 3) := by decide +kernel
theorem dX8_hashes_29 : decode cX8_hashes 29 = .ok (.iload_n 2, 1) := by decide +kernel
theorem dX8_hashes_30 : decode cX8_hashes 30 = .ok (.aload_n 0, 1) := by decide +kernel
theorem dX8_hashes_31 : decode cX8_hashes 31 = .ok (.getfield 30, 3) := by decide +kernel
theorem dX8_hashes_34 : decode cX8_hashes 34 = .ok (.iload_n 2, 1) := by decide +kernel
theorem dX8_hashes_35 : decode cX8_hashes 35 = .ok (.iaload, 1) := by decide +kernel
theorem dX8_hashes_36 : decode cX8_hashes 36 = .ok (.iastore, 1) := by decide +kernel
theorem dX8_hashes_37 : decode cX8_hashes 37 = .ok (.iinc 2 1, 3) := by decide +kernel
theorem dX8_hashes_40 : decode cX8_hashes 40 = .ok (.goto (-21), 3) := by decide +kernel
theorem dX8_hashes_43 : decode cX8_hashes 43 = .ok (.iconst 0, 1) := by decide +kernel
theorem dX8_hashes_44 : decode cX8_hashes 44 = .ok (.istore_n 2, 1) := by decide +kernel
theorem dX8_hashes_45 : decode cX8_hashes 45 = .ok (.iload_n 2, 1) := by decide +kernel
theorem dX8_hashes_46 : decode cX8_hashes 46 = .ok (.iload_n 1, 1) := by decide +kernel
theorem dX8_hashes_47 : decode cX8_hashes 47 = .ok (.if_icmp .ge 15, 3) := by decide +kernel
theorem dX8_hashes_50 : decode cX8_hashes 50 = .ok (.aload_n 0, 1) := by decide +kernel
theorem dX8_hashes_51 : decode cX8_hashes 51 = .ok (.iload_n 2, 1) := by decide +kernel
theorem dX8_hashes_52 : decode cX8_hashes 52 = .ok (.iload_n 1, 1) := by decide +kernel
theorem dX8_hashes_53 : decode cX8_hashes 53 = .ok (.invokevirtual 166, 3) := by decide +kernel
theorem dX8_hashes_56 : decode cX8_hashes 56 = .ok (.iinc 2 64, 3) := by decide +kernel
theorem dX8_hashes_59 : decode cX8_hashes 59 = .ok (.goto (-14), 3) := by decide +kernel
theorem dX8_hashes_62 : decode cX8_hashes 62 = .ok (.return_, 1) := by decide +kernel
theorem dX8_hashByte_0 : decode cX8_hashByte 0 = .ok (.aload_n 0, 1) := by decide +kernel
theorem dX8_hashByte_1 : decode cX8_hashByte 1 = .ok (.getfield 16, 3) := by decide +kernel
theorem dX8_hashByte_4 : decode cX8_hashByte 4 = .ok (.iload_n 1, 1) := by decide +kernel
theorem dX8_hashByte_5 : decode cX8_hashByte 5 = .ok (.iconst 4, 1) := by decide +kernel
theorem dX8_hashByte_6 : decode cX8_hashByte 6 = .ok (.idiv, 1) := by decide +kernel
theorem dX8_hashByte_7 : decode cX8_hashByte 7 = .ok (.iaload, 1) := by decide +kernel
theorem dX8_hashByte_8 : decode cX8_hashByte 8 = .ok (.bipush 24, 2) := by decide +kernel
theorem dX8_hashByte_10 : decode cX8_hashByte 10 = .ok (.bipush 8, 2) := by decide +kernel
theorem dX8_hashByte_12 : decode cX8_hashByte 12 = .ok (.iload_n 1, 1) := by decide +kernel
theorem dX8_hashByte_13 : decode cX8_hashByte 13 = .ok (.iconst 4, 1) := by decide +kernel
theorem dX8_hashByte_14 : decode cX8_hashByte 14 = .ok (.irem, 1) := by decide +kernel
theorem dX8_hashByte_15 : decode cX8_hashByte 15 = .ok (.imul, 1) := by decide +kernel
theorem dX8_hashByte_16 : decode cX8_hashByte 16 = .ok (.isub, 1) := by decide +kernel
theorem dX8_hashByte_17 : decode cX8_hashByte 17 = .ok (.iushr, 1) := by decide +kernel
theorem dX8_hashByte_18 : decode cX8_hashByte 18 = .ok (.sipush 255, 3) := by decide +kernel
theorem dX8_hashByte_21 : decode cX8_hashByte 21 = .ok (.iand, 1) := by decide +kernel
theorem dX8_hashByte_22 : decode cX8_hashByte 22 = .ok (.ireturn, 1) := by decide +kernel
theorem dX8_seed_0 : decode cX8_seed 0 = .ok (.aload_n 0, 1) := by decide +kernel
theorem dX8_seed_1 : decode cX8_seed 1 = .ok (.getfield 169, 3) := by decide +kernel
theorem dX8_seed_4 : decode cX8_seed 4 = .ok (.ifCond .eq 6, 3) := by decide +kernel
theorem dX8_seed_7 : decode cX8_seed 7 = .ok (.bipush (-3), 2) := by decide +kernel
theorem dX8_seed_9 : decode cX8_seed 9 = .ok (.ireturn, 1) := by decide +kernel
theorem dX8_seed_10 : decode cX8_seed 10 = .ok (.aload_n 0, 1) := by decide +kernel
theorem dX8_seed_11 : decode cX8_seed 11 = .ok (.getfield 173, 3) := by decide +kernel
theorem dX8_seed_14 : decode cX8_seed 14 = .ok (.bipush 16, 2) := by decide +kernel
theorem dX8_seed_16 : decode cX8_seed 16 = .ok (.if_icmp .ne 6, 3) := by decide +kernel
theorem dX8_seed_19 : decode cX8_seed 19 = .ok (.bipush (-4), 2) := by decide +kernel
theorem dX8_seed_21 : decode cX8_seed 21 = .ok (.ireturn, 1) := by decide +kernel
theorem dX8_seed_22 : decode cX8_seed 22 = .ok (.aload_n 0, 1) := by decide +kernel
theorem dX8_seed_23 : decode cX8_seed 23 = .ok (.getfield 100, 3) := by decide +kernel
theorem dX8_seed_26 : decode cX8_seed 26 = .ok (.aload_n 0, 1) := by decide +kernel
theorem dX8_seed_27 : decode cX8_seed 27 = .ok (.getfield 173, 3) := by decide +kernel
theorem dX8_seed_30 : decode cX8_seed 30 = .ok (.iload_n 1, 1) := by decide +kernel
theorem dX8_seed_31 : decode cX8_seed 31 = .ok (.iastore, 1) := by decide +kernel
theorem dX8_seed_32 : decode cX8_seed 32 = .ok (.aload_n 0, 1) := by decide +kernel
theorem dX8_seed_33 : decode cX8_seed 33 = .ok (.dup, 1) := by decide +kernel
theorem dX8_seed_34 : decode cX8_seed 34 = .ok (.getfield 173, 3) := by decide +kernel
theorem dX8_seed_37 : decode cX8_seed 37 = .ok (.iconst 1, 1) := by decide +kernel
theorem dX8_seed_38 : decode cX8_seed 38 = .ok (.iadd, 1) := by decide +kernel
theorem dX8_seed_39 : decode cX8_seed 39 = .ok (.putfield 173, 3) := by decide +kernel
theorem dX8_seed_42 : decode cX8_seed 42 = .ok (.aload_n 0, 1) := by decide +kernel
theorem dX8_seed_43 : decode cX8_seed 43 = .ok (.getfield 173, 3) := by decide +kernel
theorem dX8_seed_46 : decode cX8_seed 46 = .ok (.ireturn, 1) := by decide +kernel
theorem dX8_lay_0 : decode cX8_lay 0 = .ok (.bipush 24, 2) := by decide +kernel
theorem dX8_lay_2 : decode cX8_lay 2 = .ok (.istore_n 2, 1) := by decide +kernel
theorem dX8_lay_3 : decode cX8_lay 3 = .ok (.iload_n 2, 1) := by decide +kernel
theorem dX8_lay_4 : decode cX8_lay 4 = .ok (.ifCond .lt 35, 3) := by decide +kernel
theorem dX8_lay_7 : decode cX8_lay 7 = .ok (.aload_n 0, 1) := by decide +kernel
theorem dX8_lay_8 : decode cX8_lay 8 = .ok (.getfield 13, 3) := by decide +kernel
theorem dX8_lay_11 : decode cX8_lay 11 = .ok (.aload_n 0, 1) := by decide +kernel
theorem dX8_lay_12 : decode cX8_lay 12 = .ok (.getfield 156, 3) := by decide +kernel
theorem dX8_lay_15 : decode cX8_lay 15 = .ok (.iload_n 1, 1) := by decide +kernel
theorem dX8_lay_16 : decode cX8_lay 16 = .ok (.iload_n 2, 1) := by decide +kernel
theorem dX8_lay_17 : decode cX8_lay 17 = .ok (.iushr, 1) := by decide +kernel
theorem dX8_lay_18 : decode cX8_lay 18 = .ok (.sipush 255, 3) := by decide +kernel
theorem dX8_lay_21 : decode cX8_lay 21 = .ok (.iand, 1) := by decide +kernel
theorem dX8_lay_22 : decode cX8_lay 22 = .ok (.iastore, 1) := by decide +kernel
theorem dX8_lay_23 : decode cX8_lay 23 = .ok (.aload_n 0, 1) := by decide +kernel
theorem dX8_lay_24 : decode cX8_lay 24 = .ok (.dup, 1) := by decide +kernel
theorem dX8_lay_25 : decode cX8_lay 25 = .ok (.getfield 156, 3) := by decide +kernel
theorem dX8_lay_28 : decode cX8_lay 28 = .ok (.iconst 1, 1) := by decide +kernel
theorem dX8_lay_29 : decode cX8_lay 29 = .ok (.iadd, 1) := by decide +kernel
theorem dX8_lay_30 : decode cX8_lay 30 = .ok (.putfield 156, 3) := by decide +kernel
theorem dX8_lay_33 : decode cX8_lay 33 = .ok (.iinc 2 (-8), 3) := by decide +kernel
theorem dX8_lay_36 : decode cX8_lay 36 = .ok (.goto (-33), 3) := by decide +kernel
theorem dX8_lay_39 : decode cX8_lay 39 = .ok (.return_, 1) := by decide +kernel
theorem dX8_draws_0 : decode cX8_draws 0 = .ok (.aload_n 0, 1) := by decide +kernel
theorem dX8_draws_1 : decode cX8_draws 1 = .ok (.iconst 0, 1) := by decide +kernel
theorem dX8_draws_2 : decode cX8_draws 2 = .ok (.putfield 156, 3) := by decide +kernel
theorem dX8_draws_5 : decode cX8_draws 5 = .ok (.iconst 0, 1) := by decide +kernel
theorem dX8_draws_6 : decode cX8_draws 6 = .ok (.istore_n 1, 1) := by decide +kernel
theorem dX8_draws_7 : decode cX8_draws 7 = .ok (.iload_n 1, 1) := by decide +kernel
theorem dX8_draws_8 : decode cX8_draws 8 = .ok (.aload_n 0, 1) := by decide +kernel
theorem dX8_draws_9 : decode cX8_draws 9 = .ok (.getfield 173, 3) := by decide +kernel
theorem dX8_draws_12 : decode cX8_draws 12 = .ok (.if_icmp .ge 19, 3) := by decide +kernel
theorem dX8_draws_15 : decode cX8_draws 15 = .ok (.aload_n 0, 1) := by decide +kernel
theorem dX8_draws_16 : decode cX8_draws 16 = .ok (.aload_n 0, 1) := by decide +kernel
theorem dX8_draws_17 : decode cX8_draws 17 = .ok (.getfield 100, 3) := by decide +kernel
theorem dX8_draws_20 : decode cX8_draws 20 = .ok (.iload_n 1, 1) := by decide +kernel
theorem dX8_draws_21 : decode cX8_draws 21 = .ok (.iaload, 1) := by decide +kernel
theorem dX8_draws_22 : decode cX8_draws 22 = .ok (.invokevirtual 176, 3) := by decide +kernel
theorem dX8_draws_25 : decode cX8_draws 25 = .ok (.iinc 1 1, 3) := by decide +kernel
theorem dX8_draws_28 : decode cX8_draws 28 = .ok (.goto (-21), 3) := by decide +kernel
theorem dX8_draws_31 : decode cX8_draws 31 = .ok (.aload_n 0, 1) := by decide +kernel
theorem dX8_draws_32 : decode cX8_draws 32 = .ok (.aload_n 0, 1) := by decide +kernel
theorem dX8_draws_33 : decode cX8_draws 33 = .ok (.getfield 179, 3) := by decide +kernel
theorem dX8_draws_36 : decode cX8_draws 36 = .ok (.invokevirtual 176, 3) := by decide +kernel
theorem dX8_draws_39 : decode cX8_draws 39 = .ok (.aload_n 0, 1) := by decide +kernel
theorem dX8_draws_40 : decode cX8_draws 40 = .ok (.invokevirtual 182, 3) := by decide +kernel
theorem dX8_draws_43 : decode cX8_draws 43 = .ok (.aload_n 0, 1) := by decide +kernel
theorem dX8_draws_44 : decode cX8_draws 44 = .ok (.aload_n 0, 1) := by decide +kernel
theorem dX8_draws_45 : decode cX8_draws 45 = .ok (.getfield 185, 3) := by decide +kernel
theorem dX8_draws_48 : decode cX8_draws 48 = .ok (.invokevirtual 188, 3) := by decide +kernel
theorem dX8_draws_51 : decode cX8_draws 51 = .ok (.istore_n 1, 1) := by decide +kernel
theorem dX8_draws_52 : decode cX8_draws 52 = .ok (.aload_n 0, 1) := by decide +kernel
theorem dX8_draws_53 : decode cX8_draws 53 = .ok (.dup, 1) := by decide +kernel
theorem dX8_draws_54 : decode cX8_draws 54 = .ok (.getfield 185, 3) := by decide +kernel
theorem dX8_draws_57 : decode cX8_draws 57 = .ok (.iconst 1, 1) := by decide +kernel
theorem dX8_draws_58 : decode cX8_draws 58 = .ok (.iadd, 1) := by decide +kernel
theorem dX8_draws_59 : decode cX8_draws 59 = .ok (.putfield 185, 3) := by decide +kernel
theorem dX8_draws_62 : decode cX8_draws 62 = .ok (.aload_n 0, 1) := by decide +kernel
theorem dX8_draws_63 : decode cX8_draws 63 = .ok (.getfield 185, 3) := by decide +kernel
theorem dX8_draws_66 : decode cX8_draws 66 = .ok (.bipush 32, 2) := by decide +kernel
theorem dX8_draws_68 : decode cX8_draws 68 = .ok (.if_icmp .ne 18, 3) := by decide +kernel
theorem dX8_draws_71 : decode cX8_draws 71 = .ok (.aload_n 0, 1) := by decide +kernel
theorem dX8_draws_72 : decode cX8_draws 72 = .ok (.iconst 0, 1) := by decide +kernel
theorem dX8_draws_73 : decode cX8_draws 73 = .ok (.putfield 185, 3) := by decide +kernel
theorem dX8_draws_76 : decode cX8_draws 76 = .ok (.aload_n 0, 1) := by decide +kernel
theorem dX8_draws_77 : decode cX8_draws 77 = .ok (.dup, 1) := by decide +kernel
theorem dX8_draws_78 : decode cX8_draws 78 = .ok (.getfield 179, 3) := by decide +kernel
theorem dX8_draws_81 : decode cX8_draws 81 = .ok (.iconst 1, 1) := by decide +kernel
theorem dX8_draws_82 : decode cX8_draws 82 = .ok (.iadd, 1) := by decide +kernel
theorem dX8_draws_83 : decode cX8_draws 83 = .ok (.putfield 179, 3) := by decide +kernel
theorem dX8_draws_86 : decode cX8_draws 86 = .ok (.iload_n 1, 1) := by decide +kernel
theorem dX8_draws_87 : decode cX8_draws 87 = .ok (.ireturn, 1) := by decide +kernel
theorem dX8_isDivided_0 : decode cX8_isDivided 0 = .ok (.iconst 3, 1) := by decide +kernel
theorem dX8_isDivided_1 : decode cX8_isDivided 1 = .ok (.istore_n 1, 1) := by decide +kernel
theorem dX8_isDivided_2 : decode cX8_isDivided 2 = .ok (.iload_n 1, 1) := by decide +kernel
theorem dX8_isDivided_3 : decode cX8_isDivided 3 = .ok (.sipush 256, 3) := by decide +kernel
theorem dX8_isDivided_6 : decode cX8_isDivided 6 = .ok (.if_icmp .ge 58, 3) := by decide +kernel
theorem dX8_isDivided_9 : decode cX8_isDivided 9 = .ok (.iconst 1, 1) := by decide +kernel
theorem dX8_isDivided_10 : decode cX8_isDivided 10 = .ok (.istore_n 2, 1) := by decide +kernel
theorem dX8_isDivided_11 : decode cX8_isDivided 11 = .ok (.iconst 3, 1) := by decide +kernel
theorem dX8_isDivided_12 : decode cX8_isDivided 12 = .ok (.istore_n 3, 1) := by decide +kernel
theorem dX8_isDivided_13 : decode cX8_isDivided 13 = .ok (.iload_n 3, 1) := by decide +kernel
theorem dX8_isDivided_14 : decode cX8_isDivided 14 = .ok (.iload_n 3, 1) := by decide +kernel
theorem dX8_isDivided_15 : decode cX8_isDivided 15 = .ok (.imul, 1) := by decide +kernel
theorem dX8_isDivided_16 : decode cX8_isDivided 16 = .ok (.iload_n 1, 1) := by decide +kernel
theorem dX8_isDivided_17 : decode cX8_isDivided 17 = .ok (.if_icmp .gt 25, 3) := by decide +kernel
theorem dX8_isDivided_20 : decode cX8_isDivided 20 = .ok (.iload_n 2, 1) := by decide +kernel
theorem dX8_isDivided_21 : decode cX8_isDivided 21 = .ok (.ifCond .eq 13, 3) := by decide +kernel
theorem dX8_isDivided_24 : decode cX8_isDivided 24 = .ok (.iload_n 1, 1) := by decide +kernel
theorem dX8_isDivided_25 : decode cX8_isDivided 25 = .ok (.iload_n 3, 1) := by decide +kernel
theorem dX8_isDivided_26 : decode cX8_isDivided 26 = .ok (.irem, 1) := by decide +kernel
theorem dX8_isDivided_27 : decode cX8_isDivided 27 = .ok (.ifCond .eq 7, 3) := by decide +kernel
theorem dX8_isDivided_30 : decode cX8_isDivided 30 = .ok (.iconst 1, 1) := by decide +kernel
theorem dX8_isDivided_31 : decode cX8_isDivided 31 = .ok (.goto 4, 3) := by decide +kernel
theorem dX8_isDivided_34 : decode cX8_isDivided 34 = .ok (.iconst 0, 1) := by decide +kernel
theorem dX8_isDivided_35 : decode cX8_isDivided 35 = .ok (.istore_n 2, 1) := by decide +kernel
theorem dX8_isDivided_36 : decode cX8_isDivided 36 = .ok (.iinc 3 2, 3) := by decide +kernel
theorem dX8_isDivided_39 : decode cX8_isDivided 39 = .ok (.goto (-26), 3) := by decide +kernel
theorem dX8_isDivided_42 : decode cX8_isDivided 42 = .ok (.iload_n 2, 1) := by decide +kernel
theorem dX8_isDivided_43 : decode cX8_isDivided 43 = .ok (.ifCond .eq 15, 3) := by decide +kernel
theorem dX8_isDivided_46 : decode cX8_isDivided 46 = .ok (.aload_n 0, 1) := by decide +kernel
theorem dX8_isDivided_47 : decode cX8_isDivided 47 = .ok (.bipush 8, 2) := by decide +kernel
theorem dX8_isDivided_49 : decode cX8_isDivided 49 = .ok (.iload_n 1, 1) := by decide +kernel
theorem dX8_isDivided_50 : decode cX8_isDivided 50 = .ok (.invokevirtual 191, 3) := by decide +kernel
theorem dX8_isDivided_53 : decode cX8_isDivided 53 = .ok (.ifCond .ne 5, 3) := by decide +kernel
theorem dX8_isDivided_56 : decode cX8_isDivided 56 = .ok (.iconst 1, 1) := by decide +kernel
theorem dX8_isDivided_57 : decode cX8_isDivided 57 = .ok (.ireturn, 1) := by decide +kernel
theorem dX8_isDivided_58 : decode cX8_isDivided 58 = .ok (.iinc 1 2, 3) := by decide +kernel
theorem dX8_isDivided_61 : decode cX8_isDivided 61 = .ok (.goto (-59), 3) := by decide +kernel
theorem dX8_isDivided_64 : decode cX8_isDivided 64 = .ok (.iconst 0, 1) := by decide +kernel
theorem dX8_isDivided_65 : decode cX8_isDivided 65 = .ok (.ireturn, 1) := by decide +kernel
theorem dX8_base_0 : decode cX8_base 0 = .ok (.iload_n 0, 1) := by decide +kernel
theorem dX8_base_1 : decode cX8_base 1 = .ok (.ifCond .ne 7, 3) := by decide +kernel
theorem dX8_base_4 : decode cX8_base 4 = .ok (.iconst 2, 1) := by decide +kernel
theorem dX8_base_5 : decode cX8_base 5 = .ok (.goto 64, 3) := by decide +kernel
theorem dX8_base_8 : decode cX8_base 8 = .ok (.iload_n 0, 1) := by decide +kernel
theorem dX8_base_9 : decode cX8_base 9 = .ok (.iconst 1, 1) := by decide +kernel
theorem dX8_base_10 : decode cX8_base 10 = .ok (.if_icmp .ne 7, 3) := by decide +kernel
theorem dX8_base_13 : decode cX8_base 13 = .ok (.iconst 3, 1) := by decide +kernel
theorem dX8_base_14 : decode cX8_base 14 = .ok (.goto 55, 3) := by decide +kernel
theorem dX8_base_17 : decode cX8_base 17 = .ok (.iload_n 0, 1) := by decide +kernel
theorem dX8_base_18 : decode cX8_base 18 = .ok (.iconst 2, 1) := by decide +kernel
theorem dX8_base_19 : decode cX8_base 19 = .ok (.if_icmp .ne 7, 3) := by decide +kernel
theorem dX8_base_22 : decode cX8_base 22 = .ok (.iconst 5, 1) := by decide +kernel
theorem dX8_base_23 : decode cX8_base 23 = .ok (.goto 46, 3) := by decide +kernel
theorem dX8_base_26 : decode cX8_base 26 = .ok (.iload_n 0, 1) := by decide +kernel
theorem dX8_base_27 : decode cX8_base 27 = .ok (.iconst 3, 1) := by decide +kernel
theorem dX8_base_28 : decode cX8_base 28 = .ok (.if_icmp .ne 8, 3) := by decide +kernel
theorem dX8_base_31 : decode cX8_base 31 = .ok (.bipush 7, 2) := by decide +kernel
theorem dX8_base_33 : decode cX8_base 33 = .ok (.goto 36, 3) := by decide +kernel
theorem dX8_base_36 : decode cX8_base 36 = .ok (.iload_n 0, 1) := by decide +kernel
theorem dX8_base_37 : decode cX8_base 37 = .ok (.iconst 4, 1) := by decide +kernel
theorem dX8_base_38 : decode cX8_base 38 = .ok (.if_icmp .ne 8, 3) := by decide +kernel
theorem dX8_base_41 : decode cX8_base 41 = .ok (.bipush 11, 2) := by decide +kernel
theorem dX8_base_43 : decode cX8_base 43 = .ok (.goto 26, 3) := by decide +kernel
theorem dX8_base_46 : decode cX8_base 46 = .ok (.iload_n 0, 1) := by decide +kernel
theorem dX8_base_47 : decode cX8_base 47 = .ok (.iconst 5, 1) := by decide +kernel
theorem dX8_base_48 : decode cX8_base 48 = .ok (.if_icmp .ne 8, 3) := by decide +kernel
theorem dX8_base_51 : decode cX8_base 51 = .ok (.bipush 13, 2) := by decide +kernel
theorem dX8_base_53 : decode cX8_base 53 = .ok (.goto 16, 3) := by decide +kernel
theorem dX8_base_56 : decode cX8_base 56 = .ok (.iload_n 0, 1) := by decide +kernel
theorem dX8_base_57 : decode cX8_base 57 = .ok (.bipush 6, 2) := by decide +kernel
theorem dX8_base_59 : decode cX8_base 59 = .ok (.if_icmp .ne 8, 3) := by decide +kernel
theorem dX8_base_62 : decode cX8_base 62 = .ok (.bipush 17, 2) := by decide +kernel
theorem dX8_base_64 : decode cX8_base 64 = .ok (.goto 5, 3) := by decide +kernel
theorem dX8_base_67 : decode cX8_base 67 = .ok (.bipush 19, 2) := by decide +kernel
theorem dX8_base_69 : decode cX8_base 69 = .ok (.ireturn, 1) := by decide +kernel
theorem dX8_passesBy_0 : decode cX8_passesBy 0 = .ok (.aload_n 0, 1) := by decide +kernel
theorem dX8_passesBy_1 : decode cX8_passesBy 1 = .ok (.bipush 17, 2) := by decide +kernel
theorem dX8_passesBy_3 : decode cX8_passesBy 3 = .ok (.iload_n 1, 1) := by decide +kernel
theorem dX8_passesBy_4 : decode cX8_passesBy 4 = .ok (.invokevirtual 145, 3) := by decide +kernel
theorem dX8_passesBy_7 : decode cX8_passesBy 7 = .ok (.aload_n 0, 1) := by decide +kernel
theorem dX8_passesBy_8 : decode cX8_passesBy 8 = .ok (.bipush 17, 2) := by decide +kernel
theorem dX8_passesBy_10 : decode cX8_passesBy 10 = .ok (.bipush 14, 2) := by decide +kernel
theorem dX8_passesBy_12 : decode cX8_passesBy 12 = .ok (.bipush 8, 2) := by decide +kernel
theorem dX8_passesBy_14 : decode cX8_passesBy 14 = .ok (.invokevirtual 194, 3) := by decide +kernel
theorem dX8_passesBy_17 : decode cX8_passesBy 17 = .ok (.aload_n 0, 1) := by decide +kernel
theorem dX8_passesBy_18 : decode cX8_passesBy 18 = .ok (.bipush 10, 2) := by decide +kernel
theorem dX8_passesBy_20 : decode cX8_passesBy 20 = .ok (.iconst 1, 1) := by decide +kernel
theorem dX8_passesBy_21 : decode cX8_passesBy 21 = .ok (.invokevirtual 197, 3) := by decide +kernel
theorem dX8_passesBy_24 : decode cX8_passesBy 24 = .ok (.ifCond .ne 14, 3) := by decide +kernel
theorem dX8_passesBy_27 : decode cX8_passesBy 27 = .ok (.aload_n 0, 1) := by decide +kernel
theorem dX8_passesBy_28 : decode cX8_passesBy 28 = .ok (.bipush 10, 2) := by decide +kernel
theorem dX8_passesBy_30 : decode cX8_passesBy 30 = .ok (.bipush 13, 2) := by decide +kernel
theorem dX8_passesBy_32 : decode cX8_passesBy 32 = .ok (.invokevirtual 200, 3) := by decide +kernel
theorem dX8_passesBy_35 : decode cX8_passesBy 35 = .ok (.ifCond .ne 7, 3) := by decide +kernel
theorem dX8_passesBy_38 : decode cX8_passesBy 38 = .ok (.iconst 1, 1) := by decide +kernel
theorem dX8_passesBy_39 : decode cX8_passesBy 39 = .ok (.goto 4, 3) := by decide +kernel
theorem dX8_passesBy_42 : decode cX8_passesBy 42 = .ok (.iconst 0, 1) := by decide +kernel
theorem dX8_passesBy_43 : decode cX8_passesBy 43 = .ok (.istore_n 3, 1) := by decide +kernel
theorem dX8_passesBy_44 : decode cX8_passesBy 44 = .ok (.iconst 1, 1) := by decide +kernel
theorem dX8_passesBy_45 : decode cX8_passesBy 45 = .ok (.istore 4, 2) := by decide +kernel
theorem dX8_passesBy_47 : decode cX8_passesBy 47 = .ok (.iload 4, 2) := by decide +kernel
theorem dX8_passesBy_49 : decode cX8_passesBy 49 = .ok (.iload_n 2, 1) := by decide +kernel
theorem dX8_passesBy_50 : decode cX8_passesBy 50 = .ok (.if_icmp .ge 56, 3) := by decide +kernel
theorem dX8_passesBy_53 : decode cX8_passesBy 53 = .ok (.iload_n 3, 1) := by decide +kernel
theorem dX8_passesBy_54 : decode cX8_passesBy 54 = .ok (.ifCond .ne 52, 3) := by decide +kernel
theorem dX8_passesBy_57 : decode cX8_passesBy 57 = .ok (.aload_n 0, 1) := by decide +kernel
theorem dX8_passesBy_58 : decode cX8_passesBy 58 = .ok (.bipush 11, 2) := by decide +kernel
theorem dX8_passesBy_60 : decode cX8_passesBy 60 = .ok (.bipush 10, 2) := by decide +kernel
theorem dX8_passesBy_62 : decode cX8_passesBy 62 = .ok (.bipush 10, 2) := by decide +kernel
theorem dX8_passesBy_64 : decode cX8_passesBy 64 = .ok (.invokevirtual 148, 3) := by decide +kernel
theorem dX8_passesBy_67 : decode cX8_passesBy 67 = .ok (.aload_n 0, 1) := by decide +kernel
theorem dX8_passesBy_68 : decode cX8_passesBy 68 = .ok (.bipush 11, 2) := by decide +kernel
theorem dX8_passesBy_70 : decode cX8_passesBy 70 = .ok (.bipush 8, 2) := by decide +kernel
theorem dX8_passesBy_72 : decode cX8_passesBy 72 = .ok (.invokevirtual 142, 3) := by decide +kernel
theorem dX8_passesBy_75 : decode cX8_passesBy 75 = .ok (.aload_n 0, 1) := by decide +kernel
theorem dX8_passesBy_76 : decode cX8_passesBy 76 = .ok (.bipush 10, 2) := by decide +kernel
theorem dX8_passesBy_78 : decode cX8_passesBy 78 = .ok (.bipush 11, 2) := by decide +kernel
theorem dX8_passesBy_80 : decode cX8_passesBy 80 = .ok (.invokevirtual 139, 3) := by decide +kernel
theorem dX8_passesBy_83 : decode cX8_passesBy 83 = .ok (.aload_n 0, 1) := by decide +kernel
theorem dX8_passesBy_84 : decode cX8_passesBy 84 = .ok (.bipush 10, 2) := by decide +kernel
theorem dX8_passesBy_86 : decode cX8_passesBy 86 = .ok (.bipush 13, 2) := by decide +kernel
theorem dX8_passesBy_88 : decode cX8_passesBy 88 = .ok (.invokevirtual 200, 3) := by decide +kernel
theorem dX8_passesBy_91 : decode cX8_passesBy 91 = .ok (.ifCond .ne 7, 3) := by decide +kernel
theorem dX8_passesBy_94 : decode cX8_passesBy 94 = .ok (.iconst 1, 1) := by decide +kernel
theorem dX8_passesBy_95 : decode cX8_passesBy 95 = .ok (.goto 4, 3) := by decide +kernel
theorem dX8_passesBy_98 : decode cX8_passesBy 98 = .ok (.iconst 0, 1) := by decide +kernel
theorem dX8_passesBy_99 : decode cX8_passesBy 99 = .ok (.istore_n 3, 1) := by decide +kernel
theorem dX8_passesBy_100 : decode cX8_passesBy 100 = .ok (.iinc 4 1, 3) := by decide +kernel
theorem dX8_passesBy_103 : decode cX8_passesBy 103 = .ok (.goto (-56), 3) := by decide +kernel
theorem dX8_passesBy_106 : decode cX8_passesBy 106 = .ok (.iload_n 3, 1) := by decide +kernel
theorem dX8_passesBy_107 : decode cX8_passesBy 107 = .ok (.ireturn, 1) := by decide +kernel
theorem dX8_passes_0 : decode cX8_passes 0 = .ok (.aload_n 0, 1) := by decide +kernel
theorem dX8_passes_1 : decode cX8_passes 1 = .ok (.bipush 13, 2) := by decide +kernel
theorem dX8_passes_3 : decode cX8_passes 3 = .ok (.bipush 8, 2) := by decide +kernel
theorem dX8_passes_5 : decode cX8_passes 5 = .ok (.invokevirtual 139, 3) := by decide +kernel
theorem dX8_passes_8 : decode cX8_passes 8 = .ok (.aload_n 0, 1) := by decide +kernel
theorem dX8_passes_9 : decode cX8_passes 9 = .ok (.bipush 13, 2) := by decide +kernel
theorem dX8_passes_11 : decode cX8_passes 11 = .ok (.iconst 1, 1) := by decide +kernel
theorem dX8_passes_12 : decode cX8_passes 12 = .ok (.invokevirtual 203, 3) := by decide +kernel
theorem dX8_passes_15 : decode cX8_passes 15 = .ok (.aload_n 0, 1) := by decide +kernel
theorem dX8_passes_16 : decode cX8_passes 16 = .ok (.bipush 14, 2) := by decide +kernel
theorem dX8_passes_18 : decode cX8_passes 18 = .ok (.bipush 13, 2) := by decide +kernel
theorem dX8_passes_20 : decode cX8_passes 20 = .ok (.invokevirtual 139, 3) := by decide +kernel
theorem dX8_passes_23 : decode cX8_passes 23 = .ok (.iconst 0, 1) := by decide +kernel
theorem dX8_passes_24 : decode cX8_passes 24 = .ok (.istore_n 1, 1) := by decide +kernel
theorem dX8_passes_25 : decode cX8_passes 25 = .ok (.aload_n 0, 1) := by decide +kernel
theorem dX8_passes_26 : decode cX8_passes 26 = .ok (.bipush 14, 2) := by decide +kernel
theorem dX8_passes_28 : decode cX8_passes 28 = .ok (.iconst 0, 1) := by decide +kernel
theorem dX8_passes_29 : decode cX8_passes 29 = .ok (.invokevirtual 151, 3) := by decide +kernel
theorem dX8_passes_32 : decode cX8_passes 32 = .ok (.ifCond .ne 16, 3) := by decide +kernel
theorem dX8_passes_35 : decode cX8_passes 35 = .ok (.aload_n 0, 1) := by decide +kernel
theorem dX8_passes_36 : decode cX8_passes 36 = .ok (.bipush 14, 2) := by decide +kernel
theorem dX8_passes_38 : decode cX8_passes 38 = .ok (.iconst 1, 1) := by decide +kernel
theorem dX8_passes_39 : decode cX8_passes 39 = .ok (.invokevirtual 135, 3) := by decide +kernel
theorem dX8_passes_42 : decode cX8_passes 42 = .ok (.iinc 1 1, 3) := by decide +kernel
theorem dX8_passes_45 : decode cX8_passes 45 = .ok (.goto (-20), 3) := by decide +kernel
theorem dX8_passes_48 : decode cX8_passes 48 = .ok (.iconst 1, 1) := by decide +kernel
theorem dX8_passes_49 : decode cX8_passes 49 = .ok (.istore_n 2, 1) := by decide +kernel
theorem dX8_passes_50 : decode cX8_passes 50 = .ok (.iconst 0, 1) := by decide +kernel
theorem dX8_passes_51 : decode cX8_passes 51 = .ok (.istore_n 3, 1) := by decide +kernel
theorem dX8_passes_52 : decode cX8_passes 52 = .ok (.iload_n 3, 1) := by decide +kernel
theorem dX8_passes_53 : decode cX8_passes 53 = .ok (.aload_n 0, 1) := by decide +kernel
theorem dX8_passes_54 : decode cX8_passes 54 = .ok (.getfield 113, 3) := by decide +kernel
theorem dX8_passes_57 : decode cX8_passes 57 = .ok (.if_icmp .ge 23, 3) := by decide +kernel
theorem dX8_passes_60 : decode cX8_passes 60 = .ok (.iload_n 2, 1) := by decide +kernel
theorem dX8_passes_61 : decode cX8_passes 61 = .ok (.ifCond .eq 19, 3) := by decide +kernel
theorem dX8_passes_64 : decode cX8_passes 64 = .ok (.aload_n 0, 1) := by decide +kernel
theorem dX8_passes_65 : decode cX8_passes 65 = .ok (.iload_n 3, 1) := by decide +kernel
theorem dX8_passes_66 : decode cX8_passes 66 = .ok (.invokestatic 206, 3) := by decide +kernel
theorem dX8_passes_69 : decode cX8_passes 69 = .ok (.iload_n 1, 1) := by decide +kernel
theorem dX8_passes_70 : decode cX8_passes 70 = .ok (.invokevirtual 209, 3) := by decide +kernel
theorem dX8_passes_73 : decode cX8_passes 73 = .ok (.istore_n 2, 1) := by decide +kernel
theorem dX8_passes_74 : decode cX8_passes 74 = .ok (.iinc 3 1, 3) := by decide +kernel
theorem dX8_passes_77 : decode cX8_passes 77 = .ok (.goto (-25), 3) := by decide +kernel
theorem dX8_passes_80 : decode cX8_passes 80 = .ok (.iload_n 2, 1) := by decide +kernel
theorem dX8_passes_81 : decode cX8_passes 81 = .ok (.ireturn, 1) := by decide +kernel
theorem dX8_isGood_0 : decode cX8_isGood 0 = .ok (.aload_n 0, 1) := by decide +kernel
theorem dX8_isGood_1 : decode cX8_isGood 1 = .ok (.invokevirtual 212, 3) := by decide +kernel
theorem dX8_isGood_4 : decode cX8_isGood 4 = .ok (.ifCond .eq 5, 3) := by decide +kernel
theorem dX8_isGood_7 : decode cX8_isGood 7 = .ok (.iconst 0, 1) := by decide +kernel
theorem dX8_isGood_8 : decode cX8_isGood 8 = .ok (.ireturn, 1) := by decide +kernel
theorem dX8_isGood_9 : decode cX8_isGood 9 = .ok (.aload_n 0, 1) := by decide +kernel
theorem dX8_isGood_10 : decode cX8_isGood 10 = .ok (.dup, 1) := by decide +kernel
theorem dX8_isGood_11 : decode cX8_isGood 11 = .ok (.getfield 216, 3) := by decide +kernel
theorem dX8_isGood_14 : decode cX8_isGood 14 = .ok (.iconst 1, 1) := by decide +kernel
theorem dX8_isGood_15 : decode cX8_isGood 15 = .ok (.iadd, 1) := by decide +kernel
theorem dX8_isGood_16 : decode cX8_isGood 16 = .ok (.putfield 216, 3) := by decide +kernel
theorem dX8_isGood_19 : decode cX8_isGood 19 = .ok (.aload_n 0, 1) := by decide +kernel
theorem dX8_isGood_20 : decode cX8_isGood 20 = .ok (.bipush 8, 2) := by decide +kernel
theorem dX8_isGood_22 : decode cX8_isGood 22 = .ok (.ldc 219, 2) := by decide +kernel
theorem dX8_isGood_24 : decode cX8_isGood 24 = .ok (.invokevirtual 191, 3) := by decide +kernel
theorem dX8_isGood_27 : decode cX8_isGood 27 = .ok (.iconst 1, 1) := by decide +kernel
theorem dX8_isGood_28 : decode cX8_isGood 28 = .ok (.if_icmp .eq 31, 3) := by decide +kernel
theorem dX8_isGood_31 : decode cX8_isGood 31 = .ok (.aload_n 0, 1) := by decide +kernel
theorem dX8_isGood_32 : decode cX8_isGood 32 = .ok (.getfield 220, 3) := by decide +kernel
theorem dX8_isGood_35 : decode cX8_isGood 35 = .ok (.ifCond .eq 13, 3) := by decide +kernel
theorem dX8_isGood_38 : decode cX8_isGood 38 = .ok (.aload_n 0, 1) := by decide +kernel
theorem dX8_isGood_39 : decode cX8_isGood 39 = .ok (.bipush 8, 2) := by decide +kernel
theorem dX8_isGood_41 : decode cX8_isGood 41 = .ok (.iconst 2, 1) := by decide +kernel
theorem dX8_isGood_42 : decode cX8_isGood 42 = .ok (.invokevirtual 200, 3) := by decide +kernel
theorem dX8_isGood_45 : decode cX8_isGood 45 = .ok (.ifCond .eq 14, 3) := by decide +kernel
theorem dX8_isGood_48 : decode cX8_isGood 48 = .ok (.aload_n 0, 1) := by decide +kernel
theorem dX8_isGood_49 : decode cX8_isGood 49 = .ok (.invokevirtual 223, 3) := by decide +kernel
theorem dX8_isGood_52 : decode cX8_isGood 52 = .ok (.ifCond .eq 7, 3) := by decide +kernel
theorem dX8_isGood_55 : decode cX8_isGood 55 = .ok (.iconst 1, 1) := by decide +kernel
theorem dX8_isGood_56 : decode cX8_isGood 56 = .ok (.goto 4, 3) := by decide +kernel
theorem dX8_isGood_59 : decode cX8_isGood 59 = .ok (.iconst 0, 1) := by decide +kernel
theorem dX8_isGood_60 : decode cX8_isGood 60 = .ok (.ireturn, 1) := by decide +kernel
theorem dX8_inverse_0 : decode cX8_inverse 0 = .ok (.aload_n 0, 1) := by decide +kernel
theorem dX8_inverse_1 : decode cX8_inverse 1 = .ok (.iload_n 2, 1) := by decide +kernel
theorem dX8_inverse_2 : decode cX8_inverse 2 = .ok (.ldc 219, 2) := by decide +kernel
theorem dX8_inverse_4 : decode cX8_inverse 4 = .ok (.invokevirtual 191, 3) := by decide +kernel
theorem dX8_inverse_7 : decode cX8_inverse 7 = .ok (.i2l, 1) := by decide +kernel
theorem dX8_inverse_8 : decode cX8_inverse 8 = .ok (.lstore_n 3, 1) := by decide +kernel
theorem dX8_inverse_9 : decode cX8_inverse 9 = .ok (.lconst 1, 1) := by decide +kernel
theorem dX8_inverse_10 : decode cX8_inverse 10 = .ok (.lstore 5, 2) := by decide +kernel
theorem dX8_inverse_12 : decode cX8_inverse 12 = .ok (.iconst 0, 1) := by decide +kernel
theorem dX8_inverse_13 : decode cX8_inverse 13 = .ok (.istore 7, 2) := by decide +kernel
theorem dX8_inverse_15 : decode cX8_inverse 15 = .ok (.iload 7, 2) := by decide +kernel
theorem dX8_inverse_17 : decode cX8_inverse 17 = .ok (.ldc 124, 2) := by decide +kernel
theorem dX8_inverse_19 : decode cX8_inverse 19 = .ok (.if_icmp .ge 19, 3) := by decide +kernel
theorem dX8_inverse_22 : decode cX8_inverse 22 = .ok (.lload 5, 2) := by decide +kernel
theorem dX8_inverse_24 : decode cX8_inverse 24 = .ok (.lload_n 3, 1) := by decide +kernel
theorem dX8_inverse_25 : decode cX8_inverse 25 = .ok (.lmul, 1) := by decide +kernel
theorem dX8_inverse_26 : decode cX8_inverse 26 = .ok (.ldc2_w 226, 3) := by decide +kernel
theorem dX8_inverse_29 : decode cX8_inverse 29 = .ok (.lrem, 1) := by decide +kernel
theorem dX8_inverse_30 : decode cX8_inverse 30 = .ok (.lstore 5, 2) := by decide +kernel
theorem dX8_inverse_32 : decode cX8_inverse 32 = .ok (.iinc 7 1, 3) := by decide +kernel
theorem dX8_inverse_35 : decode cX8_inverse 35 = .ok (.goto (-20), 3) := by decide +kernel
theorem dX8_inverse_38 : decode cX8_inverse 38 = .ok (.aload_n 0, 1) := by decide +kernel
theorem dX8_inverse_39 : decode cX8_inverse 39 = .ok (.iload_n 1, 1) := by decide +kernel
theorem dX8_inverse_40 : decode cX8_inverse 40 = .ok (.iload_n 2, 1) := by decide +kernel
theorem dX8_inverse_41 : decode cX8_inverse 41 = .ok (.invokevirtual 139, 3) := by decide +kernel
theorem dX8_inverse_44 : decode cX8_inverse 44 = .ok (.aload_n 0, 1) := by decide +kernel
theorem dX8_inverse_45 : decode cX8_inverse 45 = .ok (.iload_n 1, 1) := by decide +kernel
theorem dX8_inverse_46 : decode cX8_inverse 46 = .ok (.ldc2_w 226, 3) := by decide +kernel
theorem dX8_inverse_49 : decode cX8_inverse 49 = .ok (.lload 5, 2) := by decide +kernel
theorem dX8_inverse_51 : decode cX8_inverse 51 = .ok (.lsub, 1) := by decide +kernel
theorem dX8_inverse_52 : decode cX8_inverse 52 = .ok (.ldc2_w 226, 3) := by decide +kernel
theorem dX8_inverse_55 : decode cX8_inverse 55 = .ok (.lrem, 1) := by decide +kernel
theorem dX8_inverse_56 : decode cX8_inverse 56 = .ok (.l2i, 1) := by decide +kernel
theorem dX8_inverse_57 : decode cX8_inverse 57 = .ok (.iconst 1, 1) := by decide +kernel
theorem dX8_inverse_58 : decode cX8_inverse 58 = .ok (.invokevirtual 228, 3) := by decide +kernel
theorem dX8_inverse_61 : decode cX8_inverse 61 = .ok (.aload_n 0, 1) := by decide +kernel
theorem dX8_inverse_62 : decode cX8_inverse 62 = .ok (.iload_n 1, 1) := by decide +kernel
theorem dX8_inverse_63 : decode cX8_inverse 63 = .ok (.ldc 219, 2) := by decide +kernel
theorem dX8_inverse_65 : decode cX8_inverse 65 = .ok (.invokevirtual 231, 3) := by decide +kernel
theorem dX8_inverse_68 : decode cX8_inverse 68 = .ok (.return_, 1) := by decide +kernel
theorem dX8_makesKey_0 : decode cX8_makesKey 0 = .ok (.aload_n 0, 1) := by decide +kernel
theorem dX8_makesKey_1 : decode cX8_makesKey 1 = .ok (.iconst 2, 1) := by decide +kernel
theorem dX8_makesKey_2 : decode cX8_makesKey 2 = .ok (.iconst 3, 1) := by decide +kernel
theorem dX8_makesKey_3 : decode cX8_makesKey 3 = .ok (.invokevirtual 200, 3) := by decide +kernel
theorem dX8_makesKey_6 : decode cX8_makesKey 6 = .ok (.ifCond .ge 23, 3) := by decide +kernel
theorem dX8_makesKey_9 : decode cX8_makesKey 9 = .ok (.aload_n 0, 1) := by decide +kernel
theorem dX8_makesKey_10 : decode cX8_makesKey 10 = .ok (.bipush 15, 2) := by decide +kernel
theorem dX8_makesKey_12 : decode cX8_makesKey 12 = .ok (.iconst 2, 1) := by decide +kernel
theorem dX8_makesKey_13 : decode cX8_makesKey 13 = .ok (.invokevirtual 139, 3) := by decide +kernel
theorem dX8_makesKey_16 : decode cX8_makesKey 16 = .ok (.aload_n 0, 1) := by decide +kernel
theorem dX8_makesKey_17 : decode cX8_makesKey 17 = .ok (.iconst 2, 1) := by decide +kernel
theorem dX8_makesKey_18 : decode cX8_makesKey 18 = .ok (.iconst 3, 1) := by decide +kernel
theorem dX8_makesKey_19 : decode cX8_makesKey 19 = .ok (.invokevirtual 139, 3) := by decide +kernel
theorem dX8_makesKey_22 : decode cX8_makesKey 22 = .ok (.aload_n 0, 1) := by decide +kernel
theorem dX8_makesKey_23 : decode cX8_makesKey 23 = .ok (.iconst 3, 1) := by decide +kernel
theorem dX8_makesKey_24 : decode cX8_makesKey 24 = .ok (.bipush 15, 2) := by decide +kernel
theorem dX8_makesKey_26 : decode cX8_makesKey 26 = .ok (.invokevirtual 139, 3) := by decide +kernel
theorem dX8_makesKey_29 : decode cX8_makesKey 29 = .ok (.aload_n 0, 1) := by decide +kernel
theorem dX8_makesKey_30 : decode cX8_makesKey 30 = .ok (.iconst 0, 1) := by decide +kernel
theorem dX8_makesKey_31 : decode cX8_makesKey 31 = .ok (.iconst 2, 1) := by decide +kernel
theorem dX8_makesKey_32 : decode cX8_makesKey 32 = .ok (.iconst 3, 1) := by decide +kernel
theorem dX8_makesKey_33 : decode cX8_makesKey 33 = .ok (.invokevirtual 148, 3) := by decide +kernel
theorem dX8_makesKey_36 : decode cX8_makesKey 36 = .ok (.aload_n 0, 1) := by decide +kernel
theorem dX8_makesKey_37 : decode cX8_makesKey 37 = .ok (.bipush 15, 2) := by decide +kernel
theorem dX8_makesKey_39 : decode cX8_makesKey 39 = .ok (.iconst 2, 1) := by decide +kernel
theorem dX8_makesKey_40 : decode cX8_makesKey 40 = .ok (.invokevirtual 139, 3) := by decide +kernel
theorem dX8_makesKey_43 : decode cX8_makesKey 43 = .ok (.aload_n 0, 1) := by decide +kernel
theorem dX8_makesKey_44 : decode cX8_makesKey 44 = .ok (.bipush 15, 2) := by decide +kernel
theorem dX8_makesKey_46 : decode cX8_makesKey 46 = .ok (.iconst 1, 1) := by decide +kernel
theorem dX8_makesKey_47 : decode cX8_makesKey 47 = .ok (.invokevirtual 203, 3) := by decide +kernel
theorem dX8_makesKey_50 : decode cX8_makesKey 50 = .ok (.aload_n 0, 1) := by decide +kernel
theorem dX8_makesKey_51 : decode cX8_makesKey 51 = .ok (.bipush 16, 2) := by decide +kernel
theorem dX8_makesKey_53 : decode cX8_makesKey 53 = .ok (.iconst 3, 1) := by decide +kernel
theorem dX8_makesKey_54 : decode cX8_makesKey 54 = .ok (.invokevirtual 139, 3) := by decide +kernel
theorem dX8_makesKey_57 : decode cX8_makesKey 57 = .ok (.aload_n 0, 1) := by decide +kernel
theorem dX8_makesKey_58 : decode cX8_makesKey 58 = .ok (.bipush 16, 2) := by decide +kernel
theorem dX8_makesKey_60 : decode cX8_makesKey 60 = .ok (.iconst 1, 1) := by decide +kernel
theorem dX8_makesKey_61 : decode cX8_makesKey 61 = .ok (.invokevirtual 203, 3) := by decide +kernel
theorem dX8_makesKey_64 : decode cX8_makesKey 64 = .ok (.aload_n 0, 1) := by decide +kernel
theorem dX8_makesKey_65 : decode cX8_makesKey 65 = .ok (.iconst 4, 1) := by decide +kernel
theorem dX8_makesKey_66 : decode cX8_makesKey 66 = .ok (.bipush 15, 2) := by decide +kernel
theorem dX8_makesKey_68 : decode cX8_makesKey 68 = .ok (.invokevirtual 234, 3) := by decide +kernel
theorem dX8_makesKey_71 : decode cX8_makesKey 71 = .ok (.aload_n 0, 1) := by decide +kernel
theorem dX8_makesKey_72 : decode cX8_makesKey 72 = .ok (.iconst 5, 1) := by decide +kernel
theorem dX8_makesKey_73 : decode cX8_makesKey 73 = .ok (.bipush 16, 2) := by decide +kernel
theorem dX8_makesKey_75 : decode cX8_makesKey 75 = .ok (.invokevirtual 234, 3) := by decide +kernel
theorem dX8_makesKey_78 : decode cX8_makesKey 78 = .ok (.aload_n 0, 1) := by decide +kernel
theorem dX8_makesKey_79 : decode cX8_makesKey 79 = .ok (.bipush 18, 2) := by decide +kernel
theorem dX8_makesKey_81 : decode cX8_makesKey 81 = .ok (.bipush 15, 2) := by decide +kernel
theorem dX8_makesKey_83 : decode cX8_makesKey 83 = .ok (.bipush 16, 2) := by decide +kernel
theorem dX8_makesKey_85 : decode cX8_makesKey 85 = .ok (.invokevirtual 148, 3) := by decide +kernel
theorem dX8_makesKey_88 : decode cX8_makesKey 88 = .ok (.aload_n 0, 1) := by decide +kernel
theorem dX8_makesKey_89 : decode cX8_makesKey 89 = .ok (.iconst 1, 1) := by decide +kernel
theorem dX8_makesKey_90 : decode cX8_makesKey 90 = .ok (.bipush 18, 2) := by decide +kernel
theorem dX8_makesKey_92 : decode cX8_makesKey 92 = .ok (.invokevirtual 234, 3) := by decide +kernel
theorem dX8_makesKey_95 : decode cX8_makesKey 95 = .ok (.aload_n 0, 1) := by decide +kernel
theorem dX8_makesKey_96 : decode cX8_makesKey 96 = .ok (.bipush 15, 2) := by decide +kernel
theorem dX8_makesKey_98 : decode cX8_makesKey 98 = .ok (.iconst 1, 1) := by decide +kernel
theorem dX8_makesKey_99 : decode cX8_makesKey 99 = .ok (.invokevirtual 203, 3) := by decide +kernel
theorem dX8_makesKey_102 : decode cX8_makesKey 102 = .ok (.aload_n 0, 1) := by decide +kernel
theorem dX8_makesKey_103 : decode cX8_makesKey 103 = .ok (.iconst 3, 1) := by decide +kernel
theorem dX8_makesKey_104 : decode cX8_makesKey 104 = .ok (.bipush 15, 2) := by decide +kernel
theorem dX8_makesKey_106 : decode cX8_makesKey 106 = .ok (.iconst 2, 1) := by decide +kernel
theorem dX8_makesKey_107 : decode cX8_makesKey 107 = .ok (.invokevirtual 194, 3) := by decide +kernel
theorem dX8_makesKey_110 : decode cX8_makesKey 110 = .ok (.aload_n 0, 1) := by decide +kernel
theorem dX8_makesKey_111 : decode cX8_makesKey 111 = .ok (.bipush 6, 2) := by decide +kernel
theorem dX8_makesKey_113 : decode cX8_makesKey 113 = .ok (.bipush 10, 2) := by decide +kernel
theorem dX8_makesKey_115 : decode cX8_makesKey 115 = .ok (.invokevirtual 139, 3) := by decide +kernel
theorem dX8_makesKey_118 : decode cX8_makesKey 118 = .ok (.aload_n 0, 1) := by decide +kernel
theorem dX8_makesKey_119 : decode cX8_makesKey 119 = .ok (.iconst 1, 1) := by decide +kernel
theorem dX8_makesKey_120 : decode cX8_makesKey 120 = .ok (.putfield 237, 3) := by decide +kernel
theorem dX8_makesKey_123 : decode cX8_makesKey 123 = .ok (.return_, 1) := by decide +kernel
theorem dX8_examines_0 : decode cX8_examines 0 = .ok (.aload_n 0, 1) := by decide +kernel
theorem dX8_examines_1 : decode cX8_examines 1 = .ok (.bipush 8, 2) := by decide +kernel
theorem dX8_examines_3 : decode cX8_examines 3 = .ok (.invokevirtual 116, 3) := by decide +kernel
theorem dX8_examines_6 : decode cX8_examines 6 = .ok (.iconst 0, 1) := by decide +kernel
theorem dX8_examines_7 : decode cX8_examines 7 = .ok (.istore_n 1, 1) := by decide +kernel
theorem dX8_examines_8 : decode cX8_examines 8 = .ok (.iload_n 1, 1) := by decide +kernel
theorem dX8_examines_9 : decode cX8_examines 9 = .ok (.aload_n 0, 1) := by decide +kernel
theorem dX8_examines_10 : decode cX8_examines 10 = .ok (.getfield 109, 3) := by decide +kernel
theorem dX8_examines_13 : decode cX8_examines 13 = .ok (.if_icmp .ge 54, 3) := by decide +kernel
theorem dX8_examines_16 : decode cX8_examines 16 = .ok (.aload_n 0, 1) := by decide +kernel
theorem dX8_examines_17 : decode cX8_examines 17 = .ok (.invokevirtual 240, 3) := by decide +kernel
theorem dX8_examines_20 : decode cX8_examines 20 = .ok (.istore_n 2, 1) := by decide +kernel
theorem dX8_examines_21 : decode cX8_examines 21 = .ok (.aload_n 0, 1) := by decide +kernel
theorem dX8_examines_22 : decode cX8_examines 22 = .ok (.bipush 8, 2) := by decide +kernel
theorem dX8_examines_24 : decode cX8_examines 24 = .ok (.aload_n 0, 1) := by decide +kernel
theorem dX8_examines_25 : decode cX8_examines 25 = .ok (.getfield 109, 3) := by decide +kernel
theorem dX8_examines_28 : decode cX8_examines 28 = .ok (.iload_n 1, 1) := by decide +kernel
theorem dX8_examines_29 : decode cX8_examines 29 = .ok (.iload_n 2, 1) := by decide +kernel
theorem dX8_examines_30 : decode cX8_examines 30 = .ok (.iload_n 1, 1) := by decide +kernel
theorem dX8_examines_31 : decode cX8_examines 31 = .ok (.ifCond .ne 9, 3) := by decide +kernel
theorem dX8_examines_34 : decode cX8_examines 34 = .ok (.sipush 192, 3) := by decide +kernel
theorem dX8_examines_37 : decode cX8_examines 37 = .ok (.goto 4, 3) := by decide +kernel
theorem dX8_examines_40 : decode cX8_examines 40 = .ok (.iconst 0, 1) := by decide +kernel
theorem dX8_examines_41 : decode cX8_examines 41 = .ok (.ior, 1) := by decide +kernel
theorem dX8_examines_42 : decode cX8_examines 42 = .ok (.iload_n 1, 1) := by decide +kernel
theorem dX8_examines_43 : decode cX8_examines 43 = .ok (.aload_n 0, 1) := by decide +kernel
theorem dX8_examines_44 : decode cX8_examines 44 = .ok (.getfield 109, 3) := by decide +kernel
theorem dX8_examines_47 : decode cX8_examines 47 = .ok (.iconst 1, 1) := by decide +kernel
theorem dX8_examines_48 : decode cX8_examines 48 = .ok (.isub, 1) := by decide +kernel
theorem dX8_examines_49 : decode cX8_examines 49 = .ok (.if_icmp .ne 7, 3) := by decide +kernel
theorem dX8_examines_52 : decode cX8_examines 52 = .ok (.iconst 1, 1) := by decide +kernel
theorem dX8_examines_53 : decode cX8_examines 53 = .ok (.goto 4, 3) := by decide +kernel
theorem dX8_examines_56 : decode cX8_examines 56 = .ok (.iconst 0, 1) := by decide +kernel
theorem dX8_examines_57 : decode cX8_examines 57 = .ok (.ior, 1) := by decide +kernel
theorem dX8_examines_58 : decode cX8_examines 58 = .ok (.invokevirtual 244, 3) := by decide +kernel
theorem dX8_examines_61 : decode cX8_examines 61 = .ok (.iinc 1 1, 3) := by decide +kernel
theorem dX8_examines_64 : decode cX8_examines 64 = .ok (.goto (-56), 3) := by decide +kernel
theorem dX8_examines_67 : decode cX8_examines 67 = .ok (.aload_n 0, 1) := by decide +kernel
theorem dX8_examines_68 : decode cX8_examines 68 = .ok (.dup, 1) := by decide +kernel
theorem dX8_examines_69 : decode cX8_examines 69 = .ok (.getfield 248, 3) := by decide +kernel
theorem dX8_examines_72 : decode cX8_examines 72 = .ok (.iconst 1, 1) := by decide +kernel
theorem dX8_examines_73 : decode cX8_examines 73 = .ok (.iadd, 1) := by decide +kernel
theorem dX8_examines_74 : decode cX8_examines 74 = .ok (.putfield 248, 3) := by decide +kernel
theorem dX8_examines_77 : decode cX8_examines 77 = .ok (.aload_n 0, 1) := by decide +kernel
theorem dX8_examines_78 : decode cX8_examines 78 = .ok (.invokevirtual 251, 3) := by decide +kernel
theorem dX8_examines_81 : decode cX8_examines 81 = .ok (.ifCond .eq 37, 3) := by decide +kernel
theorem dX8_examines_84 : decode cX8_examines 84 = .ok (.aload_n 0, 1) := by decide +kernel
theorem dX8_examines_85 : decode cX8_examines 85 = .ok (.aload_n 0, 1) := by decide +kernel
theorem dX8_examines_86 : decode cX8_examines 86 = .ok (.getfield 220, 3) := by decide +kernel
theorem dX8_examines_89 : decode cX8_examines 89 = .ok (.ifCond .eq 7, 3) := by decide +kernel
theorem dX8_examines_92 : decode cX8_examines 92 = .ok (.iconst 3, 1) := by decide +kernel
theorem dX8_examines_93 : decode cX8_examines 93 = .ok (.goto 4, 3) := by decide +kernel
theorem dX8_examines_96 : decode cX8_examines 96 = .ok (.iconst 2, 1) := by decide +kernel
theorem dX8_examines_97 : decode cX8_examines 97 = .ok (.bipush 8, 2) := by decide +kernel
theorem dX8_examines_99 : decode cX8_examines 99 = .ok (.invokevirtual 139, 3) := by decide +kernel
theorem dX8_examines_102 : decode cX8_examines 102 = .ok (.aload_n 0, 1) := by decide +kernel
theorem dX8_examines_103 : decode cX8_examines 103 = .ok (.getfield 220, 3) := by decide +kernel
theorem dX8_examines_106 : decode cX8_examines 106 = .ok (.ifCond .eq 7, 3) := by decide +kernel
theorem dX8_examines_109 : decode cX8_examines 109 = .ok (.aload_n 0, 1) := by decide +kernel
theorem dX8_examines_110 : decode cX8_examines 110 = .ok (.invokevirtual 254, 3) := by decide +kernel
theorem dX8_examines_113 : decode cX8_examines 113 = .ok (.aload_n 0, 1) := by decide +kernel
theorem dX8_examines_114 : decode cX8_examines 114 = .ok (.iconst 1, 1) := by decide +kernel
theorem dX8_examines_115 : decode cX8_examines 115 = .ok (.putfield 220, 3) := by decide +kernel
theorem dX8_examines_118 : decode cX8_examines 118 = .ok (.return_, 1) := by decide +kernel
theorem dX8_search_0 : decode cX8_search 0 = .ok (.iload_n 1, 1) := by decide +kernel
theorem dX8_search_1 : decode cX8_search 1 = .ok (.iconst 1, 1) := by decide +kernel
theorem dX8_search_2 : decode cX8_search 2 = .ok (.bipush 60, 2) := by decide +kernel
theorem dX8_search_4 : decode cX8_search 4 = .ok (.invokestatic 257, 3) := by decide +kernel
theorem dX8_search_7 : decode cX8_search 7 = .ok (.ifCond .ne 6, 3) := by decide +kernel
theorem dX8_search_10 : decode cX8_search 10 = .ok (.bipush (-2), 2) := by decide +kernel
theorem dX8_search_12 : decode cX8_search 12 = .ok (.ireturn, 1) := by decide +kernel
theorem dX8_search_13 : decode cX8_search 13 = .ok (.aload_n 0, 1) := by decide +kernel
theorem dX8_search_14 : decode cX8_search 14 = .ok (.getfield 173, 3) := by decide +kernel
theorem dX8_search_17 : decode cX8_search 17 = .ok (.ifCond .ne 6, 3) := by decide +kernel
theorem dX8_search_20 : decode cX8_search 20 = .ok (.bipush (-3), 2) := by decide +kernel
theorem dX8_search_22 : decode cX8_search 22 = .ok (.ireturn, 1) := by decide +kernel
theorem dX8_search_23 : decode cX8_search 23 = .ok (.aload_n 0, 1) := by decide +kernel
theorem dX8_search_24 : decode cX8_search 24 = .ok (.iconst 1, 1) := by decide +kernel
theorem dX8_search_25 : decode cX8_search 25 = .ok (.putfield 169, 3) := by decide +kernel
theorem dX8_search_28 : decode cX8_search 28 = .ok (.iconst 0, 1) := by decide +kernel
theorem dX8_search_29 : decode cX8_search 29 = .ok (.istore_n 2, 1) := by decide +kernel
theorem dX8_search_30 : decode cX8_search 30 = .ok (.iload_n 2, 1) := by decide +kernel
theorem dX8_search_31 : decode cX8_search 31 = .ok (.iload_n 1, 1) := by decide +kernel
theorem dX8_search_32 : decode cX8_search 32 = .ok (.if_icmp .ge 20, 3) := by decide +kernel
theorem dX8_search_35 : decode cX8_search 35 = .ok (.aload_n 0, 1) := by decide +kernel
theorem dX8_search_36 : decode cX8_search 36 = .ok (.getfield 237, 3) := by decide +kernel
theorem dX8_search_39 : decode cX8_search 39 = .ok (.ifCond .ne 13, 3) := by decide +kernel
theorem dX8_search_42 : decode cX8_search 42 = .ok (.aload_n 0, 1) := by decide +kernel
theorem dX8_search_43 : decode cX8_search 43 = .ok (.invokevirtual 261, 3) := by decide +kernel
theorem dX8_search_46 : decode cX8_search 46 = .ok (.iinc 2 1, 3) := by decide +kernel
theorem dX8_search_49 : decode cX8_search 49 = .ok (.goto (-19), 3) := by decide +kernel
theorem dX8_search_52 : decode cX8_search 52 = .ok (.aload_n 0, 1) := by decide +kernel
theorem dX8_search_53 : decode cX8_search 53 = .ok (.getfield 237, 3) := by decide +kernel
theorem dX8_search_56 : decode cX8_search 56 = .ok (.ifCond .eq 7, 3) := by decide +kernel
theorem dX8_search_59 : decode cX8_search 59 = .ok (.iconst 1, 1) := by decide +kernel
theorem dX8_search_60 : decode cX8_search 60 = .ok (.goto 4, 3) := by decide +kernel
theorem dX8_search_63 : decode cX8_search 63 = .ok (.iconst 0, 1) := by decide +kernel
theorem dX8_search_64 : decode cX8_search 64 = .ok (.ireturn, 1) := by decide +kernel
theorem dX8_forget_0 : decode cX8_forget 0 = .ok (.aload_n 0, 1) := by decide +kernel
theorem dX8_forget_1 : decode cX8_forget 1 = .ok (.getfield 248, 3) := by decide +kernel
theorem dX8_forget_4 : decode cX8_forget 4 = .ok (.istore_n 1, 1) := by decide +kernel
theorem dX8_forget_5 : decode cX8_forget 5 = .ok (.aload_n 0, 1) := by decide +kernel
theorem dX8_forget_6 : decode cX8_forget 6 = .ok (.iconst 0, 1) := by decide +kernel
theorem dX8_forget_7 : decode cX8_forget 7 = .ok (.putfield 173, 3) := by decide +kernel
theorem dX8_forget_10 : decode cX8_forget 10 = .ok (.aload_n 0, 1) := by decide +kernel
theorem dX8_forget_11 : decode cX8_forget 11 = .ok (.iconst 0, 1) := by decide +kernel
theorem dX8_forget_12 : decode cX8_forget 12 = .ok (.putfield 169, 3) := by decide +kernel
theorem dX8_forget_15 : decode cX8_forget 15 = .ok (.aload_n 0, 1) := by decide +kernel
theorem dX8_forget_16 : decode cX8_forget 16 = .ok (.iconst 0, 1) := by decide +kernel
theorem dX8_forget_17 : decode cX8_forget 17 = .ok (.putfield 237, 3) := by decide +kernel
theorem dX8_forget_20 : decode cX8_forget 20 = .ok (.aload_n 0, 1) := by decide +kernel
theorem dX8_forget_21 : decode cX8_forget 21 = .ok (.iconst 0, 1) := by decide +kernel
theorem dX8_forget_22 : decode cX8_forget 22 = .ok (.putfield 220, 3) := by decide +kernel
theorem dX8_forget_25 : decode cX8_forget 25 = .ok (.aload_n 0, 1) := by decide +kernel
theorem dX8_forget_26 : decode cX8_forget 26 = .ok (.iconst 0, 1) := by decide +kernel
theorem dX8_forget_27 : decode cX8_forget 27 = .ok (.putfield 248, 3) := by decide +kernel
theorem dX8_forget_30 : decode cX8_forget 30 = .ok (.aload_n 0, 1) := by decide +kernel
theorem dX8_forget_31 : decode cX8_forget 31 = .ok (.iconst 0, 1) := by decide +kernel
theorem dX8_forget_32 : decode cX8_forget 32 = .ok (.putfield 216, 3) := by decide +kernel
theorem dX8_forget_35 : decode cX8_forget 35 = .ok (.aload_n 0, 1) := by decide +kernel
theorem dX8_forget_36 : decode cX8_forget 36 = .ok (.iconst 0, 1) := by decide +kernel
theorem dX8_forget_37 : decode cX8_forget 37 = .ok (.putfield 179, 3) := by decide +kernel
theorem dX8_forget_40 : decode cX8_forget 40 = .ok (.aload_n 0, 1) := by decide +kernel
theorem dX8_forget_41 : decode cX8_forget 41 = .ok (.iconst 0, 1) := by decide +kernel
theorem dX8_forget_42 : decode cX8_forget 42 = .ok (.putfield 185, 3) := by decide +kernel
theorem dX8_forget_45 : decode cX8_forget 45 = .ok (.iload_n 1, 1) := by decide +kernel
theorem dX8_forget_46 : decode cX8_forget 46 = .ok (.ireturn, 1) := by decide +kernel
theorem dX8_sizeOf_0 : decode cX8_sizeOf 0 = .ok (.iload_n 1, 1) := by decide +kernel
theorem dX8_sizeOf_1 : decode cX8_sizeOf 1 = .ok (.iconst 2, 1) := by decide +kernel
theorem dX8_sizeOf_2 : decode cX8_sizeOf 2 = .ok (.if_icmp .ge 12, 3) := by decide +kernel
theorem dX8_sizeOf_5 : decode cX8_sizeOf 5 = .ok (.iconst 2, 1) := by decide +kernel
theorem dX8_sizeOf_6 : decode cX8_sizeOf 6 = .ok (.aload_n 0, 1) := by decide +kernel
theorem dX8_sizeOf_7 : decode cX8_sizeOf 7 = .ok (.getfield 109, 3) := by decide +kernel
theorem dX8_sizeOf_10 : decode cX8_sizeOf 10 = .ok (.imul, 1) := by decide +kernel
theorem dX8_sizeOf_11 : decode cX8_sizeOf 11 = .ok (.goto 7, 3) := by decide +kernel
theorem dX8_sizeOf_14 : decode cX8_sizeOf 14 = .ok (.aload_n 0, 1) := by decide +kernel
theorem dX8_sizeOf_15 : decode cX8_sizeOf 15 = .ok (.getfield 109, 3) := by decide +kernel
theorem dX8_sizeOf_18 : decode cX8_sizeOf 18 = .ok (.ireturn, 1) := by decide +kernel
theorem dX8_key_0 : decode cX8_key 0 = .ok (.iload_n 1, 1) := by decide +kernel
theorem dX8_key_1 : decode cX8_key 1 = .ok (.iconst 0, 1) := by decide +kernel
theorem dX8_key_2 : decode cX8_key 2 = .ok (.bipush 6, 2) := by decide +kernel
theorem dX8_key_4 : decode cX8_key 4 = .ok (.invokestatic 257, 3) := by decide +kernel
theorem dX8_key_7 : decode cX8_key 7 = .ok (.ifCond .eq 18, 3) := by decide +kernel
theorem dX8_key_10 : decode cX8_key 10 = .ok (.iload_n 2, 1) := by decide +kernel
theorem dX8_key_11 : decode cX8_key 11 = .ok (.iconst 0, 1) := by decide +kernel
theorem dX8_key_12 : decode cX8_key 12 = .ok (.aload_n 0, 1) := by decide +kernel
theorem dX8_key_13 : decode cX8_key 13 = .ok (.iload_n 1, 1) := by decide +kernel
theorem dX8_key_14 : decode cX8_key 14 = .ok (.invokevirtual 264, 3) := by decide +kernel
theorem dX8_key_17 : decode cX8_key 17 = .ok (.iconst 1, 1) := by decide +kernel
theorem dX8_key_18 : decode cX8_key 18 = .ok (.isub, 1) := by decide +kernel
theorem dX8_key_19 : decode cX8_key 19 = .ok (.invokestatic 257, 3) := by decide +kernel
theorem dX8_key_22 : decode cX8_key 22 = .ok (.ifCond .ne 8, 3) := by decide +kernel
theorem dX8_key_25 : decode cX8_key 25 = .ok (.bipush (-2), 2) := by decide +kernel
theorem dX8_key_27 : decode cX8_key 27 = .ok (.goto 26, 3) := by decide +kernel
theorem dX8_key_30 : decode cX8_key 30 = .ok (.aload_n 0, 1) := by decide +kernel
theorem dX8_key_31 : decode cX8_key 31 = .ok (.getfield 237, 3) := by decide +kernel
theorem dX8_key_34 : decode cX8_key 34 = .ok (.ifCond .ne 8, 3) := by decide +kernel
theorem dX8_key_37 : decode cX8_key 37 = .ok (.bipush (-3), 2) := by decide +kernel
theorem dX8_key_39 : decode cX8_key 39 = .ok (.goto 14, 3) := by decide +kernel
theorem dX8_key_42 : decode cX8_key 42 = .ok (.aload_n 0, 1) := by decide +kernel
theorem dX8_key_43 : decode cX8_key 43 = .ok (.iload_n 1, 1) := by decide +kernel
theorem dX8_key_44 : decode cX8_key 44 = .ok (.aload_n 0, 1) := by decide +kernel
theorem dX8_key_45 : decode cX8_key 45 = .ok (.iload_n 1, 1) := by decide +kernel
theorem dX8_key_46 : decode cX8_key 46 = .ok (.invokevirtual 264, 3) := by decide +kernel
theorem dX8_key_49 : decode cX8_key 49 = .ok (.iload_n 2, 1) := by decide +kernel
theorem dX8_key_50 : decode cX8_key 50 = .ok (.invokevirtual 267, 3) := by decide +kernel
theorem dX8_key_53 : decode cX8_key 53 = .ok (.ireturn, 1) := by decide +kernel
theorem dX8_count_0 : decode cX8_count 0 = .ok (.iload_n 1, 1) := by decide +kernel
theorem dX8_count_1 : decode cX8_count 1 = .ok (.tableswitch 87 0 7 #[47, 52, 57, 62, 67, 72, 77, 82], 47) := by decide +kernel
theorem dX8_count_48 : decode cX8_count 48 = .ok (.aload_n 0, 1) := by decide +kernel
theorem dX8_count_49 : decode cX8_count 49 = .ok (.getfield 109, 3) := by decide +kernel
theorem dX8_count_52 : decode cX8_count 52 = .ok (.ireturn, 1) := by decide +kernel
theorem dX8_count_53 : decode cX8_count 53 = .ok (.aload_n 0, 1) := by decide +kernel
theorem dX8_count_54 : decode cX8_count 54 = .ok (.getfield 113, 3) := by decide +kernel
theorem dX8_count_57 : decode cX8_count 57 = .ok (.ireturn, 1) := by decide +kernel
theorem dX8_count_58 : decode cX8_count 58 = .ok (.aload_n 0, 1) := by decide +kernel
theorem dX8_count_59 : decode cX8_count 59 = .ok (.getfield 173, 3) := by decide +kernel
theorem dX8_count_62 : decode cX8_count 62 = .ok (.ireturn, 1) := by decide +kernel
theorem dX8_count_63 : decode cX8_count 63 = .ok (.aload_n 0, 1) := by decide +kernel
theorem dX8_count_64 : decode cX8_count 64 = .ok (.getfield 248, 3) := by decide +kernel
theorem dX8_count_67 : decode cX8_count 67 = .ok (.ireturn, 1) := by decide +kernel
theorem dX8_count_68 : decode cX8_count 68 = .ok (.aload_n 0, 1) := by decide +kernel
theorem dX8_count_69 : decode cX8_count 69 = .ok (.getfield 216, 3) := by decide +kernel
theorem dX8_count_72 : decode cX8_count 72 = .ok (.ireturn, 1) := by decide +kernel
theorem dX8_count_73 : decode cX8_count 73 = .ok (.aload_n 0, 1) := by decide +kernel
theorem dX8_count_74 : decode cX8_count 74 = .ok (.getfield 271, 3) := by decide +kernel
theorem dX8_count_77 : decode cX8_count 77 = .ok (.ireturn, 1) := by decide +kernel
theorem dX8_count_78 : decode cX8_count 78 = .ok (.aload_n 0, 1) := by decide +kernel
theorem dX8_count_79 : decode cX8_count 79 = .ok (.getfield 274, 3) := by decide +kernel
theorem dX8_count_82 : decode cX8_count 82 = .ok (.ireturn, 1) := by decide +kernel
theorem dX8_count_83 : decode cX8_count 83 = .ok (.aload_n 0, 1) := by decide +kernel
theorem dX8_count_84 : decode cX8_count 84 = .ok (.getfield 277, 3) := by decide +kernel
theorem dX8_count_87 : decode cX8_count 87 = .ok (.ireturn, 1) := by decide +kernel
theorem dX8_count_88 : decode cX8_count 88 = .ok (.bipush (-2), 2) := by decide +kernel
theorem dX8_count_90 : decode cX8_count 90 = .ok (.ireturn, 1) := by decide +kernel
theorem dX8_feed_0 : decode cX8_feed 0 = .ok (.iload_n 3, 1) := by decide +kernel
theorem dX8_feed_1 : decode cX8_feed 1 = .ok (.iconst 1, 1) := by decide +kernel
theorem dX8_feed_2 : decode cX8_feed 2 = .ok (.bipush 8, 2) := by decide +kernel
theorem dX8_feed_4 : decode cX8_feed 4 = .ok (.invokestatic 257, 3) := by decide +kernel
theorem dX8_feed_7 : decode cX8_feed 7 = .ok (.ifCond .ne 6, 3) := by decide +kernel
theorem dX8_feed_10 : decode cX8_feed 10 = .ok (.bipush (-2), 2) := by decide +kernel
theorem dX8_feed_12 : decode cX8_feed 12 = .ok (.ireturn, 1) := by decide +kernel
theorem dX8_feed_13 : decode cX8_feed 13 = .ok (.aload_n 0, 1) := by decide +kernel
theorem dX8_feed_14 : decode cX8_feed 14 = .ok (.getfield 271, 3) := by decide +kernel
theorem dX8_feed_17 : decode cX8_feed 17 = .ok (.iload_n 3, 1) := by decide +kernel
theorem dX8_feed_18 : decode cX8_feed 18 = .ok (.iadd, 1) := by decide +kernel
theorem dX8_feed_19 : decode cX8_feed 19 = .ok (.sipush 300, 3) := by decide +kernel
theorem dX8_feed_22 : decode cX8_feed 22 = .ok (.if_icmp .le 6, 3) := by decide +kernel
theorem dX8_feed_25 : decode cX8_feed 25 = .ok (.bipush (-4), 2) := by decide +kernel
theorem dX8_feed_27 : decode cX8_feed 27 = .ok (.ireturn, 1) := by decide +kernel
theorem dX8_feed_28 : decode cX8_feed 28 = .ok (.iload_n 3, 1) := by decide +kernel
theorem dX8_feed_29 : decode cX8_feed 29 = .ok (.iconst 1, 1) := by decide +kernel
theorem dX8_feed_30 : decode cX8_feed 30 = .ok (.isub, 1) := by decide +kernel
theorem dX8_feed_31 : decode cX8_feed 31 = .ok (.istore 4, 2) := by decide +kernel
theorem dX8_feed_33 : decode cX8_feed 33 = .ok (.iload 4, 2) := by decide +kernel
theorem dX8_feed_35 : decode cX8_feed 35 = .ok (.ifCond .lt 40, 3) := by decide +kernel
theorem dX8_feed_38 : decode cX8_feed 38 = .ok (.aload_n 0, 1) := by decide +kernel
theorem dX8_feed_39 : decode cX8_feed 39 = .ok (.getfield 103, 3) := by decide +kernel
theorem dX8_feed_42 : decode cX8_feed 42 = .ok (.aload_n 0, 1) := by decide +kernel
theorem dX8_feed_43 : decode cX8_feed 43 = .ok (.getfield 271, 3) := by decide +kernel
theorem dX8_feed_46 : decode cX8_feed 46 = .ok (.lload_n 1, 1) := by decide +kernel
theorem dX8_feed_47 : decode cX8_feed 47 = .ok (.bipush 8, 2) := by decide +kernel
theorem dX8_feed_49 : decode cX8_feed 49 = .ok (.iload 4, 2) := by decide +kernel
theorem dX8_feed_51 : decode cX8_feed 51 = .ok (.imul, 1) := by decide +kernel
theorem dX8_feed_52 : decode cX8_feed 52 = .ok (.lshr, 1) := by decide +kernel
theorem dX8_feed_53 : decode cX8_feed 53 = .ok (.l2i, 1) := by decide +kernel
theorem dX8_feed_54 : decode cX8_feed 54 = .ok (.sipush 255, 3) := by decide +kernel
theorem dX8_feed_57 : decode cX8_feed 57 = .ok (.iand, 1) := by decide +kernel
theorem dX8_feed_58 : decode cX8_feed 58 = .ok (.iastore, 1) := by decide +kernel
theorem dX8_feed_59 : decode cX8_feed 59 = .ok (.aload_n 0, 1) := by decide +kernel
theorem dX8_feed_60 : decode cX8_feed 60 = .ok (.dup, 1) := by decide +kernel
theorem dX8_feed_61 : decode cX8_feed 61 = .ok (.getfield 271, 3) := by decide +kernel
theorem dX8_feed_64 : decode cX8_feed 64 = .ok (.iconst 1, 1) := by decide +kernel
theorem dX8_feed_65 : decode cX8_feed 65 = .ok (.iadd, 1) := by decide +kernel
theorem dX8_feed_66 : decode cX8_feed 66 = .ok (.putfield 271, 3) := by decide +kernel
theorem dX8_feed_69 : decode cX8_feed 69 = .ok (.iinc 4 (-1), 3) := by decide +kernel
theorem dX8_feed_72 : decode cX8_feed 72 = .ok (.goto (-39), 3) := by decide +kernel
theorem dX8_feed_75 : decode cX8_feed 75 = .ok (.aload_n 0, 1) := by decide +kernel
theorem dX8_feed_76 : decode cX8_feed 76 = .ok (.getfield 271, 3) := by decide +kernel
theorem dX8_feed_79 : decode cX8_feed 79 = .ok (.ireturn, 1) := by decide +kernel
theorem dX8_cut_0 : decode cX8_cut 0 = .ok (.iload_n 1, 1) := by decide +kernel
theorem dX8_cut_1 : decode cX8_cut 1 = .ok (.iconst 0, 1) := by decide +kernel
theorem dX8_cut_2 : decode cX8_cut 2 = .ok (.aload_n 0, 1) := by decide +kernel
theorem dX8_cut_3 : decode cX8_cut 3 = .ok (.getfield 271, 3) := by decide +kernel
theorem dX8_cut_6 : decode cX8_cut 6 = .ok (.invokestatic 257, 3) := by decide +kernel
theorem dX8_cut_9 : decode cX8_cut 9 = .ok (.ifCond .ne 6, 3) := by decide +kernel
theorem dX8_cut_12 : decode cX8_cut 12 = .ok (.bipush (-2), 2) := by decide +kernel
theorem dX8_cut_14 : decode cX8_cut 14 = .ok (.ireturn, 1) := by decide +kernel
theorem dX8_cut_15 : decode cX8_cut 15 = .ok (.aload_n 0, 1) := by decide +kernel
theorem dX8_cut_16 : decode cX8_cut 16 = .ok (.getfield 271, 3) := by decide +kernel
theorem dX8_cut_19 : decode cX8_cut 19 = .ok (.iload_n 1, 1) := by decide +kernel
theorem dX8_cut_20 : decode cX8_cut 20 = .ok (.isub, 1) := by decide +kernel
theorem dX8_cut_21 : decode cX8_cut 21 = .ok (.istore_n 2, 1) := by decide +kernel
theorem dX8_cut_22 : decode cX8_cut 22 = .ok (.aload_n 0, 1) := by decide +kernel
theorem dX8_cut_23 : decode cX8_cut 23 = .ok (.iload_n 1, 1) := by decide +kernel
theorem dX8_cut_24 : decode cX8_cut 24 = .ok (.putfield 271, 3) := by decide +kernel
theorem dX8_cut_27 : decode cX8_cut 27 = .ok (.iload_n 2, 1) := by decide +kernel
theorem dX8_cut_28 : decode cX8_cut 28 = .ok (.ireturn, 1) := by decide +kernel
theorem dX8_hashesMessage_0 : decode cX8_hashesMessage 0 = .ok (.aload_n 0, 1) := by decide +kernel
theorem dX8_hashesMessage_1 : decode cX8_hashesMessage 1 = .ok (.aload_n 0, 1) := by decide +kernel
theorem dX8_hashesMessage_2 : decode cX8_hashesMessage 2 = .ok (.getfield 271, 3) := by decide +kernel
theorem dX8_hashesMessage_5 : decode cX8_hashesMessage 5 = .ok (.putfield 156, 3) := by decide +kernel
theorem dX8_hashesMessage_8 : decode cX8_hashesMessage 8 = .ok (.iconst 0, 1) := by decide +kernel
theorem dX8_hashesMessage_9 : decode cX8_hashesMessage 9 = .ok (.istore_n 1, 1) := by decide +kernel
theorem dX8_hashesMessage_10 : decode cX8_hashesMessage 10 = .ok (.iload_n 1, 1) := by decide +kernel
theorem dX8_hashesMessage_11 : decode cX8_hashesMessage 11 = .ok (.aload_n 0, 1) := by decide +kernel
theorem dX8_hashesMessage_12 : decode cX8_hashesMessage 12 = .ok (.getfield 271, 3) := by decide +kernel
theorem dX8_hashesMessage_15 : decode cX8_hashesMessage 15 = .ok (.if_icmp .ge 21, 3) := by decide +kernel
theorem dX8_hashesMessage_18 : decode cX8_hashesMessage 18 = .ok (.aload_n 0, 1) := by decide +kernel
theorem dX8_hashesMessage_19 : decode cX8_hashesMessage 19 = .ok (.getfield 13, 3) := by decide +kernel
theorem dX8_hashesMessage_22 : decode cX8_hashesMessage 22 = .ok (.iload_n 1, 1) := by decide +kernel
theorem dX8_hashesMessage_23 : decode cX8_hashesMessage 23 = .ok (.aload_n 0, 1) := by decide +kernel
theorem dX8_hashesMessage_24 : decode cX8_hashesMessage 24 = .ok (.getfield 103, 3) := by decide +kernel
theorem dX8_hashesMessage_27 : decode cX8_hashesMessage 27 = .ok (.iload_n 1, 1) := by decide +kernel
theorem dX8_hashesMessage_28 : decode cX8_hashesMessage 28 = .ok (.iaload, 1) := by decide +kernel
theorem dX8_hashesMessage_29 : decode cX8_hashesMessage 29 = .ok (.iastore, 1) := by decide +kernel
theorem dX8_hashesMessage_30 : decode cX8_hashesMessage 30 = .ok (.iinc 1 1, 3) := by decide +kernel
theorem dX8_hashesMessage_33 : decode cX8_hashesMessage 33 = .ok (.goto (-23), 3) := by decide +kernel
theorem dX8_hashesMessage_36 : decode cX8_hashesMessage 36 = .ok (.aload_n 0, 1) := by decide +kernel
theorem dX8_hashesMessage_37 : decode cX8_hashesMessage 37 = .ok (.invokevirtual 182, 3) := by decide +kernel
theorem dX8_hashesMessage_40 : decode cX8_hashesMessage 40 = .ok (.return_, 1) := by decide +kernel
theorem dX8_hash_0 : decode cX8_hash 0 = .ok (.iload_n 1, 1) := by decide +kernel
theorem dX8_hash_1 : decode cX8_hash 1 = .ok (.iconst 0, 1) := by decide +kernel
theorem dX8_hash_2 : decode cX8_hash 2 = .ok (.bipush 31, 2) := by decide +kernel
theorem dX8_hash_4 : decode cX8_hash 4 = .ok (.invokestatic 257, 3) := by decide +kernel
theorem dX8_hash_7 : decode cX8_hash 7 = .ok (.ifCond .ne 6, 3) := by decide +kernel
theorem dX8_hash_10 : decode cX8_hash 10 = .ok (.bipush (-2), 2) := by decide +kernel
theorem dX8_hash_12 : decode cX8_hash 12 = .ok (.ireturn, 1) := by decide +kernel
theorem dX8_hash_13 : decode cX8_hash 13 = .ok (.aload_n 0, 1) := by decide +kernel
theorem dX8_hash_14 : decode cX8_hash 14 = .ok (.invokevirtual 280, 3) := by decide +kernel
theorem dX8_hash_17 : decode cX8_hash 17 = .ok (.aload_n 0, 1) := by decide +kernel
theorem dX8_hash_18 : decode cX8_hash 18 = .ok (.iload_n 1, 1) := by decide +kernel
theorem dX8_hash_19 : decode cX8_hash 19 = .ok (.invokevirtual 188, 3) := by decide +kernel
theorem dX8_hash_22 : decode cX8_hash 22 = .ok (.ireturn, 1) := by decide +kernel
theorem dX8_encodes_0 : decode cX8_encodes 0 = .ok (.iconst 2, 1) := by decide +kernel
theorem dX8_encodes_1 : decode cX8_encodes 1 = .ok (.aload_n 0, 1) := by decide +kernel
theorem dX8_encodes_2 : decode cX8_encodes 2 = .ok (.getfield 109, 3) := by decide +kernel
theorem dX8_encodes_5 : decode cX8_encodes 5 = .ok (.imul, 1) := by decide +kernel
theorem dX8_encodes_6 : decode cX8_encodes 6 = .ok (.istore_n 1, 1) := by decide +kernel
theorem dX8_encodes_7 : decode cX8_encodes 7 = .ok (.aload_n 0, 1) := by decide +kernel
theorem dX8_encodes_8 : decode cX8_encodes 8 = .ok (.invokevirtual 280, 3) := by decide +kernel
theorem dX8_encodes_11 : decode cX8_encodes 11 = .ok (.aload_n 0, 1) := by decide +kernel
theorem dX8_encodes_12 : decode cX8_encodes 12 = .ok (.bipush 18, 2) := by decide +kernel
theorem dX8_encodes_14 : decode cX8_encodes 14 = .ok (.invokevirtual 116, 3) := by decide +kernel
theorem dX8_encodes_17 : decode cX8_encodes 17 = .ok (.iconst 0, 1) := by decide +kernel
theorem dX8_encodes_18 : decode cX8_encodes 18 = .ok (.istore_n 2, 1) := by decide +kernel
theorem dX8_encodes_19 : decode cX8_encodes 19 = .ok (.iload_n 2, 1) := by decide +kernel
theorem dX8_encodes_20 : decode cX8_encodes 20 = .ok (.iload_n 1, 1) := by decide +kernel
theorem dX8_encodes_21 : decode cX8_encodes 21 = .ok (.if_icmp .ge 82, 3) := by decide +kernel
theorem dX8_encodes_24 : decode cX8_encodes 24 = .ok (.iload_n 2, 1) := by decide +kernel
theorem dX8_encodes_25 : decode cX8_encodes 25 = .ok (.ifCond .ne 7, 3) := by decide +kernel
theorem dX8_encodes_28 : decode cX8_encodes 28 = .ok (.iconst 0, 1) := by decide +kernel
theorem dX8_encodes_29 : decode cX8_encodes 29 = .ok (.goto 58, 3) := by decide +kernel
theorem dX8_encodes_32 : decode cX8_encodes 32 = .ok (.iload_n 2, 1) := by decide +kernel
theorem dX8_encodes_33 : decode cX8_encodes 33 = .ok (.iconst 1, 1) := by decide +kernel
theorem dX8_encodes_34 : decode cX8_encodes 34 = .ok (.if_icmp .ne 7, 3) := by decide +kernel
theorem dX8_encodes_37 : decode cX8_encodes 37 = .ok (.iconst 1, 1) := by decide +kernel
theorem dX8_encodes_38 : decode cX8_encodes 38 = .ok (.goto 49, 3) := by decide +kernel
theorem dX8_encodes_41 : decode cX8_encodes 41 = .ok (.iload_n 2, 1) := by decide +kernel
theorem dX8_encodes_42 : decode cX8_encodes 42 = .ok (.iload_n 1, 1) := by decide +kernel
theorem dX8_encodes_43 : decode cX8_encodes 43 = .ok (.bipush 52, 2) := by decide +kernel
theorem dX8_encodes_45 : decode cX8_encodes 45 = .ok (.isub, 1) := by decide +kernel
theorem dX8_encodes_46 : decode cX8_encodes 46 = .ok (.if_icmp .ge 9, 3) := by decide +kernel
theorem dX8_encodes_49 : decode cX8_encodes 49 = .ok (.sipush 255, 3) := by decide +kernel
theorem dX8_encodes_52 : decode cX8_encodes 52 = .ok (.goto 35, 3) := by decide +kernel
theorem dX8_encodes_55 : decode cX8_encodes 55 = .ok (.iload_n 2, 1) := by decide +kernel
theorem dX8_encodes_56 : decode cX8_encodes 56 = .ok (.iload_n 1, 1) := by decide +kernel
theorem dX8_encodes_57 : decode cX8_encodes 57 = .ok (.bipush 32, 2) := by decide +kernel
theorem dX8_encodes_59 : decode cX8_encodes 59 = .ok (.isub, 1) := by decide +kernel
theorem dX8_encodes_60 : decode cX8_encodes 60 = .ok (.if_icmp .ge 17, 3) := by decide +kernel
theorem dX8_encodes_63 : decode cX8_encodes 63 = .ok (.aload_n 0, 1) := by decide +kernel
theorem dX8_encodes_64 : decode cX8_encodes 64 = .ok (.getfield 106, 3) := by decide +kernel
theorem dX8_encodes_67 : decode cX8_encodes 67 = .ok (.iload_n 2, 1) := by decide +kernel
theorem dX8_encodes_68 : decode cX8_encodes 68 = .ok (.iload_n 1, 1) := by decide +kernel
theorem dX8_encodes_69 : decode cX8_encodes 69 = .ok (.isub, 1) := by decide +kernel
theorem dX8_encodes_70 : decode cX8_encodes 70 = .ok (.bipush 52, 2) := by decide +kernel
theorem dX8_encodes_72 : decode cX8_encodes 72 = .ok (.iadd, 1) := by decide +kernel
theorem dX8_encodes_73 : decode cX8_encodes 73 = .ok (.iaload, 1) := by decide +kernel
theorem dX8_encodes_74 : decode cX8_encodes 74 = .ok (.goto 13, 3) := by decide +kernel
theorem dX8_encodes_77 : decode cX8_encodes 77 = .ok (.aload_n 0, 1) := by decide +kernel
theorem dX8_encodes_78 : decode cX8_encodes 78 = .ok (.iload_n 2, 1) := by decide +kernel
theorem dX8_encodes_79 : decode cX8_encodes 79 = .ok (.iload_n 1, 1) := by decide +kernel
theorem dX8_encodes_80 : decode cX8_encodes 80 = .ok (.isub, 1) := by decide +kernel
theorem dX8_encodes_81 : decode cX8_encodes 81 = .ok (.bipush 32, 2) := by decide +kernel
theorem dX8_encodes_83 : decode cX8_encodes 83 = .ok (.iadd, 1) := by decide +kernel
theorem dX8_encodes_84 : decode cX8_encodes 84 = .ok (.invokevirtual 188, 3) := by decide +kernel
theorem dX8_encodes_87 : decode cX8_encodes 87 = .ok (.istore_n 3, 1) := by decide +kernel
theorem dX8_encodes_88 : decode cX8_encodes 88 = .ok (.aload_n 0, 1) := by decide +kernel
theorem dX8_encodes_89 : decode cX8_encodes 89 = .ok (.bipush 18, 2) := by decide +kernel
theorem dX8_encodes_91 : decode cX8_encodes 91 = .ok (.iload_n 1, 1) := by decide +kernel
theorem dX8_encodes_92 : decode cX8_encodes 92 = .ok (.iload_n 2, 1) := by decide +kernel
theorem dX8_encodes_93 : decode cX8_encodes 93 = .ok (.iload_n 3, 1) := by decide +kernel
theorem dX8_encodes_94 : decode cX8_encodes 94 = .ok (.invokevirtual 244, 3) := by decide +kernel
theorem dX8_encodes_97 : decode cX8_encodes 97 = .ok (.iinc 2 1, 3) := by decide +kernel
theorem dX8_encodes_100 : decode cX8_encodes 100 = .ok (.goto (-81), 3) := by decide +kernel
theorem dX8_encodes_103 : decode cX8_encodes 103 = .ok (.return_, 1) := by decide +kernel
theorem dX8_encoded_0 : decode cX8_encoded 0 = .ok (.iload_n 1, 1) := by decide +kernel
theorem dX8_encoded_1 : decode cX8_encoded 1 = .ok (.iconst 0, 1) := by decide +kernel
theorem dX8_encoded_2 : decode cX8_encoded 2 = .ok (.iconst 2, 1) := by decide +kernel
theorem dX8_encoded_3 : decode cX8_encoded 3 = .ok (.aload_n 0, 1) := by decide +kernel
theorem dX8_encoded_4 : decode cX8_encoded 4 = .ok (.getfield 109, 3) := by decide +kernel
theorem dX8_encoded_7 : decode cX8_encoded 7 = .ok (.imul, 1) := by decide +kernel
theorem dX8_encoded_8 : decode cX8_encoded 8 = .ok (.iconst 1, 1) := by decide +kernel
theorem dX8_encoded_9 : decode cX8_encoded 9 = .ok (.isub, 1) := by decide +kernel
theorem dX8_encoded_10 : decode cX8_encoded 10 = .ok (.invokestatic 257, 3) := by decide +kernel
theorem dX8_encoded_13 : decode cX8_encoded 13 = .ok (.ifCond .ne 6, 3) := by decide +kernel
theorem dX8_encoded_16 : decode cX8_encoded 16 = .ok (.bipush (-2), 2) := by decide +kernel
theorem dX8_encoded_18 : decode cX8_encoded 18 = .ok (.ireturn, 1) := by decide +kernel
theorem dX8_encoded_19 : decode cX8_encoded 19 = .ok (.aload_n 0, 1) := by decide +kernel
theorem dX8_encoded_20 : decode cX8_encoded 20 = .ok (.invokevirtual 283, 3) := by decide +kernel
theorem dX8_encoded_23 : decode cX8_encoded 23 = .ok (.aload_n 0, 1) := by decide +kernel
theorem dX8_encoded_24 : decode cX8_encoded 24 = .ok (.bipush 18, 2) := by decide +kernel
theorem dX8_encoded_26 : decode cX8_encoded 26 = .ok (.iconst 2, 1) := by decide +kernel
theorem dX8_encoded_27 : decode cX8_encoded 27 = .ok (.aload_n 0, 1) := by decide +kernel
theorem dX8_encoded_28 : decode cX8_encoded 28 = .ok (.getfield 109, 3) := by decide +kernel
theorem dX8_encoded_31 : decode cX8_encoded 31 = .ok (.imul, 1) := by decide +kernel
theorem dX8_encoded_32 : decode cX8_encoded 32 = .ok (.iload_n 1, 1) := by decide +kernel
theorem dX8_encoded_33 : decode cX8_encoded 33 = .ok (.invokevirtual 267, 3) := by decide +kernel
theorem dX8_encoded_36 : decode cX8_encoded 36 = .ok (.ireturn, 1) := by decide +kernel
theorem dX8_sign_0 : decode cX8_sign 0 = .ok (.aload_n 0, 1) := by decide +kernel
theorem dX8_sign_1 : decode cX8_sign 1 = .ok (.getfield 237, 3) := by decide +kernel
theorem dX8_sign_4 : decode cX8_sign 4 = .ok (.ifCond .ne 6, 3) := by decide +kernel
theorem dX8_sign_7 : decode cX8_sign 7 = .ok (.bipush (-3), 2) := by decide +kernel
theorem dX8_sign_9 : decode cX8_sign 9 = .ok (.ireturn, 1) := by decide +kernel
theorem dX8_sign_10 : decode cX8_sign 10 = .ok (.aload_n 0, 1) := by decide +kernel
theorem dX8_sign_11 : decode cX8_sign 11 = .ok (.dup, 1) := by decide +kernel
theorem dX8_sign_12 : decode cX8_sign 12 = .ok (.getfield 274, 3) := by decide +kernel
theorem dX8_sign_15 : decode cX8_sign 15 = .ok (.iconst 1, 1) := by decide +kernel
theorem dX8_sign_16 : decode cX8_sign 16 = .ok (.iadd, 1) := by decide +kernel
theorem dX8_sign_17 : decode cX8_sign 17 = .ok (.putfield 274, 3) := by decide +kernel
theorem dX8_sign_20 : decode cX8_sign 20 = .ok (.aload_n 0, 1) := by decide +kernel
theorem dX8_sign_21 : decode cX8_sign 21 = .ok (.invokevirtual 283, 3) := by decide +kernel
theorem dX8_sign_24 : decode cX8_sign 24 = .ok (.aload_n 0, 1) := by decide +kernel
theorem dX8_sign_25 : decode cX8_sign 25 = .ok (.bipush 18, 2) := by decide +kernel
theorem dX8_sign_27 : decode cX8_sign 27 = .ok (.iconst 5, 1) := by decide +kernel
theorem dX8_sign_28 : decode cX8_sign 28 = .ok (.iconst 3, 1) := by decide +kernel
theorem dX8_sign_29 : decode cX8_sign 29 = .ok (.invokevirtual 194, 3) := by decide +kernel
theorem dX8_sign_32 : decode cX8_sign 32 = .ok (.aload_n 0, 1) := by decide +kernel
theorem dX8_sign_33 : decode cX8_sign 33 = .ok (.bipush 16, 2) := by decide +kernel
theorem dX8_sign_35 : decode cX8_sign 35 = .ok (.bipush 10, 2) := by decide +kernel
theorem dX8_sign_37 : decode cX8_sign 37 = .ok (.invokevirtual 139, 3) := by decide +kernel
theorem dX8_sign_40 : decode cX8_sign 40 = .ok (.aload_n 0, 1) := by decide +kernel
theorem dX8_sign_41 : decode cX8_sign 41 = .ok (.bipush 18, 2) := by decide +kernel
theorem dX8_sign_43 : decode cX8_sign 43 = .ok (.iconst 4, 1) := by decide +kernel
theorem dX8_sign_44 : decode cX8_sign 44 = .ok (.iconst 2, 1) := by decide +kernel
theorem dX8_sign_45 : decode cX8_sign 45 = .ok (.invokevirtual 194, 3) := by decide +kernel
theorem dX8_sign_48 : decode cX8_sign 48 = .ok (.aload_n 0, 1) := by decide +kernel
theorem dX8_sign_49 : decode cX8_sign 49 = .ok (.bipush 15, 2) := by decide +kernel
theorem dX8_sign_51 : decode cX8_sign 51 = .ok (.bipush 10, 2) := by decide +kernel
theorem dX8_sign_53 : decode cX8_sign 53 = .ok (.invokevirtual 139, 3) := by decide +kernel
theorem dX8_sign_56 : decode cX8_sign 56 = .ok (.aload_n 0, 1) := by decide +kernel
theorem dX8_sign_57 : decode cX8_sign 57 = .ok (.bipush 13, 2) := by decide +kernel
theorem dX8_sign_59 : decode cX8_sign 59 = .ok (.bipush 16, 2) := by decide +kernel
theorem dX8_sign_61 : decode cX8_sign 61 = .ok (.invokevirtual 139, 3) := by decide +kernel
theorem dX8_sign_64 : decode cX8_sign 64 = .ok (.aload_n 0, 1) := by decide +kernel
theorem dX8_sign_65 : decode cX8_sign 65 = .ok (.bipush 13, 2) := by decide +kernel
theorem dX8_sign_67 : decode cX8_sign 67 = .ok (.iconst 2, 1) := by decide +kernel
theorem dX8_sign_68 : decode cX8_sign 68 = .ok (.invokevirtual 142, 3) := by decide +kernel
theorem dX8_sign_71 : decode cX8_sign 71 = .ok (.aload_n 0, 1) := by decide +kernel
theorem dX8_sign_72 : decode cX8_sign 72 = .ok (.bipush 15, 2) := by decide +kernel
theorem dX8_sign_74 : decode cX8_sign 74 = .ok (.bipush 13, 2) := by decide +kernel
theorem dX8_sign_76 : decode cX8_sign 76 = .ok (.invokevirtual 200, 3) := by decide +kernel
theorem dX8_sign_79 : decode cX8_sign 79 = .ok (.ifCond .ge 10, 3) := by decide +kernel
theorem dX8_sign_82 : decode cX8_sign 82 = .ok (.aload_n 0, 1) := by decide +kernel
theorem dX8_sign_83 : decode cX8_sign 83 = .ok (.bipush 15, 2) := by decide +kernel
theorem dX8_sign_85 : decode cX8_sign 85 = .ok (.iconst 2, 1) := by decide +kernel
theorem dX8_sign_86 : decode cX8_sign 86 = .ok (.invokevirtual 286, 3) := by decide +kernel
theorem dX8_sign_89 : decode cX8_sign 89 = .ok (.aload_n 0, 1) := by decide +kernel
theorem dX8_sign_90 : decode cX8_sign 90 = .ok (.bipush 15, 2) := by decide +kernel
theorem dX8_sign_92 : decode cX8_sign 92 = .ok (.bipush 13, 2) := by decide +kernel
theorem dX8_sign_94 : decode cX8_sign 94 = .ok (.invokevirtual 289, 3) := by decide +kernel
theorem dX8_sign_97 : decode cX8_sign 97 = .ok (.aload_n 0, 1) := by decide +kernel
theorem dX8_sign_98 : decode cX8_sign 98 = .ok (.bipush 11, 2) := by decide +kernel
theorem dX8_sign_100 : decode cX8_sign 100 = .ok (.bipush 6, 2) := by decide +kernel
theorem dX8_sign_102 : decode cX8_sign 102 = .ok (.bipush 15, 2) := by decide +kernel
theorem dX8_sign_104 : decode cX8_sign 104 = .ok (.invokevirtual 148, 3) := by decide +kernel
theorem dX8_sign_107 : decode cX8_sign 107 = .ok (.aload_n 0, 1) := by decide +kernel
theorem dX8_sign_108 : decode cX8_sign 108 = .ok (.bipush 11, 2) := by decide +kernel
theorem dX8_sign_110 : decode cX8_sign 110 = .ok (.iconst 2, 1) := by decide +kernel
theorem dX8_sign_111 : decode cX8_sign 111 = .ok (.invokevirtual 142, 3) := by decide +kernel
theorem dX8_sign_114 : decode cX8_sign 114 = .ok (.aload_n 0, 1) := by decide +kernel
theorem dX8_sign_115 : decode cX8_sign 115 = .ok (.bipush 15, 2) := by decide +kernel
theorem dX8_sign_117 : decode cX8_sign 117 = .ok (.bipush 11, 2) := by decide +kernel
theorem dX8_sign_119 : decode cX8_sign 119 = .ok (.invokevirtual 139, 3) := by decide +kernel
theorem dX8_sign_122 : decode cX8_sign 122 = .ok (.aload_n 0, 1) := by decide +kernel
theorem dX8_sign_123 : decode cX8_sign 123 = .ok (.bipush 11, 2) := by decide +kernel
theorem dX8_sign_125 : decode cX8_sign 125 = .ok (.bipush 15, 2) := by decide +kernel
theorem dX8_sign_127 : decode cX8_sign 127 = .ok (.iconst 3, 1) := by decide +kernel
theorem dX8_sign_128 : decode cX8_sign 128 = .ok (.invokevirtual 148, 3) := by decide +kernel
theorem dX8_sign_131 : decode cX8_sign 131 = .ok (.aload_n 0, 1) := by decide +kernel
theorem dX8_sign_132 : decode cX8_sign 132 = .ok (.bipush 11, 2) := by decide +kernel
theorem dX8_sign_134 : decode cX8_sign 134 = .ok (.bipush 16, 2) := by decide +kernel
theorem dX8_sign_136 : decode cX8_sign 136 = .ok (.invokevirtual 286, 3) := by decide +kernel
theorem dX8_sign_139 : decode cX8_sign 139 = .ok (.aload_n 0, 1) := by decide +kernel
theorem dX8_sign_140 : decode cX8_sign 140 = .ok (.bipush 7, 2) := by decide +kernel
theorem dX8_sign_142 : decode cX8_sign 142 = .ok (.bipush 11, 2) := by decide +kernel
theorem dX8_sign_144 : decode cX8_sign 144 = .ok (.invokevirtual 139, 3) := by decide +kernel
theorem dX8_sign_147 : decode cX8_sign 147 = .ok (.iconst 1, 1) := by decide +kernel
theorem dX8_sign_148 : decode cX8_sign 148 = .ok (.ireturn, 1) := by decide +kernel
theorem dX8_exponentE_0 : decode cX8_exponentE 0 = .ok (.aload_n 0, 1) := by decide +kernel
theorem dX8_exponentE_1 : decode cX8_exponentE 1 = .ok (.bipush 17, 2) := by decide +kernel
theorem dX8_exponentE_3 : decode cX8_exponentE 3 = .ok (.invokevirtual 116, 3) := by decide +kernel
theorem dX8_exponentE_6 : decode cX8_exponentE 6 = .ok (.aload_n 0, 1) := by decide +kernel
theorem dX8_exponentE_7 : decode cX8_exponentE 7 = .ok (.getfield 7, 3) := by decide +kernel
theorem dX8_exponentE_10 : decode cX8_exponentE 10 = .ok (.sipush 1428, 3) := by decide +kernel
theorem dX8_exponentE_13 : decode cX8_exponentE 13 = .ok (.iconst 1, 1) := by decide +kernel
theorem dX8_exponentE_14 : decode cX8_exponentE 14 = .ok (.iastore, 1) := by decide +kernel
theorem dX8_exponentE_15 : decode cX8_exponentE 15 = .ok (.aload_n 0, 1) := by decide +kernel
theorem dX8_exponentE_16 : decode cX8_exponentE 16 = .ok (.getfield 7, 3) := by decide +kernel
theorem dX8_exponentE_19 : decode cX8_exponentE 19 = .ok (.sipush 1429, 3) := by decide +kernel
theorem dX8_exponentE_22 : decode cX8_exponentE 22 = .ok (.iconst 1, 1) := by decide +kernel
theorem dX8_exponentE_23 : decode cX8_exponentE 23 = .ok (.iastore, 1) := by decide +kernel
theorem dX8_exponentE_24 : decode cX8_exponentE 24 = .ok (.return_, 1) := by decide +kernel
theorem dX8_verify_0 : decode cX8_verify 0 = .ok (.aload_n 0, 1) := by decide +kernel
theorem dX8_verify_1 : decode cX8_verify 1 = .ok (.getfield 237, 3) := by decide +kernel
theorem dX8_verify_4 : decode cX8_verify 4 = .ok (.ifCond .ne 6, 3) := by decide +kernel
theorem dX8_verify_7 : decode cX8_verify 7 = .ok (.bipush (-3), 2) := by decide +kernel
theorem dX8_verify_9 : decode cX8_verify 9 = .ok (.ireturn, 1) := by decide +kernel
theorem dX8_verify_10 : decode cX8_verify 10 = .ok (.aload_n 0, 1) := by decide +kernel
theorem dX8_verify_11 : decode cX8_verify 11 = .ok (.dup, 1) := by decide +kernel
theorem dX8_verify_12 : decode cX8_verify 12 = .ok (.getfield 277, 3) := by decide +kernel
theorem dX8_verify_15 : decode cX8_verify 15 = .ok (.iconst 1, 1) := by decide +kernel
theorem dX8_verify_16 : decode cX8_verify 16 = .ok (.iadd, 1) := by decide +kernel
theorem dX8_verify_17 : decode cX8_verify 17 = .ok (.putfield 277, 3) := by decide +kernel
theorem dX8_verify_20 : decode cX8_verify 20 = .ok (.aload_n 0, 1) := by decide +kernel
theorem dX8_verify_21 : decode cX8_verify 21 = .ok (.bipush 7, 2) := by decide +kernel
theorem dX8_verify_23 : decode cX8_verify 23 = .ok (.iconst 0, 1) := by decide +kernel
theorem dX8_verify_24 : decode cX8_verify 24 = .ok (.invokevirtual 200, 3) := by decide +kernel
theorem dX8_verify_27 : decode cX8_verify 27 = .ok (.ifCond .lt 5, 3) := by decide +kernel
theorem dX8_verify_30 : decode cX8_verify 30 = .ok (.iconst 0, 1) := by decide +kernel
theorem dX8_verify_31 : decode cX8_verify 31 = .ok (.ireturn, 1) := by decide +kernel
theorem dX8_verify_32 : decode cX8_verify 32 = .ok (.aload_n 0, 1) := by decide +kernel
theorem dX8_verify_33 : decode cX8_verify 33 = .ok (.invokevirtual 292, 3) := by decide +kernel
theorem dX8_verify_36 : decode cX8_verify 36 = .ok (.aload_n 0, 1) := by decide +kernel
theorem dX8_verify_37 : decode cX8_verify 37 = .ok (.bipush 7, 2) := by decide +kernel
theorem dX8_verify_39 : decode cX8_verify 39 = .ok (.bipush 17, 2) := by decide +kernel
theorem dX8_verify_41 : decode cX8_verify 41 = .ok (.iconst 0, 1) := by decide +kernel
theorem dX8_verify_42 : decode cX8_verify 42 = .ok (.invokevirtual 194, 3) := by decide +kernel
theorem dX8_verify_45 : decode cX8_verify 45 = .ok (.aload_n 0, 1) := by decide +kernel
theorem dX8_verify_46 : decode cX8_verify 46 = .ok (.invokevirtual 283, 3) := by decide +kernel
theorem dX8_verify_49 : decode cX8_verify 49 = .ok (.aload_n 0, 1) := by decide +kernel
theorem dX8_verify_50 : decode cX8_verify 50 = .ok (.bipush 10, 2) := by decide +kernel
theorem dX8_verify_52 : decode cX8_verify 52 = .ok (.bipush 18, 2) := by decide +kernel
theorem dX8_verify_54 : decode cX8_verify 54 = .ok (.invokevirtual 200, 3) := by decide +kernel
theorem dX8_verify_57 : decode cX8_verify 57 = .ok (.ifCond .ne 7, 3) := by decide +kernel
theorem dX8_verify_60 : decode cX8_verify 60 = .ok (.iconst 1, 1) := by decide +kernel
theorem dX8_verify_61 : decode cX8_verify 61 = .ok (.goto 4, 3) := by decide +kernel
theorem dX8_verify_64 : decode cX8_verify 64 = .ok (.iconst 0, 1) := by decide +kernel
theorem dX8_verify_65 : decode cX8_verify 65 = .ok (.ireturn, 1) := by decide +kernel
theorem dX8_power_0 : decode cX8_power 0 = .ok (.aload_n 0, 1) := by decide +kernel
theorem dX8_power_1 : decode cX8_power 1 = .ok (.getfield 237, 3) := by decide +kernel
theorem dX8_power_4 : decode cX8_power 4 = .ok (.ifCond .eq 13, 3) := by decide +kernel
theorem dX8_power_7 : decode cX8_power 7 = .ok (.aload_n 0, 1) := by decide +kernel
theorem dX8_power_8 : decode cX8_power 8 = .ok (.bipush 7, 2) := by decide +kernel
theorem dX8_power_10 : decode cX8_power 10 = .ok (.iconst 0, 1) := by decide +kernel
theorem dX8_power_11 : decode cX8_power 11 = .ok (.invokevirtual 200, 3) := by decide +kernel
theorem dX8_power_14 : decode cX8_power 14 = .ok (.ifCond .lt 6, 3) := by decide +kernel
theorem dX8_power_17 : decode cX8_power 17 = .ok (.bipush (-3), 2) := by decide +kernel
theorem dX8_power_19 : decode cX8_power 19 = .ok (.ireturn, 1) := by decide +kernel
theorem dX8_power_20 : decode cX8_power 20 = .ok (.aload_n 0, 1) := by decide +kernel
theorem dX8_power_21 : decode cX8_power 21 = .ok (.invokevirtual 292, 3) := by decide +kernel
theorem dX8_power_24 : decode cX8_power 24 = .ok (.aload_n 0, 1) := by decide +kernel
theorem dX8_power_25 : decode cX8_power 25 = .ok (.bipush 7, 2) := by decide +kernel
theorem dX8_power_27 : decode cX8_power 27 = .ok (.iload_n 1, 1) := by decide +kernel
theorem dX8_power_28 : decode cX8_power 28 = .ok (.ifCond .eq 8, 3) := by decide +kernel
theorem dX8_power_31 : decode cX8_power 31 = .ok (.bipush 17, 2) := by decide +kernel
theorem dX8_power_33 : decode cX8_power 33 = .ok (.goto 4, 3) := by decide +kernel
theorem dX8_power_36 : decode cX8_power 36 = .ok (.iconst 1, 1) := by decide +kernel
theorem dX8_power_37 : decode cX8_power 37 = .ok (.iconst 0, 1) := by decide +kernel
theorem dX8_power_38 : decode cX8_power 38 = .ok (.invokevirtual 194, 3) := by decide +kernel
theorem dX8_power_41 : decode cX8_power 41 = .ok (.aload_n 0, 1) := by decide +kernel
theorem dX8_power_42 : decode cX8_power 42 = .ok (.bipush 7, 2) := by decide +kernel
theorem dX8_power_44 : decode cX8_power 44 = .ok (.bipush 10, 2) := by decide +kernel
theorem dX8_power_46 : decode cX8_power 46 = .ok (.invokevirtual 139, 3) := by decide +kernel
theorem dX8_power_49 : decode cX8_power 49 = .ok (.iconst 1, 1) := by decide +kernel
theorem dX8_power_50 : decode cX8_power 50 = .ok (.ireturn, 1) := by decide +kernel
theorem dX8_encode_0 : decode cX8_encode 0 = .ok (.aload_n 0, 1) := by decide +kernel
theorem dX8_encode_1 : decode cX8_encode 1 = .ok (.invokevirtual 283, 3) := by decide +kernel
theorem dX8_encode_4 : decode cX8_encode 4 = .ok (.aload_n 0, 1) := by decide +kernel
theorem dX8_encode_5 : decode cX8_encode 5 = .ok (.bipush 7, 2) := by decide +kernel
theorem dX8_encode_7 : decode cX8_encode 7 = .ok (.bipush 18, 2) := by decide +kernel
theorem dX8_encode_9 : decode cX8_encode 9 = .ok (.invokevirtual 139, 3) := by decide +kernel
theorem dX8_encode_12 : decode cX8_encode 12 = .ok (.iconst 1, 1) := by decide +kernel
theorem dX8_encode_13 : decode cX8_encode 13 = .ok (.ireturn, 1) := by decide +kernel
theorem dX8_set_0 : decode cX8_set 0 = .ok (.iload_n 1, 1) := by decide +kernel
theorem dX8_set_1 : decode cX8_set 1 = .ok (.iconst 0, 1) := by decide +kernel
theorem dX8_set_2 : decode cX8_set 2 = .ok (.iconst 2, 1) := by decide +kernel
theorem dX8_set_3 : decode cX8_set 3 = .ok (.aload_n 0, 1) := by decide +kernel
theorem dX8_set_4 : decode cX8_set 4 = .ok (.getfield 109, 3) := by decide +kernel
theorem dX8_set_7 : decode cX8_set 7 = .ok (.imul, 1) := by decide +kernel
theorem dX8_set_8 : decode cX8_set 8 = .ok (.iconst 1, 1) := by decide +kernel
theorem dX8_set_9 : decode cX8_set 9 = .ok (.isub, 1) := by decide +kernel
theorem dX8_set_10 : decode cX8_set 10 = .ok (.invokestatic 257, 3) := by decide +kernel
theorem dX8_set_13 : decode cX8_set 13 = .ok (.ifCond .eq 14, 3) := by decide +kernel
theorem dX8_set_16 : decode cX8_set 16 = .ok (.iload_n 2, 1) := by decide +kernel
theorem dX8_set_17 : decode cX8_set 17 = .ok (.iconst 0, 1) := by decide +kernel
theorem dX8_set_18 : decode cX8_set 18 = .ok (.sipush 255, 3) := by decide +kernel
theorem dX8_set_21 : decode cX8_set 21 = .ok (.invokestatic 257, 3) := by decide +kernel
theorem dX8_set_24 : decode cX8_set 24 = .ok (.ifCond .ne 6, 3) := by decide +kernel
theorem dX8_set_27 : decode cX8_set 27 = .ok (.bipush (-2), 2) := by decide +kernel
theorem dX8_set_29 : decode cX8_set 29 = .ok (.ireturn, 1) := by decide +kernel
theorem dX8_set_30 : decode cX8_set 30 = .ok (.aload_n 0, 1) := by decide +kernel
theorem dX8_set_31 : decode cX8_set 31 = .ok (.bipush 7, 2) := by decide +kernel
theorem dX8_set_33 : decode cX8_set 33 = .ok (.iconst 2, 1) := by decide +kernel
theorem dX8_set_34 : decode cX8_set 34 = .ok (.aload_n 0, 1) := by decide +kernel
theorem dX8_set_35 : decode cX8_set 35 = .ok (.getfield 109, 3) := by decide +kernel
theorem dX8_set_38 : decode cX8_set 38 = .ok (.imul, 1) := by decide +kernel
theorem dX8_set_39 : decode cX8_set 39 = .ok (.iload_n 1, 1) := by decide +kernel
theorem dX8_set_40 : decode cX8_set 40 = .ok (.invokevirtual 267, 3) := by decide +kernel
theorem dX8_set_43 : decode cX8_set 43 = .ok (.istore_n 3, 1) := by decide +kernel
theorem dX8_set_44 : decode cX8_set 44 = .ok (.aload_n 0, 1) := by decide +kernel
theorem dX8_set_45 : decode cX8_set 45 = .ok (.bipush 7, 2) := by decide +kernel
theorem dX8_set_47 : decode cX8_set 47 = .ok (.iconst 2, 1) := by decide +kernel
theorem dX8_set_48 : decode cX8_set 48 = .ok (.aload_n 0, 1) := by decide +kernel
theorem dX8_set_49 : decode cX8_set 49 = .ok (.getfield 109, 3) := by decide +kernel
theorem dX8_set_52 : decode cX8_set 52 = .ok (.imul, 1) := by decide +kernel
theorem dX8_set_53 : decode cX8_set 53 = .ok (.iload_n 1, 1) := by decide +kernel
theorem dX8_set_54 : decode cX8_set 54 = .ok (.iload_n 2, 1) := by decide +kernel
theorem dX8_set_55 : decode cX8_set 55 = .ok (.invokevirtual 244, 3) := by decide +kernel
theorem dX8_set_58 : decode cX8_set 58 = .ok (.iload_n 3, 1) := by decide +kernel
theorem dX8_set_59 : decode cX8_set 59 = .ok (.ireturn, 1) := by decide +kernel
theorem dX8_get_0 : decode cX8_get 0 = .ok (.iload_n 1, 1) := by decide +kernel
theorem dX8_get_1 : decode cX8_get 1 = .ok (.iconst 0, 1) := by decide +kernel
theorem dX8_get_2 : decode cX8_get 2 = .ok (.iconst 2, 1) := by decide +kernel
theorem dX8_get_3 : decode cX8_get 3 = .ok (.aload_n 0, 1) := by decide +kernel
theorem dX8_get_4 : decode cX8_get 4 = .ok (.getfield 109, 3) := by decide +kernel
theorem dX8_get_7 : decode cX8_get 7 = .ok (.imul, 1) := by decide +kernel
theorem dX8_get_8 : decode cX8_get 8 = .ok (.iconst 1, 1) := by decide +kernel
theorem dX8_get_9 : decode cX8_get 9 = .ok (.isub, 1) := by decide +kernel
theorem dX8_get_10 : decode cX8_get 10 = .ok (.invokestatic 257, 3) := by decide +kernel
theorem dX8_get_13 : decode cX8_get 13 = .ok (.ifCond .eq 19, 3) := by decide +kernel
theorem dX8_get_16 : decode cX8_get 16 = .ok (.aload_n 0, 1) := by decide +kernel
theorem dX8_get_17 : decode cX8_get 17 = .ok (.bipush 7, 2) := by decide +kernel
theorem dX8_get_19 : decode cX8_get 19 = .ok (.iconst 2, 1) := by decide +kernel
theorem dX8_get_20 : decode cX8_get 20 = .ok (.aload_n 0, 1) := by decide +kernel
theorem dX8_get_21 : decode cX8_get 21 = .ok (.getfield 109, 3) := by decide +kernel
theorem dX8_get_24 : decode cX8_get 24 = .ok (.imul, 1) := by decide +kernel
theorem dX8_get_25 : decode cX8_get 25 = .ok (.iload_n 1, 1) := by decide +kernel
theorem dX8_get_26 : decode cX8_get 26 = .ok (.invokevirtual 267, 3) := by decide +kernel
theorem dX8_get_29 : decode cX8_get 29 = .ok (.goto 5, 3) := by decide +kernel
theorem dX8_get_32 : decode cX8_get 32 = .ok (.bipush (-2), 2) := by decide +kernel
theorem dX8_get_34 : decode cX8_get 34 = .ok (.ireturn, 1) := by decide +kernel
theorem dX8_mixed_0 : decode cX8_mixed 0 = .ok (.lload_n 1, 1) := by decide +kernel
theorem dX8_mixed_1 : decode cX8_mixed 1 = .ok (.lstore 5, 2) := by decide +kernel
theorem dX8_mixed_3 : decode cX8_mixed 3 = .ok (.iconst 0, 1) := by decide +kernel
theorem dX8_mixed_4 : decode cX8_mixed 4 = .ok (.istore 7, 2) := by decide +kernel
theorem dX8_mixed_6 : decode cX8_mixed 6 = .ok (.iload 7, 2) := by decide +kernel
theorem dX8_mixed_8 : decode cX8_mixed 8 = .ok (.iload 4, 2) := by decide +kernel
theorem dX8_mixed_10 : decode cX8_mixed 10 = .ok (.if_icmp .ge 28, 3) := by decide +kernel
theorem dX8_mixed_13 : decode cX8_mixed 13 = .ok (.ldc2_w 295, 3) := by decide +kernel
theorem dX8_mixed_16 : decode cX8_mixed 16 = .ok (.lload 5, 2) := by decide +kernel
theorem dX8_mixed_18 : decode cX8_mixed 18 = .ok (.lmul, 1) := by decide +kernel
theorem dX8_mixed_19 : decode cX8_mixed 19 = .ok (.aload_n 0, 1) := by decide +kernel
theorem dX8_mixed_20 : decode cX8_mixed 20 = .ok (.iload_n 3, 1) := by decide +kernel
theorem dX8_mixed_21 : decode cX8_mixed 21 = .ok (.iload 4, 2) := by decide +kernel
theorem dX8_mixed_23 : decode cX8_mixed 23 = .ok (.iload 7, 2) := by decide +kernel
theorem dX8_mixed_25 : decode cX8_mixed 25 = .ok (.invokevirtual 267, 3) := by decide +kernel
theorem dX8_mixed_28 : decode cX8_mixed 28 = .ok (.i2l, 1) := by decide +kernel
theorem dX8_mixed_29 : decode cX8_mixed 29 = .ok (.ladd, 1) := by decide +kernel
theorem dX8_mixed_30 : decode cX8_mixed 30 = .ok (.lstore 5, 2) := by decide +kernel
theorem dX8_mixed_32 : decode cX8_mixed 32 = .ok (.iinc 7 1, 3) := by decide +kernel
theorem dX8_mixed_35 : decode cX8_mixed 35 = .ok (.goto (-29), 3) := by decide +kernel
theorem dX8_mixed_38 : decode cX8_mixed 38 = .ok (.lload 5, 2) := by decide +kernel
theorem dX8_mixed_40 : decode cX8_mixed 40 = .ok (.lreturn, 1) := by decide +kernel
theorem dX8_digest_0 : decode cX8_digest 0 = .ok (.aload_n 0, 1) := by decide +kernel
theorem dX8_digest_1 : decode cX8_digest 1 = .ok (.ldc2_w 297, 3) := by decide +kernel
theorem dX8_digest_4 : decode cX8_digest 4 = .ok (.bipush 7, 2) := by decide +kernel
theorem dX8_digest_6 : decode cX8_digest 6 = .ok (.iconst 2, 1) := by decide +kernel
theorem dX8_digest_7 : decode cX8_digest 7 = .ok (.aload_n 0, 1) := by decide +kernel
theorem dX8_digest_8 : decode cX8_digest 8 = .ok (.getfield 109, 3) := by decide +kernel
theorem dX8_digest_11 : decode cX8_digest 11 = .ok (.imul, 1) := by decide +kernel
theorem dX8_digest_12 : decode cX8_digest 12 = .ok (.invokevirtual 299, 3) := by decide +kernel
theorem dX8_digest_15 : decode cX8_digest 15 = .ok (.lstore_n 1, 1) := by decide +kernel
theorem dX8_digest_16 : decode cX8_digest 16 = .ok (.iconst 0, 1) := by decide +kernel
theorem dX8_digest_17 : decode cX8_digest 17 = .ok (.istore_n 3, 1) := by decide +kernel
theorem dX8_digest_18 : decode cX8_digest 18 = .ok (.iload_n 3, 1) := by decide +kernel
theorem dX8_digest_19 : decode cX8_digest 19 = .ok (.bipush 6, 2) := by decide +kernel
theorem dX8_digest_21 : decode cX8_digest 21 = .ok (.if_icmp .gt 28, 3) := by decide +kernel
theorem dX8_digest_24 : decode cX8_digest 24 = .ok (.aload_n 0, 1) := by decide +kernel
theorem dX8_digest_25 : decode cX8_digest 25 = .ok (.getfield 237, 3) := by decide +kernel
theorem dX8_digest_28 : decode cX8_digest 28 = .ok (.ifCond .eq 21, 3) := by decide +kernel
theorem dX8_digest_31 : decode cX8_digest 31 = .ok (.aload_n 0, 1) := by decide +kernel
theorem dX8_digest_32 : decode cX8_digest 32 = .ok (.lload_n 1, 1) := by decide +kernel
theorem dX8_digest_33 : decode cX8_digest 33 = .ok (.iload_n 3, 1) := by decide +kernel
theorem dX8_digest_34 : decode cX8_digest 34 = .ok (.aload_n 0, 1) := by decide +kernel
theorem dX8_digest_35 : decode cX8_digest 35 = .ok (.iload_n 3, 1) := by decide +kernel
theorem dX8_digest_36 : decode cX8_digest 36 = .ok (.invokevirtual 264, 3) := by decide +kernel
theorem dX8_digest_39 : decode cX8_digest 39 = .ok (.invokevirtual 299, 3) := by decide +kernel
theorem dX8_digest_42 : decode cX8_digest 42 = .ok (.lstore_n 1, 1) := by decide +kernel
theorem dX8_digest_43 : decode cX8_digest 43 = .ok (.iinc 3 1, 3) := by decide +kernel
theorem dX8_digest_46 : decode cX8_digest 46 = .ok (.goto (-28), 3) := by decide +kernel
theorem dX8_digest_49 : decode cX8_digest 49 = .ok (.iconst 2, 1) := by decide +kernel
theorem dX8_digest_50 : decode cX8_digest 50 = .ok (.istore_n 3, 1) := by decide +kernel
theorem dX8_digest_51 : decode cX8_digest 51 = .ok (.iload_n 3, 1) := by decide +kernel
theorem dX8_digest_52 : decode cX8_digest 52 = .ok (.bipush 8, 2) := by decide +kernel
theorem dX8_digest_54 : decode cX8_digest 54 = .ok (.if_icmp .ge 22, 3) := by decide +kernel
theorem dX8_digest_57 : decode cX8_digest 57 = .ok (.ldc2_w 295, 3) := by decide +kernel
theorem dX8_digest_60 : decode cX8_digest 60 = .ok (.lload_n 1, 1) := by decide +kernel
theorem dX8_digest_61 : decode cX8_digest 61 = .ok (.lmul, 1) := by decide +kernel
theorem dX8_digest_62 : decode cX8_digest 62 = .ok (.aload_n 0, 1) := by decide +kernel
theorem dX8_digest_63 : decode cX8_digest 63 = .ok (.iload_n 3, 1) := by decide +kernel
theorem dX8_digest_64 : decode cX8_digest 64 = .ok (.invokevirtual 303, 3) := by decide +kernel
theorem dX8_digest_67 : decode cX8_digest 67 = .ok (.i2l, 1) := by decide +kernel
theorem dX8_digest_68 : decode cX8_digest 68 = .ok (.ladd, 1) := by decide +kernel
theorem dX8_digest_69 : decode cX8_digest 69 = .ok (.lstore_n 1, 1) := by decide +kernel
theorem dX8_digest_70 : decode cX8_digest 70 = .ok (.iinc 3 1, 3) := by decide +kernel
theorem dX8_digest_73 : decode cX8_digest 73 = .ok (.goto (-22), 3) := by decide +kernel
theorem dX8_digest_76 : decode cX8_digest 76 = .ok (.lload_n 1, 1) := by decide +kernel
theorem dX8_digest_77 : decode cX8_digest 77 = .ok (.lreturn, 1) := by decide +kernel
theorem dJ6_numberOfLeadingZeros_0f7a4_0 : decode cJ6_numberOfLeadingZeros_0f7a4 0 = .ok (.iload_n 0, 1) := by decide +kernel
theorem dJ6_numberOfLeadingZeros_0f7a4_1 : decode cJ6_numberOfLeadingZeros_0f7a4 1 = .ok (.ifCond .gt 14, 3) := by decide +kernel
theorem dJ6_numberOfLeadingZeros_0f7a4_4 : decode cJ6_numberOfLeadingZeros_0f7a4 4 = .ok (.iload_n 0, 1) := by decide +kernel
theorem dJ6_numberOfLeadingZeros_0f7a4_5 : decode cJ6_numberOfLeadingZeros_0f7a4 5 = .ok (.ifCond .ne 8, 3) := by decide +kernel
theorem dJ6_numberOfLeadingZeros_0f7a4_8 : decode cJ6_numberOfLeadingZeros_0f7a4 8 = .ok (.bipush 32, 2) := by decide +kernel
theorem dJ6_numberOfLeadingZeros_0f7a4_10 : decode cJ6_numberOfLeadingZeros_0f7a4 10 = .ok (.goto 4, 3) := by decide +kernel
theorem dJ6_numberOfLeadingZeros_0f7a4_13 : decode cJ6_numberOfLeadingZeros_0f7a4 13 = .ok (.iconst 0, 1) := by decide +kernel
theorem dJ6_numberOfLeadingZeros_0f7a4_14 : decode cJ6_numberOfLeadingZeros_0f7a4 14 = .ok (.ireturn, 1) := by decide +kernel
theorem dJ6_numberOfLeadingZeros_0f7a4_15 : decode cJ6_numberOfLeadingZeros_0f7a4 15 = .ok (.bipush 31, 2) := by decide +kernel
theorem dJ6_numberOfLeadingZeros_0f7a4_17 : decode cJ6_numberOfLeadingZeros_0f7a4 17 = .ok (.istore_n 1, 1) := by decide +kernel
theorem dJ6_numberOfLeadingZeros_0f7a4_18 : decode cJ6_numberOfLeadingZeros_0f7a4 18 = .ok (.iload_n 0, 1) := by decide +kernel
theorem dJ6_numberOfLeadingZeros_0f7a4_19 : decode cJ6_numberOfLeadingZeros_0f7a4 19 = .ok (.ldc_w 264, 3) := by decide +kernel
theorem dJ6_numberOfLeadingZeros_0f7a4_22 : decode cJ6_numberOfLeadingZeros_0f7a4 22 = .ok (.if_icmp .lt 11, 3) := by decide +kernel
theorem dJ6_numberOfLeadingZeros_0f7a4_25 : decode cJ6_numberOfLeadingZeros_0f7a4 25 = .ok (.iinc 1 (-16), 3) := by decide +kernel
theorem dJ6_numberOfLeadingZeros_0f7a4_28 : decode cJ6_numberOfLeadingZeros_0f7a4 28 = .ok (.iload_n 0, 1) := by decide +kernel
theorem dJ6_numberOfLeadingZeros_0f7a4_29 : decode cJ6_numberOfLeadingZeros_0f7a4 29 = .ok (.bipush 16, 2) := by decide +kernel
theorem dJ6_numberOfLeadingZeros_0f7a4_31 : decode cJ6_numberOfLeadingZeros_0f7a4 31 = .ok (.iushr, 1) := by decide +kernel
theorem dJ6_numberOfLeadingZeros_0f7a4_32 : decode cJ6_numberOfLeadingZeros_0f7a4 32 = .ok (.istore_n 0, 1) := by decide +kernel
theorem dJ6_numberOfLeadingZeros_0f7a4_33 : decode cJ6_numberOfLeadingZeros_0f7a4 33 = .ok (.iload_n 0, 1) := by decide +kernel
theorem dJ6_numberOfLeadingZeros_0f7a4_34 : decode cJ6_numberOfLeadingZeros_0f7a4 34 = .ok (.sipush 256, 3) := by decide +kernel
theorem dJ6_numberOfLeadingZeros_0f7a4_37 : decode cJ6_numberOfLeadingZeros_0f7a4 37 = .ok (.if_icmp .lt 11, 3) := by decide +kernel
theorem dJ6_numberOfLeadingZeros_0f7a4_40 : decode cJ6_numberOfLeadingZeros_0f7a4 40 = .ok (.iinc 1 (-8), 3) := by decide +kernel
theorem dJ6_numberOfLeadingZeros_0f7a4_43 : decode cJ6_numberOfLeadingZeros_0f7a4 43 = .ok (.iload_n 0, 1) := by decide +kernel
theorem dJ6_numberOfLeadingZeros_0f7a4_44 : decode cJ6_numberOfLeadingZeros_0f7a4 44 = .ok (.bipush 8, 2) := by decide +kernel
theorem dJ6_numberOfLeadingZeros_0f7a4_46 : decode cJ6_numberOfLeadingZeros_0f7a4 46 = .ok (.iushr, 1) := by decide +kernel
theorem dJ6_numberOfLeadingZeros_0f7a4_47 : decode cJ6_numberOfLeadingZeros_0f7a4 47 = .ok (.istore_n 0, 1) := by decide +kernel
theorem dJ6_numberOfLeadingZeros_0f7a4_48 : decode cJ6_numberOfLeadingZeros_0f7a4 48 = .ok (.iload_n 0, 1) := by decide +kernel
theorem dJ6_numberOfLeadingZeros_0f7a4_49 : decode cJ6_numberOfLeadingZeros_0f7a4 49 = .ok (.bipush 16, 2) := by decide +kernel
theorem dJ6_numberOfLeadingZeros_0f7a4_51 : decode cJ6_numberOfLeadingZeros_0f7a4 51 = .ok (.if_icmp .lt 10, 3) := by decide +kernel
theorem dJ6_numberOfLeadingZeros_0f7a4_54 : decode cJ6_numberOfLeadingZeros_0f7a4 54 = .ok (.iinc 1 (-4), 3) := by decide +kernel
theorem dJ6_numberOfLeadingZeros_0f7a4_57 : decode cJ6_numberOfLeadingZeros_0f7a4 57 = .ok (.iload_n 0, 1) := by decide +kernel
theorem dJ6_numberOfLeadingZeros_0f7a4_58 : decode cJ6_numberOfLeadingZeros_0f7a4 58 = .ok (.iconst 4, 1) := by decide +kernel
theorem dJ6_numberOfLeadingZeros_0f7a4_59 : decode cJ6_numberOfLeadingZeros_0f7a4 59 = .ok (.iushr, 1) := by decide +kernel
theorem dJ6_numberOfLeadingZeros_0f7a4_60 : decode cJ6_numberOfLeadingZeros_0f7a4 60 = .ok (.istore_n 0, 1) := by decide +kernel
theorem dJ6_numberOfLeadingZeros_0f7a4_61 : decode cJ6_numberOfLeadingZeros_0f7a4 61 = .ok (.iload_n 0, 1) := by decide +kernel
theorem dJ6_numberOfLeadingZeros_0f7a4_62 : decode cJ6_numberOfLeadingZeros_0f7a4 62 = .ok (.iconst 4, 1) := by decide +kernel
theorem dJ6_numberOfLeadingZeros_0f7a4_63 : decode cJ6_numberOfLeadingZeros_0f7a4 63 = .ok (.if_icmp .lt 10, 3) := by decide +kernel
theorem dJ6_numberOfLeadingZeros_0f7a4_66 : decode cJ6_numberOfLeadingZeros_0f7a4 66 = .ok (.iinc 1 (-2), 3) := by decide +kernel
theorem dJ6_numberOfLeadingZeros_0f7a4_69 : decode cJ6_numberOfLeadingZeros_0f7a4 69 = .ok (.iload_n 0, 1) := by decide +kernel
theorem dJ6_numberOfLeadingZeros_0f7a4_70 : decode cJ6_numberOfLeadingZeros_0f7a4 70 = .ok (.iconst 2, 1) := by decide +kernel
theorem dJ6_numberOfLeadingZeros_0f7a4_71 : decode cJ6_numberOfLeadingZeros_0f7a4 71 = .ok (.iushr, 1) := by decide +kernel
theorem dJ6_numberOfLeadingZeros_0f7a4_72 : decode cJ6_numberOfLeadingZeros_0f7a4 72 = .ok (.istore_n 0, 1) := by decide +kernel
theorem dJ6_numberOfLeadingZeros_0f7a4_73 : decode cJ6_numberOfLeadingZeros_0f7a4 73 = .ok (.iload_n 1, 1) := by decide +kernel
theorem dJ6_numberOfLeadingZeros_0f7a4_74 : decode cJ6_numberOfLeadingZeros_0f7a4 74 = .ok (.iload_n 0, 1) := by decide +kernel
theorem dJ6_numberOfLeadingZeros_0f7a4_75 : decode cJ6_numberOfLeadingZeros_0f7a4 75 = .ok (.iconst 1, 1) := by decide +kernel
theorem dJ6_numberOfLeadingZeros_0f7a4_76 : decode cJ6_numberOfLeadingZeros_0f7a4 76 = .ok (.iushr, 1) := by decide +kernel
theorem dJ6_numberOfLeadingZeros_0f7a4_77 : decode cJ6_numberOfLeadingZeros_0f7a4 77 = .ok (.isub, 1) := by decide +kernel
theorem dJ6_numberOfLeadingZeros_0f7a4_78 : decode cJ6_numberOfLeadingZeros_0f7a4 78 = .ok (.ireturn, 1) := by decide +kernel
theorem dJ6_rotateRight_7cf53_0 : decode cJ6_rotateRight_7cf53 0 = .ok (.iload_n 0, 1) := by decide +kernel
theorem dJ6_rotateRight_7cf53_1 : decode cJ6_rotateRight_7cf53 1 = .ok (.iload_n 1, 1) := by decide +kernel
theorem dJ6_rotateRight_7cf53_2 : decode cJ6_rotateRight_7cf53 2 = .ok (.iushr, 1) := by decide +kernel
theorem dJ6_rotateRight_7cf53_3 : decode cJ6_rotateRight_7cf53 3 = .ok (.iload_n 0, 1) := by decide +kernel
theorem dJ6_rotateRight_7cf53_4 : decode cJ6_rotateRight_7cf53 4 = .ok (.iload_n 1, 1) := by decide +kernel
theorem dJ6_rotateRight_7cf53_5 : decode cJ6_rotateRight_7cf53 5 = .ok (.ineg, 1) := by decide +kernel
theorem dJ6_rotateRight_7cf53_6 : decode cJ6_rotateRight_7cf53 6 = .ok (.ishl, 1) := by decide +kernel
theorem dJ6_rotateRight_7cf53_7 : decode cJ6_rotateRight_7cf53 7 = .ok (.ior, 1) := by decide +kernel
theorem dJ6_rotateRight_7cf53_8 : decode cJ6_rotateRight_7cf53 8 = .ok (.ireturn, 1) := by decide +kernel
theorem dJ13_numberOfLeadingZeros_95d88_0 : decode cJ13_numberOfLeadingZeros_95d88 0 = .ok (.lload_n 0, 1) := by decide +kernel
theorem dJ13_numberOfLeadingZeros_95d88_1 : decode cJ13_numberOfLeadingZeros_95d88 1 = .ok (.bipush 32, 2) := by decide +kernel
theorem dJ13_numberOfLeadingZeros_95d88_3 : decode cJ13_numberOfLeadingZeros_95d88 3 = .ok (.lushr, 1) := by decide +kernel
theorem dJ13_numberOfLeadingZeros_95d88_4 : decode cJ13_numberOfLeadingZeros_95d88 4 = .ok (.l2i, 1) := by decide +kernel
theorem dJ13_numberOfLeadingZeros_95d88_5 : decode cJ13_numberOfLeadingZeros_95d88 5 = .ok (.istore_n 2, 1) := by decide +kernel
theorem dJ13_numberOfLeadingZeros_95d88_6 : decode cJ13_numberOfLeadingZeros_95d88 6 = .ok (.iload_n 2, 1) := by decide +kernel
theorem dJ13_numberOfLeadingZeros_95d88_7 : decode cJ13_numberOfLeadingZeros_95d88 7 = .ok (.ifCond .ne 14, 3) := by decide +kernel
theorem dJ13_numberOfLeadingZeros_95d88_10 : decode cJ13_numberOfLeadingZeros_95d88 10 = .ok (.bipush 32, 2) := by decide +kernel
theorem dJ13_numberOfLeadingZeros_95d88_12 : decode cJ13_numberOfLeadingZeros_95d88 12 = .ok (.lload_n 0, 1) := by decide +kernel
theorem dJ13_numberOfLeadingZeros_95d88_13 : decode cJ13_numberOfLeadingZeros_95d88 13 = .ok (.l2i, 1) := by decide +kernel
theorem dJ13_numberOfLeadingZeros_95d88_14 : decode cJ13_numberOfLeadingZeros_95d88 14 = .ok (.invokestatic 308, 3) := by decide +kernel
theorem dJ13_numberOfLeadingZeros_95d88_17 : decode cJ13_numberOfLeadingZeros_95d88 17 = .ok (.iadd, 1) := by decide +kernel
theorem dJ13_numberOfLeadingZeros_95d88_18 : decode cJ13_numberOfLeadingZeros_95d88 18 = .ok (.goto 7, 3) := by decide +kernel
theorem dJ13_numberOfLeadingZeros_95d88_21 : decode cJ13_numberOfLeadingZeros_95d88 21 = .ok (.iload_n 2, 1) := by decide +kernel
theorem dJ13_numberOfLeadingZeros_95d88_22 : decode cJ13_numberOfLeadingZeros_95d88 22 = .ok (.invokestatic 308, 3) := by decide +kernel
theorem dJ13_numberOfLeadingZeros_95d88_25 : decode cJ13_numberOfLeadingZeros_95d88 25 = .ok (.ireturn, 1) := by decide +kernel
theorem dJ9_max_7cf53_0 : decode cJ9_max_7cf53 0 = .ok (.iload_n 0, 1) := by decide +kernel
theorem dJ9_max_7cf53_1 : decode cJ9_max_7cf53 1 = .ok (.iload_n 1, 1) := by decide +kernel
theorem dJ9_max_7cf53_2 : decode cJ9_max_7cf53 2 = .ok (.if_icmp .lt 7, 3) := by decide +kernel
theorem dJ9_max_7cf53_5 : decode cJ9_max_7cf53 5 = .ok (.iload_n 0, 1) := by decide +kernel
theorem dJ9_max_7cf53_6 : decode cJ9_max_7cf53 6 = .ok (.goto 4, 3) := by decide +kernel
theorem dJ9_max_7cf53_9 : decode cJ9_max_7cf53 9 = .ok (.iload_n 1, 1) := by decide +kernel
theorem dJ9_max_7cf53_10 : decode cJ9_max_7cf53 10 = .ok (.ireturn, 1) := by decide +kernel
theorem dJ9_min_7cf53_0 : decode cJ9_min_7cf53 0 = .ok (.iload_n 0, 1) := by decide +kernel
theorem dJ9_min_7cf53_1 : decode cJ9_min_7cf53 1 = .ok (.iload_n 1, 1) := by decide +kernel
theorem dJ9_min_7cf53_2 : decode cJ9_min_7cf53 2 = .ok (.if_icmp .gt 7, 3) := by decide +kernel
theorem dJ9_min_7cf53_5 : decode cJ9_min_7cf53 5 = .ok (.iload_n 0, 1) := by decide +kernel
theorem dJ9_min_7cf53_6 : decode cJ9_min_7cf53 6 = .ok (.goto 4, 3) := by decide +kernel
theorem dJ9_min_7cf53_9 : decode cJ9_min_7cf53 9 = .ok (.iload_n 1, 1) := by decide +kernel
theorem dJ9_min_7cf53_10 : decode cJ9_min_7cf53 10 = .ok (.ireturn, 1) := by decide +kernel
theorem dJ7_fill_d0a16_0 : decode cJ7_fill_d0a16 0 = .ok (.iconst 0, 1) := by decide +kernel
theorem dJ7_fill_d0a16_1 : decode cJ7_fill_d0a16 1 = .ok (.istore_n 3, 1) := by decide +kernel
theorem dJ7_fill_d0a16_2 : decode cJ7_fill_d0a16 2 = .ok (.aload_n 0, 1) := by decide +kernel
theorem dJ7_fill_d0a16_3 : decode cJ7_fill_d0a16 3 = .ok (.arraylength, 1) := by decide +kernel
theorem dJ7_fill_d0a16_4 : decode cJ7_fill_d0a16 4 = .ok (.istore 4, 2) := by decide +kernel
theorem dJ7_fill_d0a16_6 : decode cJ7_fill_d0a16 6 = .ok (.iload_n 3, 1) := by decide +kernel
theorem dJ7_fill_d0a16_7 : decode cJ7_fill_d0a16 7 = .ok (.iload 4, 2) := by decide +kernel
theorem dJ7_fill_d0a16_9 : decode cJ7_fill_d0a16 9 = .ok (.if_icmp .ge 13, 3) := by decide +kernel
theorem dJ7_fill_d0a16_12 : decode cJ7_fill_d0a16 12 = .ok (.aload_n 0, 1) := by decide +kernel
theorem dJ7_fill_d0a16_13 : decode cJ7_fill_d0a16 13 = .ok (.iload_n 3, 1) := by decide +kernel
theorem dJ7_fill_d0a16_14 : decode cJ7_fill_d0a16 14 = .ok (.lload_n 1, 1) := by decide +kernel
theorem dJ7_fill_d0a16_15 : decode cJ7_fill_d0a16 15 = .ok (.lastore, 1) := by decide +kernel
theorem dJ7_fill_d0a16_16 : decode cJ7_fill_d0a16 16 = .ok (.iinc 3 1, 3) := by decide +kernel
theorem dJ7_fill_d0a16_19 : decode cJ7_fill_d0a16 19 = .ok (.goto (-13), 3) := by decide +kernel
theorem dJ7_fill_d0a16_22 : decode cJ7_fill_d0a16 22 = .ok (.return_, 1) := by decide +kernel
theorem dL_cell_0 : decode cL_cell 0 = .ok (.iload_n 1, 1) := by decide +kernel
theorem dL_cell_1 : decode cL_cell 1 = .ok (.aload_n 0, 1) := by decide +kernel
theorem dL_cell_2 : decode cL_cell 2 = .ok (.arraylength, 1) := by decide +kernel
theorem dL_cell_3 : decode cL_cell 3 = .ok (.if_icmp .ge 9, 3) := by decide +kernel
theorem dL_cell_6 : decode cL_cell 6 = .ok (.aload_n 0, 1) := by decide +kernel
theorem dL_cell_7 : decode cL_cell 7 = .ok (.iload_n 1, 1) := by decide +kernel
theorem dL_cell_8 : decode cL_cell 8 = .ok (.iaload, 1) := by decide +kernel
theorem dL_cell_9 : decode cL_cell 9 = .ok (.goto 4, 3) := by decide +kernel
theorem dL_cell_12 : decode cL_cell 12 = .ok (.iconst 0, 1) := by decide +kernel
theorem dL_cell_13 : decode cL_cell 13 = .ok (.ireturn, 1) := by decide +kernel
theorem dL_law_0 : decode cL_law 0 = .ok (.new 7, 3) := by decide +kernel
theorem dL_law_3 : decode cL_law 3 = .ok (.dup, 1) := by decide +kernel
theorem dL_law_4 : decode cL_law 4 = .ok (.aload_n 0, 1) := by decide +kernel
theorem dL_law_5 : decode cL_law 5 = .ok (.iconst 0, 1) := by decide +kernel
theorem dL_law_6 : decode cL_law 6 = .ok (.invokestatic 9, 3) := by decide +kernel
theorem dL_law_9 : decode cL_law 9 = .ok (.aload_n 0, 1) := by decide +kernel
theorem dL_law_10 : decode cL_law 10 = .ok (.iconst 1, 1) := by decide +kernel
theorem dL_law_11 : decode cL_law 11 = .ok (.invokestatic 9, 3) := by decide +kernel
theorem dL_law_14 : decode cL_law 14 = .ok (.invokespecial 15, 3) := by decide +kernel
theorem dL_law_17 : decode cL_law 17 = .ok (.astore_n 1, 1) := by decide +kernel
theorem dL_law_18 : decode cL_law 18 = .ok (.new 18, 3) := by decide +kernel
theorem dL_law_21 : decode cL_law 21 = .ok (.dup, 1) := by decide +kernel
theorem dL_law_22 : decode cL_law 22 = .ok (.aload_n 0, 1) := by decide +kernel
theorem dL_law_23 : decode cL_law 23 = .ok (.iconst 0, 1) := by decide +kernel
theorem dL_law_24 : decode cL_law 24 = .ok (.invokestatic 9, 3) := by decide +kernel
theorem dL_law_27 : decode cL_law 27 = .ok (.aload_n 0, 1) := by decide +kernel
theorem dL_law_28 : decode cL_law 28 = .ok (.iconst 1, 1) := by decide +kernel
theorem dL_law_29 : decode cL_law 29 = .ok (.invokestatic 9, 3) := by decide +kernel
theorem dL_law_32 : decode cL_law 32 = .ok (.invokespecial 20, 3) := by decide +kernel
theorem dL_law_35 : decode cL_law 35 = .ok (.astore_n 2, 1) := by decide +kernel
theorem dL_law_36 : decode cL_law 36 = .ok (.iconst 2, 1) := by decide +kernel
theorem dL_law_37 : decode cL_law 37 = .ok (.istore_n 3, 1) := by decide +kernel
theorem dL_law_38 : decode cL_law 38 = .ok (.iload_n 3, 1) := by decide +kernel
theorem dL_law_39 : decode cL_law 39 = .ok (.aload_n 0, 1) := by decide +kernel
theorem dL_law_40 : decode cL_law 40 = .ok (.arraylength, 1) := by decide +kernel
theorem dL_law_41 : decode cL_law 41 = .ok (.iconst 4, 1) := by decide +kernel
theorem dL_law_42 : decode cL_law 42 = .ok (.isub, 1) := by decide +kernel
theorem dL_law_43 : decode cL_law 43 = .ok (.if_icmp .gt 490, 3) := by decide +kernel
theorem dL_law_46 : decode cL_law 46 = .ok (.aload_n 0, 1) := by decide +kernel
theorem dL_law_47 : decode cL_law 47 = .ok (.iload_n 3, 1) := by decide +kernel
theorem dL_law_48 : decode cL_law 48 = .ok (.iaload, 1) := by decide +kernel
theorem dL_law_49 : decode cL_law 49 = .ok (.bipush 15, 2) := by decide +kernel
theorem dL_law_51 : decode cL_law 51 = .ok (.iand, 1) := by decide +kernel
theorem dL_law_52 : decode cL_law 52 = .ok (.tableswitch 475 0 15 #[80, 103, 126, 139, 172, 195, 258, 281, 304, 327, 340, 353, 392, 405, 438, 461], 80) := by decide +kernel
theorem dL_law_132 : decode cL_law 132 = .ok (.aload_n 1, 1) := by decide +kernel
theorem dL_law_133 : decode cL_law 133 = .ok (.aload_n 0, 1) := by decide +kernel
theorem dL_law_134 : decode cL_law 134 = .ok (.iload_n 3, 1) := by decide +kernel
theorem dL_law_135 : decode cL_law 135 = .ok (.iconst 1, 1) := by decide +kernel
theorem dL_law_136 : decode cL_law 136 = .ok (.iadd, 1) := by decide +kernel
theorem dL_law_137 : decode cL_law 137 = .ok (.iaload, 1) := by decide +kernel
theorem dL_law_138 : decode cL_law 138 = .ok (.invokevirtual 21, 3) := by decide +kernel
theorem dL_law_141 : decode cL_law 141 = .ok (.aload_n 2, 1) := by decide +kernel
theorem dL_law_142 : decode cL_law 142 = .ok (.aload_n 0, 1) := by decide +kernel
theorem dL_law_143 : decode cL_law 143 = .ok (.iload_n 3, 1) := by decide +kernel
theorem dL_law_144 : decode cL_law 144 = .ok (.iconst 1, 1) := by decide +kernel
theorem dL_law_145 : decode cL_law 145 = .ok (.iadd, 1) := by decide +kernel
theorem dL_law_146 : decode cL_law 146 = .ok (.iaload, 1) := by decide +kernel
theorem dL_law_147 : decode cL_law 147 = .ok (.invokevirtual 25, 3) := by decide +kernel
theorem dL_law_150 : decode cL_law 150 = .ok (.if_icmp .eq 377, 3) := by decide +kernel
theorem dL_law_153 : decode cL_law 153 = .ok (.iconst 0, 1) := by decide +kernel
theorem dL_law_154 : decode cL_law 154 = .ok (.ireturn, 1) := by decide +kernel
theorem dL_law_155 : decode cL_law 155 = .ok (.aload_n 1, 1) := by decide +kernel
theorem dL_law_156 : decode cL_law 156 = .ok (.aload_n 0, 1) := by decide +kernel
theorem dL_law_157 : decode cL_law 157 = .ok (.iload_n 3, 1) := by decide +kernel
theorem dL_law_158 : decode cL_law 158 = .ok (.iconst 1, 1) := by decide +kernel
theorem dL_law_159 : decode cL_law 159 = .ok (.iadd, 1) := by decide +kernel
theorem dL_law_160 : decode cL_law 160 = .ok (.iaload, 1) := by decide +kernel
theorem dL_law_161 : decode cL_law 161 = .ok (.invokevirtual 26, 3) := by decide +kernel
theorem dL_law_164 : decode cL_law 164 = .ok (.aload_n 2, 1) := by decide +kernel
theorem dL_law_165 : decode cL_law 165 = .ok (.aload_n 0, 1) := by decide +kernel
theorem dL_law_166 : decode cL_law 166 = .ok (.iload_n 3, 1) := by decide +kernel
theorem dL_law_167 : decode cL_law 167 = .ok (.iconst 1, 1) := by decide +kernel
theorem dL_law_168 : decode cL_law 168 = .ok (.iadd, 1) := by decide +kernel
theorem dL_law_169 : decode cL_law 169 = .ok (.iaload, 1) := by decide +kernel
theorem dL_law_170 : decode cL_law 170 = .ok (.invokevirtual 29, 3) := by decide +kernel
theorem dL_law_173 : decode cL_law 173 = .ok (.if_icmp .eq 354, 3) := by decide +kernel
theorem dL_law_176 : decode cL_law 176 = .ok (.iconst 0, 1) := by decide +kernel
theorem dL_law_177 : decode cL_law 177 = .ok (.ireturn, 1) := by decide +kernel
theorem dL_law_178 : decode cL_law 178 = .ok (.aload_n 1, 1) := by decide +kernel
theorem dL_law_179 : decode cL_law 179 = .ok (.invokevirtual 30, 3) := by decide +kernel
theorem dL_law_182 : decode cL_law 182 = .ok (.aload_n 2, 1) := by decide +kernel
theorem dL_law_183 : decode cL_law 183 = .ok (.invokevirtual 34, 3) := by decide +kernel
theorem dL_law_186 : decode cL_law 186 = .ok (.if_icmp .eq 341, 3) := by decide +kernel
theorem dL_law_189 : decode cL_law 189 = .ok (.iconst 0, 1) := by decide +kernel
theorem dL_law_190 : decode cL_law 190 = .ok (.ireturn, 1) := by decide +kernel
theorem dL_law_191 : decode cL_law 191 = .ok (.aload_n 1, 1) := by decide +kernel
theorem dL_law_192 : decode cL_law 192 = .ok (.aload_n 0, 1) := by decide +kernel
theorem dL_law_193 : decode cL_law 193 = .ok (.iload_n 3, 1) := by decide +kernel
theorem dL_law_194 : decode cL_law 194 = .ok (.iconst 1, 1) := by decide +kernel
theorem dL_law_195 : decode cL_law 195 = .ok (.iadd, 1) := by decide +kernel
theorem dL_law_196 : decode cL_law 196 = .ok (.iaload, 1) := by decide +kernel
theorem dL_law_197 : decode cL_law 197 = .ok (.aload_n 0, 1) := by decide +kernel
theorem dL_law_198 : decode cL_law 198 = .ok (.iload_n 3, 1) := by decide +kernel
theorem dL_law_199 : decode cL_law 199 = .ok (.iconst 2, 1) := by decide +kernel
theorem dL_law_200 : decode cL_law 200 = .ok (.iadd, 1) := by decide +kernel
theorem dL_law_201 : decode cL_law 201 = .ok (.iaload, 1) := by decide +kernel
theorem dL_law_202 : decode cL_law 202 = .ok (.invokevirtual 35, 3) := by decide +kernel
theorem dL_law_205 : decode cL_law 205 = .ok (.aload_n 2, 1) := by decide +kernel
theorem dL_law_206 : decode cL_law 206 = .ok (.aload_n 0, 1) := by decide +kernel
theorem dL_law_207 : decode cL_law 207 = .ok (.iload_n 3, 1) := by decide +kernel
theorem dL_law_208 : decode cL_law 208 = .ok (.iconst 1, 1) := by decide +kernel
theorem dL_law_209 : decode cL_law 209 = .ok (.iadd, 1) := by decide +kernel
theorem dL_law_210 : decode cL_law 210 = .ok (.iaload, 1) := by decide +kernel
theorem dL_law_211 : decode cL_law 211 = .ok (.aload_n 0, 1) := by decide +kernel
theorem dL_law_212 : decode cL_law 212 = .ok (.iload_n 3, 1) := by decide +kernel
theorem dL_law_213 : decode cL_law 213 = .ok (.iconst 2, 1) := by decide +kernel
theorem dL_law_214 : decode cL_law 214 = .ok (.iadd, 1) := by decide +kernel
theorem dL_law_215 : decode cL_law 215 = .ok (.iaload, 1) := by decide +kernel
theorem dL_law_216 : decode cL_law 216 = .ok (.invokevirtual 39, 3) := by decide +kernel
theorem dL_law_219 : decode cL_law 219 = .ok (.if_icmp .eq 308, 3) := by decide +kernel
theorem dL_law_222 : decode cL_law 222 = .ok (.iconst 0, 1) := by decide +kernel
theorem dL_law_223 : decode cL_law 223 = .ok (.ireturn, 1) := by decide +kernel
theorem dL_law_224 : decode cL_law 224 = .ok (.aload_n 1, 1) := by decide +kernel
theorem dL_law_225 : decode cL_law 225 = .ok (.aload_n 0, 1) := by decide +kernel
theorem dL_law_226 : decode cL_law 226 = .ok (.iload_n 3, 1) := by decide +kernel
theorem dL_law_227 : decode cL_law 227 = .ok (.iconst 1, 1) := by decide +kernel
theorem dL_law_228 : decode cL_law 228 = .ok (.iadd, 1) := by decide +kernel
theorem dL_law_229 : decode cL_law 229 = .ok (.iaload, 1) := by decide +kernel
theorem dL_law_230 : decode cL_law 230 = .ok (.invokevirtual 40, 3) := by decide +kernel
theorem dL_law_233 : decode cL_law 233 = .ok (.aload_n 2, 1) := by decide +kernel
theorem dL_law_234 : decode cL_law 234 = .ok (.aload_n 0, 1) := by decide +kernel
theorem dL_law_235 : decode cL_law 235 = .ok (.iload_n 3, 1) := by decide +kernel
theorem dL_law_236 : decode cL_law 236 = .ok (.iconst 1, 1) := by decide +kernel
theorem dL_law_237 : decode cL_law 237 = .ok (.iadd, 1) := by decide +kernel
theorem dL_law_238 : decode cL_law 238 = .ok (.iaload, 1) := by decide +kernel
theorem dL_law_239 : decode cL_law 239 = .ok (.invokevirtual 43, 3) := by decide +kernel
theorem dL_law_242 : decode cL_law 242 = .ok (.if_icmp .eq 285, 3) := by decide +kernel
theorem dL_law_245 : decode cL_law 245 = .ok (.iconst 0, 1) := by decide +kernel
theorem dL_law_246 : decode cL_law 246 = .ok (.ireturn, 1) := by decide +kernel
theorem dL_law_247 : decode cL_law 247 = .ok (.aload_n 1, 1) := by decide +kernel
theorem dL_law_248 : decode cL_law 248 = .ok (.aload_n 0, 1) := by decide +kernel
theorem dL_law_249 : decode cL_law 249 = .ok (.iload_n 3, 1) := by decide +kernel
theorem dL_law_250 : decode cL_law 250 = .ok (.iconst 1, 1) := by decide +kernel
theorem dL_law_251 : decode cL_law 251 = .ok (.iadd, 1) := by decide +kernel
theorem dL_law_252 : decode cL_law 252 = .ok (.iaload, 1) := by decide +kernel
theorem dL_law_253 : decode cL_law 253 = .ok (.i2l, 1) := by decide +kernel
theorem dL_law_254 : decode cL_law 254 = .ok (.bipush 32, 2) := by decide +kernel
theorem dL_law_256 : decode cL_law 256 = .ok (.lshl, 1) := by decide +kernel
theorem dL_law_257 : decode cL_law 257 = .ok (.aload_n 0, 1) := by decide +kernel
theorem dL_law_258 : decode cL_law 258 = .ok (.iload_n 3, 1) := by decide +kernel
theorem dL_law_259 : decode cL_law 259 = .ok (.iconst 2, 1) := by decide +kernel
theorem dL_law_260 : decode cL_law 260 = .ok (.iadd, 1) := by decide +kernel
theorem dL_law_261 : decode cL_law 261 = .ok (.iaload, 1) := by decide +kernel
theorem dL_law_262 : decode cL_law 262 = .ok (.i2l, 1) := by decide +kernel
theorem dL_law_263 : decode cL_law 263 = .ok (.ldc2_w 44, 3) := by decide +kernel
theorem dL_law_266 : decode cL_law 266 = .ok (.land, 1) := by decide +kernel
theorem dL_law_267 : decode cL_law 267 = .ok (.lor, 1) := by decide +kernel
theorem dL_law_268 : decode cL_law 268 = .ok (.aload_n 0, 1) := by decide +kernel
theorem dL_law_269 : decode cL_law 269 = .ok (.iload_n 3, 1) := by decide +kernel
theorem dL_law_270 : decode cL_law 270 = .ok (.iconst 3, 1) := by decide +kernel
theorem dL_law_271 : decode cL_law 271 = .ok (.iadd, 1) := by decide +kernel
theorem dL_law_272 : decode cL_law 272 = .ok (.iaload, 1) := by decide +kernel
theorem dL_law_273 : decode cL_law 273 = .ok (.invokevirtual 46, 3) := by decide +kernel
theorem dL_law_276 : decode cL_law 276 = .ok (.aload_n 2, 1) := by decide +kernel
theorem dL_law_277 : decode cL_law 277 = .ok (.aload_n 0, 1) := by decide +kernel
theorem dL_law_278 : decode cL_law 278 = .ok (.iload_n 3, 1) := by decide +kernel
theorem dL_law_279 : decode cL_law 279 = .ok (.iconst 1, 1) := by decide +kernel
theorem dL_law_280 : decode cL_law 280 = .ok (.iadd, 1) := by decide +kernel
theorem dL_law_281 : decode cL_law 281 = .ok (.iaload, 1) := by decide +kernel
theorem dL_law_282 : decode cL_law 282 = .ok (.i2l, 1) := by decide +kernel
theorem dL_law_283 : decode cL_law 283 = .ok (.bipush 32, 2) := by decide +kernel
theorem dL_law_285 : decode cL_law 285 = .ok (.lshl, 1) := by decide +kernel
theorem dL_law_286 : decode cL_law 286 = .ok (.aload_n 0, 1) := by decide +kernel
theorem dL_law_287 : decode cL_law 287 = .ok (.iload_n 3, 1) := by decide +kernel
theorem dL_law_288 : decode cL_law 288 = .ok (.iconst 2, 1) := by decide +kernel
theorem dL_law_289 : decode cL_law 289 = .ok (.iadd, 1) := by decide +kernel
theorem dL_law_290 : decode cL_law 290 = .ok (.iaload, 1) := by decide +kernel
theorem dL_law_291 : decode cL_law 291 = .ok (.i2l, 1) := by decide +kernel
theorem dL_law_292 : decode cL_law 292 = .ok (.ldc2_w 44, 3) := by decide +kernel
theorem dL_law_295 : decode cL_law 295 = .ok (.land, 1) := by decide +kernel
theorem dL_law_296 : decode cL_law 296 = .ok (.lor, 1) := by decide +kernel
theorem dL_law_297 : decode cL_law 297 = .ok (.aload_n 0, 1) := by decide +kernel
theorem dL_law_298 : decode cL_law 298 = .ok (.iload_n 3, 1) := by decide +kernel
theorem dL_law_299 : decode cL_law 299 = .ok (.iconst 3, 1) := by decide +kernel
theorem dL_law_300 : decode cL_law 300 = .ok (.iadd, 1) := by decide +kernel
theorem dL_law_301 : decode cL_law 301 = .ok (.iaload, 1) := by decide +kernel
theorem dL_law_302 : decode cL_law 302 = .ok (.invokevirtual 50, 3) := by decide +kernel
theorem dL_law_305 : decode cL_law 305 = .ok (.if_icmp .eq 222, 3) := by decide +kernel
theorem dL_law_308 : decode cL_law 308 = .ok (.iconst 0, 1) := by decide +kernel
theorem dL_law_309 : decode cL_law 309 = .ok (.ireturn, 1) := by decide +kernel
theorem dL_law_310 : decode cL_law 310 = .ok (.aload_n 1, 1) := by decide +kernel
theorem dL_law_311 : decode cL_law 311 = .ok (.aload_n 0, 1) := by decide +kernel
theorem dL_law_312 : decode cL_law 312 = .ok (.iload_n 3, 1) := by decide +kernel
theorem dL_law_313 : decode cL_law 313 = .ok (.iconst 1, 1) := by decide +kernel
theorem dL_law_314 : decode cL_law 314 = .ok (.iadd, 1) := by decide +kernel
theorem dL_law_315 : decode cL_law 315 = .ok (.iaload, 1) := by decide +kernel
theorem dL_law_316 : decode cL_law 316 = .ok (.invokevirtual 51, 3) := by decide +kernel
theorem dL_law_319 : decode cL_law 319 = .ok (.aload_n 2, 1) := by decide +kernel
theorem dL_law_320 : decode cL_law 320 = .ok (.aload_n 0, 1) := by decide +kernel
theorem dL_law_321 : decode cL_law 321 = .ok (.iload_n 3, 1) := by decide +kernel
theorem dL_law_322 : decode cL_law 322 = .ok (.iconst 1, 1) := by decide +kernel
theorem dL_law_323 : decode cL_law 323 = .ok (.iadd, 1) := by decide +kernel
theorem dL_law_324 : decode cL_law 324 = .ok (.iaload, 1) := by decide +kernel
theorem dL_law_325 : decode cL_law 325 = .ok (.invokevirtual 54, 3) := by decide +kernel
theorem dL_law_328 : decode cL_law 328 = .ok (.if_icmp .eq 199, 3) := by decide +kernel
theorem dL_law_331 : decode cL_law 331 = .ok (.iconst 0, 1) := by decide +kernel
theorem dL_law_332 : decode cL_law 332 = .ok (.ireturn, 1) := by decide +kernel
theorem dL_law_333 : decode cL_law 333 = .ok (.aload_n 1, 1) := by decide +kernel
theorem dL_law_334 : decode cL_law 334 = .ok (.aload_n 0, 1) := by decide +kernel
theorem dL_law_335 : decode cL_law 335 = .ok (.iload_n 3, 1) := by decide +kernel
theorem dL_law_336 : decode cL_law 336 = .ok (.iconst 1, 1) := by decide +kernel
theorem dL_law_337 : decode cL_law 337 = .ok (.iadd, 1) := by decide +kernel
theorem dL_law_338 : decode cL_law 338 = .ok (.iaload, 1) := by decide +kernel
theorem dL_law_339 : decode cL_law 339 = .ok (.invokevirtual 55, 3) := by decide +kernel
theorem dL_law_342 : decode cL_law 342 = .ok (.aload_n 2, 1) := by decide +kernel
theorem dL_law_343 : decode cL_law 343 = .ok (.aload_n 0, 1) := by decide +kernel
theorem dL_law_344 : decode cL_law 344 = .ok (.iload_n 3, 1) := by decide +kernel
theorem dL_law_345 : decode cL_law 345 = .ok (.iconst 1, 1) := by decide +kernel
theorem dL_law_346 : decode cL_law 346 = .ok (.iadd, 1) := by decide +kernel
theorem dL_law_347 : decode cL_law 347 = .ok (.iaload, 1) := by decide +kernel
theorem dL_law_348 : decode cL_law 348 = .ok (.invokevirtual 58, 3) := by decide +kernel
theorem dL_law_351 : decode cL_law 351 = .ok (.if_icmp .eq 176, 3) := by decide +kernel
theorem dL_law_354 : decode cL_law 354 = .ok (.iconst 0, 1) := by decide +kernel
theorem dL_law_355 : decode cL_law 355 = .ok (.ireturn, 1) := by decide +kernel
theorem dL_law_356 : decode cL_law 356 = .ok (.aload_n 1, 1) := by decide +kernel
theorem dL_law_357 : decode cL_law 357 = .ok (.aload_n 0, 1) := by decide +kernel
theorem dL_law_358 : decode cL_law 358 = .ok (.iload_n 3, 1) := by decide +kernel
theorem dL_law_359 : decode cL_law 359 = .ok (.iconst 1, 1) := by decide +kernel
theorem dL_law_360 : decode cL_law 360 = .ok (.iadd, 1) := by decide +kernel
theorem dL_law_361 : decode cL_law 361 = .ok (.iaload, 1) := by decide +kernel
theorem dL_law_362 : decode cL_law 362 = .ok (.invokevirtual 59, 3) := by decide +kernel
theorem dL_law_365 : decode cL_law 365 = .ok (.aload_n 2, 1) := by decide +kernel
theorem dL_law_366 : decode cL_law 366 = .ok (.aload_n 0, 1) := by decide +kernel
theorem dL_law_367 : decode cL_law 367 = .ok (.iload_n 3, 1) := by decide +kernel
theorem dL_law_368 : decode cL_law 368 = .ok (.iconst 1, 1) := by decide +kernel
theorem dL_law_369 : decode cL_law 369 = .ok (.iadd, 1) := by decide +kernel
theorem dL_law_370 : decode cL_law 370 = .ok (.iaload, 1) := by decide +kernel
theorem dL_law_371 : decode cL_law 371 = .ok (.invokevirtual 62, 3) := by decide +kernel
theorem dL_law_374 : decode cL_law 374 = .ok (.if_icmp .eq 153, 3) := by decide +kernel
theorem dL_law_377 : decode cL_law 377 = .ok (.iconst 0, 1) := by decide +kernel
theorem dL_law_378 : decode cL_law 378 = .ok (.ireturn, 1) := by decide +kernel
theorem dL_law_379 : decode cL_law 379 = .ok (.aload_n 1, 1) := by decide +kernel
theorem dL_law_380 : decode cL_law 380 = .ok (.invokevirtual 63, 3) := by decide +kernel
theorem dL_law_383 : decode cL_law 383 = .ok (.aload_n 2, 1) := by decide +kernel
theorem dL_law_384 : decode cL_law 384 = .ok (.invokevirtual 66, 3) := by decide +kernel
theorem dL_law_387 : decode cL_law 387 = .ok (.if_icmp .eq 140, 3) := by decide +kernel
theorem dL_law_390 : decode cL_law 390 = .ok (.iconst 0, 1) := by decide +kernel
theorem dL_law_391 : decode cL_law 391 = .ok (.ireturn, 1) := by decide +kernel
theorem dL_law_392 : decode cL_law 392 = .ok (.aload_n 1, 1) := by decide +kernel
theorem dL_law_393 : decode cL_law 393 = .ok (.invokevirtual 67, 3) := by decide +kernel
theorem dL_law_396 : decode cL_law 396 = .ok (.aload_n 2, 1) := by decide +kernel
theorem dL_law_397 : decode cL_law 397 = .ok (.invokevirtual 70, 3) := by decide +kernel
theorem dL_law_400 : decode cL_law 400 = .ok (.if_icmp .eq 127, 3) := by decide +kernel
theorem dL_law_403 : decode cL_law 403 = .ok (.iconst 0, 1) := by decide +kernel
theorem dL_law_404 : decode cL_law 404 = .ok (.ireturn, 1) := by decide +kernel
theorem dL_law_405 : decode cL_law 405 = .ok (.aload_n 1, 1) := by decide +kernel
theorem dL_law_406 : decode cL_law 406 = .ok (.aload_n 0, 1) := by decide +kernel
theorem dL_law_407 : decode cL_law 407 = .ok (.iload_n 3, 1) := by decide +kernel
theorem dL_law_408 : decode cL_law 408 = .ok (.iconst 1, 1) := by decide +kernel
theorem dL_law_409 : decode cL_law 409 = .ok (.iadd, 1) := by decide +kernel
theorem dL_law_410 : decode cL_law 410 = .ok (.iaload, 1) := by decide +kernel
theorem dL_law_411 : decode cL_law 411 = .ok (.ifCond .eq 7, 3) := by decide +kernel
theorem dL_law_414 : decode cL_law 414 = .ok (.iconst 1, 1) := by decide +kernel
theorem dL_law_415 : decode cL_law 415 = .ok (.goto 4, 3) := by decide +kernel
theorem dL_law_418 : decode cL_law 418 = .ok (.iconst 0, 1) := by decide +kernel
theorem dL_law_419 : decode cL_law 419 = .ok (.invokevirtual 71, 3) := by decide +kernel
theorem dL_law_422 : decode cL_law 422 = .ok (.aload_n 2, 1) := by decide +kernel
theorem dL_law_423 : decode cL_law 423 = .ok (.aload_n 0, 1) := by decide +kernel
theorem dL_law_424 : decode cL_law 424 = .ok (.iload_n 3, 1) := by decide +kernel
theorem dL_law_425 : decode cL_law 425 = .ok (.iconst 1, 1) := by decide +kernel
theorem dL_law_426 : decode cL_law 426 = .ok (.iadd, 1) := by decide +kernel
theorem dL_law_427 : decode cL_law 427 = .ok (.iaload, 1) := by decide +kernel
theorem dL_law_428 : decode cL_law 428 = .ok (.ifCond .eq 7, 3) := by decide +kernel
theorem dL_law_431 : decode cL_law 431 = .ok (.iconst 1, 1) := by decide +kernel
theorem dL_law_432 : decode cL_law 432 = .ok (.goto 4, 3) := by decide +kernel
theorem dL_law_435 : decode cL_law 435 = .ok (.iconst 0, 1) := by decide +kernel
theorem dL_law_436 : decode cL_law 436 = .ok (.invokevirtual 75, 3) := by decide +kernel
theorem dL_law_439 : decode cL_law 439 = .ok (.if_icmp .eq 88, 3) := by decide +kernel
theorem dL_law_442 : decode cL_law 442 = .ok (.iconst 0, 1) := by decide +kernel
theorem dL_law_443 : decode cL_law 443 = .ok (.ireturn, 1) := by decide +kernel
theorem dL_law_444 : decode cL_law 444 = .ok (.aload_n 1, 1) := by decide +kernel
theorem dL_law_445 : decode cL_law 445 = .ok (.invokevirtual 76, 3) := by decide +kernel
theorem dL_law_448 : decode cL_law 448 = .ok (.aload_n 2, 1) := by decide +kernel
theorem dL_law_449 : decode cL_law 449 = .ok (.invokevirtual 79, 3) := by decide +kernel
theorem dL_law_452 : decode cL_law 452 = .ok (.if_icmp .eq 75, 3) := by decide +kernel
theorem dL_law_455 : decode cL_law 455 = .ok (.iconst 0, 1) := by decide +kernel
theorem dL_law_456 : decode cL_law 456 = .ok (.ireturn, 1) := by decide +kernel
theorem dL_law_457 : decode cL_law 457 = .ok (.aload_n 1, 1) := by decide +kernel
theorem dL_law_458 : decode cL_law 458 = .ok (.aload_n 0, 1) := by decide +kernel
theorem dL_law_459 : decode cL_law 459 = .ok (.iload_n 3, 1) := by decide +kernel
theorem dL_law_460 : decode cL_law 460 = .ok (.iconst 1, 1) := by decide +kernel
theorem dL_law_461 : decode cL_law 461 = .ok (.iadd, 1) := by decide +kernel
theorem dL_law_462 : decode cL_law 462 = .ok (.iaload, 1) := by decide +kernel
theorem dL_law_463 : decode cL_law 463 = .ok (.aload_n 0, 1) := by decide +kernel
theorem dL_law_464 : decode cL_law 464 = .ok (.iload_n 3, 1) := by decide +kernel
theorem dL_law_465 : decode cL_law 465 = .ok (.iconst 2, 1) := by decide +kernel
theorem dL_law_466 : decode cL_law 466 = .ok (.iadd, 1) := by decide +kernel
theorem dL_law_467 : decode cL_law 467 = .ok (.iaload, 1) := by decide +kernel
theorem dL_law_468 : decode cL_law 468 = .ok (.invokevirtual 80, 3) := by decide +kernel
theorem dL_law_471 : decode cL_law 471 = .ok (.aload_n 2, 1) := by decide +kernel
theorem dL_law_472 : decode cL_law 472 = .ok (.aload_n 0, 1) := by decide +kernel
theorem dL_law_473 : decode cL_law 473 = .ok (.iload_n 3, 1) := by decide +kernel
theorem dL_law_474 : decode cL_law 474 = .ok (.iconst 1, 1) := by decide +kernel
theorem dL_law_475 : decode cL_law 475 = .ok (.iadd, 1) := by decide +kernel
theorem dL_law_476 : decode cL_law 476 = .ok (.iaload, 1) := by decide +kernel
theorem dL_law_477 : decode cL_law 477 = .ok (.aload_n 0, 1) := by decide +kernel
theorem dL_law_478 : decode cL_law 478 = .ok (.iload_n 3, 1) := by decide +kernel
theorem dL_law_479 : decode cL_law 479 = .ok (.iconst 2, 1) := by decide +kernel
theorem dL_law_480 : decode cL_law 480 = .ok (.iadd, 1) := by decide +kernel
theorem dL_law_481 : decode cL_law 481 = .ok (.iaload, 1) := by decide +kernel
theorem dL_law_482 : decode cL_law 482 = .ok (.invokevirtual 83, 3) := by decide +kernel
theorem dL_law_485 : decode cL_law 485 = .ok (.if_icmp .eq 42, 3) := by decide +kernel
theorem dL_law_488 : decode cL_law 488 = .ok (.iconst 0, 1) := by decide +kernel
theorem dL_law_489 : decode cL_law 489 = .ok (.ireturn, 1) := by decide +kernel
theorem dL_law_490 : decode cL_law 490 = .ok (.aload_n 1, 1) := by decide +kernel
theorem dL_law_491 : decode cL_law 491 = .ok (.aload_n 0, 1) := by decide +kernel
theorem dL_law_492 : decode cL_law 492 = .ok (.iload_n 3, 1) := by decide +kernel
theorem dL_law_493 : decode cL_law 493 = .ok (.iconst 1, 1) := by decide +kernel
theorem dL_law_494 : decode cL_law 494 = .ok (.iadd, 1) := by decide +kernel
theorem dL_law_495 : decode cL_law 495 = .ok (.iaload, 1) := by decide +kernel
theorem dL_law_496 : decode cL_law 496 = .ok (.invokevirtual 84, 3) := by decide +kernel
theorem dL_law_499 : decode cL_law 499 = .ok (.aload_n 2, 1) := by decide +kernel
theorem dL_law_500 : decode cL_law 500 = .ok (.aload_n 0, 1) := by decide +kernel
theorem dL_law_501 : decode cL_law 501 = .ok (.iload_n 3, 1) := by decide +kernel
theorem dL_law_502 : decode cL_law 502 = .ok (.iconst 1, 1) := by decide +kernel
theorem dL_law_503 : decode cL_law 503 = .ok (.iadd, 1) := by decide +kernel
theorem dL_law_504 : decode cL_law 504 = .ok (.iaload, 1) := by decide +kernel
theorem dL_law_505 : decode cL_law 505 = .ok (.invokevirtual 87, 3) := by decide +kernel
theorem dL_law_508 : decode cL_law 508 = .ok (.if_icmp .eq 19, 3) := by decide +kernel
theorem dL_law_511 : decode cL_law 511 = .ok (.iconst 0, 1) := by decide +kernel
theorem dL_law_512 : decode cL_law 512 = .ok (.ireturn, 1) := by decide +kernel
theorem dL_law_513 : decode cL_law 513 = .ok (.aload_n 1, 1) := by decide +kernel
theorem dL_law_514 : decode cL_law 514 = .ok (.invokevirtual 88, 3) := by decide +kernel
theorem dL_law_517 : decode cL_law 517 = .ok (.aload_n 2, 1) := by decide +kernel
theorem dL_law_518 : decode cL_law 518 = .ok (.invokevirtual 92, 3) := by decide +kernel
theorem dL_law_521 : decode cL_law 521 = .ok (.lcmp, 1) := by decide +kernel
theorem dL_law_522 : decode cL_law 522 = .ok (.ifCond .eq 5, 3) := by decide +kernel
theorem dL_law_525 : decode cL_law 525 = .ok (.iconst 0, 1) := by decide +kernel
theorem dL_law_526 : decode cL_law 526 = .ok (.ireturn, 1) := by decide +kernel
theorem dL_law_527 : decode cL_law 527 = .ok (.iinc 3 4, 3) := by decide +kernel
theorem dL_law_530 : decode cL_law 530 = .ok (.goto (-492), 3) := by decide +kernel
theorem dL_law_533 : decode cL_law 533 = .ok (.iconst 1, 1) := by decide +kernel
theorem dL_law_534 : decode cL_law 534 = .ok (.ireturn, 1) := by decide +kernel
end
section
/-! THE JUDGEMENT. A world of ours is a function from numbers to cells; a reference is a number; numbers below 7 name cells that nobody writes (the six static rows, the script). ab_St says of an abstract state of a method that the machine, wherever it stands there, comes to the method's return with Q. -/
abbrev ab_C : Type := (FieldType × Nat × ((Nat → Int32) ⊕ (Nat → Int64))) ⊕ (Nat × List Value)
abbrev ab_W : Type := Nat → ab_C
abbrev aI (n : Nat) (f : Nat → Int32) : ab_C := .inl (.int, n, .inl f)
abbrev aB (n : Nat) (f : Nat → Int32) : ab_C := .inl (.byte, n, .inl f)
abbrev aJ (n : Nat) (f : Nat → Int64) : ab_C := .inl (.long, n, .inr f)
abbrev aO (ci : Nat) (fs : List Value) : ab_C := .inr (ci, fs)
def wu (w : ab_W) (k : Nat) (c : ab_C) : ab_W := fun j => if j = k then c else w j
/-- the launch; classes and slots; the array classes (int, long, byte); the first address of ours; the addresses below 7 and what lies there -/
abbrev ab_G : Type := Launch × va_G × (ClassId × ClassId × ClassId) × Nat × (Nat → Nat) × ab_W
abbrev gL (g : ab_G) : Launch := g.1
abbrev gD (g : ab_G) : va_G := g.2.1
abbrev gI (g : ab_G) : ClassId := g.2.2.1.1
abbrev gJ (g : ab_G) : ClassId := g.2.2.1.2.1
abbrev gB (g : ab_G) : ClassId := g.2.2.1.2.2
abbrev gZ (g : ab_G) : Nat := g.2.2.2.1
abbrev gE (g : ab_G) : Nat → Nat := g.2.2.2.2.1
abbrev gX (g : ab_G) : ab_W := g.2.2.2.2.2
abbrev gT (g : ab_G) : List (ClassId × FieldType) := [(gI g, .int), (gJ g, .long), (gB g, .byte)]
def gA (g : ab_G) : Nat → Prop := fun q => gZ g ≤ q
def ad (g : ab_G) (k : Nat) : Nat := if k < 7 then gE g k else gZ g + (k - 7)
def cv (g : ab_G) : Value → Value
  | .ref k => .ref (ad g k)
  | .int v => .int v
  | .long v => .long v
  | v => v
def ce (g : ab_G) : ab_C → va_E
  | .inl (.byte, n, .inl f) => .inl (gB g, n, .inl f)
  | .inl (_, n, .inl f) => .inl (gI g, n, .inl f)
  | .inl (_, n, .inr f) => .inl (gJ g, n, .inr (.inl f))
  | .inr (ci, fs) => .inr (ci, fs.map (cv g))
def cl (g : ab_G) (L : List (Nat × Value)) : List (Nat × Value) := L.map (fun q => (q.1, cv g q.2))
theorem cv_cat (g : ab_G) (v : Value) : (cv g v).category = v.category := by cases v <;> rfl
theorem cv_cats (g : ab_G) (S : List Value) : ((S.map (cv g)).map fun v => v.category) = S.map fun v => v.category := by
  rw [List.map_map]
  exact List.map_congr_left fun v _ => cv_cat g v
theorem ad_lt {g : ab_G} {k : Nat} (h : k < 7) : ad g k = gE g k := if_pos h
theorem ad_ge {g : ab_G} {k : Nat} (h : 7 ≤ k) : ad g k = gZ g + (k - 7) := if_neg (by omega)
theorem ad_inj {g : ab_G} {i j : Nat} (hi : 7 ≤ i) (hj : 7 ≤ j) (h : ad g i = ad g j) : i = j := by
  rw [ad_ge hi, ad_ge hj] at h
  omega
/-- an array that nobody writes: its kind is char for ints, short for longs -/
def ab_X (g : ab_G) (k : Nat) (U : State) : Prop := match gX g k with
  | .inl (.char, n, .inl f) => va_T .int (gE g k) n (fun j => .int (f j)) (gA g) U U.heap
  | .inl (.short, n, .inr f) => va_T .long (gE g k) n (fun j => .long (f j)) (gA g) U U.heap
  | _ => False
def xI (n : Nat) (f : Nat → Int32) : ab_C := .inl (.char, n, .inl f)
def xJ (n : Nat) (f : Nat → Int64) : ab_C := .inl (.short, n, .inr f)
/-- the six static fields -/
def ab_S : Nat → String × String × String
  | 0 => ("SignHouse$Sha256", "START", "[I")
  | 1 => ("SignHouse$Sha256", "STEPS", "[I")
  | 2 => ("SignHouse$Hunt", "ODD_PRIMES", "[I")
  | 3 => ("SignHouse$Hunt", "BASES", "[I")
  | 4 => ("SignHouse$KeyRows", "E_ROW", "[J")
  | _ => ("SignHouse", "HASH_NAME", "[I")
def ab_n0 : Cond := .methodLinkNest "SignHouse" 30 ⟨"SignHouse$Draw", "<init>", "()V"⟩ "SignHouse"
def ab_n1 : Cond := .methodLinkNest "SignHouse$Draw" 17 ⟨"SignHouse$Sha256", "<init>", "()V"⟩ "SignHouse"
def ab_n2 : Cond := .methodLinkNest "SignHouse$Message" 15 ⟨"SignHouse$Sha256", "<init>", "()V"⟩ "SignHouse"
/-- what the tables say, and the cells that nobody writes -/
def ab_K (g : ab_G) (U : State) : Prop := va_K (gD g) vwCl (gT g) U ∧ (∀ k, k < 7 → ab_X g k U) ∧ (∀ k, k < 6 → va_Z (ab_S k).1 (ab_S k).2.1 (ab_S k).2.2 (.ref (gE g k)) (gA g) U U.heap) ∧ va_Nw ab_n0 U ∧ va_Nw ab_n1 U ∧ va_Nw ab_n2 U
theorem ab_K.moved {g : ab_G} {s U : State} {locs : List Loc} (hW : s.WarmedH U.vm) (hS : va_S (gA g) s.heap U.heap locs) (h : ab_K g s) : ab_K g U := by
  obtain ⟨h1, h2, h3, h4, h5, h6⟩ := h
  refine ⟨va_K.moved hW.alike h1, fun k hk => ?_, fun k hk => ((h3 k hk).moved hW.alike).kept hS.2.1, h4.warmM hW, h5.warmM hW, h6.warmM hW⟩
  have h := h2 k hk
  unfold ab_X at h ⊢
  split at h
  · exact (h.moved hW.alike).kept hS.2.1
  · exact (h.moved hW.alike).kept hS.2.1
  · exact h.elim
/-- the heap holds the world of the numbers below N -/
def ab_o : ab_C := .inr (99, [])
def ab_P (g : ab_G) (N : Nat) (w : ab_W) (H : Heap) : Prop := 7 ≤ N ∧ H.size = gZ g + (N - 7) ∧ (∀ k, 7 ≤ k → k < N → va_at (gD g) vwCl (ad g k, ce g (w k)) H) ∧ (∀ k, k < 7 → w k = gX g k) ∧ ∀ k, N ≤ k → w k = ab_o
def ab_l (g : ab_G) (N : Nat) (w : ab_W) : va_W := (List.range (N - 7)).map fun i => (ad g (i + 7), ce g (w (i + 7)))
theorem ab_l_at {g : ab_G} {N k : Nat} {w : ab_W} (h : 7 ≤ k) (hN : k < N) : (ab_l g N w)[k - 7]? = some (ad g k, ce g (w k)) := by
  unfold ab_l
  rw [List.getElem?_map, List.getElem?_range (by omega)]
  show some (ad g (k - 7 + 7), ce g (w (k - 7 + 7))) = _
  rw [show k - 7 + 7 = k by omega]
theorem ab_l_of {g : ab_G} {N i : Nat} {w : ab_W} {q : Nat × va_E} (h : (ab_l g N w)[i]? = some q) : i + 7 < N ∧ q = (ad g (i + 7), ce g (w (i + 7))) := by
  unfold ab_l at h
  rw [List.getElem?_map] at h
  by_cases hi : i < N - 7
  · rw [List.getElem?_range hi] at h
    exact ⟨by omega, (Option.some.inj h).symm⟩
  · rw [List.getElem?_eq_none (by simpa using hi)] at h
    cases h
theorem ab_P.P {g : ab_G} {N : Nat} {w : ab_W} {H : Heap} (h : ab_P g N w H) : va_P (gD g) vwCl (ab_l g N w) H := by
  intro i q hq
  obtain ⟨h1, rfl⟩ := ab_l_of hq
  exact h.2.2.1 _ (by omega) h1
theorem ab_l_D (g : ab_G) (N : Nat) (w : ab_W) : va_D (gA g) (ab_l g N w) := by
  refine ⟨fun i j p q hp hq he => ?_, fun i q hq => ?_⟩
  · obtain ⟨h1, rfl⟩ := ab_l_of hp
    obtain ⟨h2, rfl⟩ := ab_l_of hq
    have := ad_inj (g := g) (i := i + 7) (j := j + 7) (by omega) (by omega) he
    omega
  · obtain ⟨h1, rfl⟩ := ab_l_of hq
    show gZ g ≤ ad g (i + 7)
    rw [ad_ge (by omega)]
    omega
theorem ab_P.set {g : ab_G} {N k : Nat} {w : ab_W} {H H1 : Heap} {c : ab_C} (h : ab_P g N w H) (hk : 7 ≤ k) (hN : k < N) (hc : va_at (gD g) vwCl (ad g k, ce g c) H1) (hz : H1.size = H.size) (ho : ∀ q, q ≠ ad g k → H1[q]? = H[q]?) : ab_P g N (wu w k c) H1 := by
  obtain ⟨a1, a2, a3, a4, a5⟩ := h
  refine ⟨a1, by rw [hz]; exact a2, fun j hj hjN => ?_, fun j hj => ?_, fun j hj => ?_⟩
  · unfold wu
    by_cases e : j = k
    · rw [if_pos e, e]
      exact hc
    · rw [if_neg e]
      exact (a3 j hj hjN).kept (ho _ fun z => e (ad_inj hj hk z))
  · unfold wu
    rw [if_neg (by omega)]
    exact a4 j hj
  · unfold wu
    rw [if_neg (by omega)]
    exact a5 j hj
theorem ab_P.push {g : ab_G} {N : Nat} {w : ab_W} {H H1 : Heap} {c : ab_C} (h : ab_P g N w H) (hc : va_at (gD g) vwCl (ad g N, ce g c) H1) (hz : H1.size = H.size + 1) (ho : ∀ q, q < H.size → H1[q]? = H[q]?) : ab_P g (N + 1) (wu w N c) H1 := by
  obtain ⟨a1, a2, a3, a4, a5⟩ := h
  refine ⟨by omega, by omega, fun j hj hjN => ?_, fun j hj => ?_, fun j hj => ?_⟩
  · unfold wu
    by_cases e : j = N
    · rw [if_pos e, e]
      exact hc
    · rw [if_neg e]
      exact (a3 j hj (by omega)).kept (ho _ (a3 j hj (by omega)).lt)
  · unfold wu
    rw [if_neg (by omega)]
    exact a4 j hj
  · unfold wu
    rw [if_neg (by omega)]
    exact a5 j (by omega)
theorem ab_P.top {g : ab_G} {N : Nat} {w : ab_W} {H : Heap} (h : ab_P g N w H) : ad g N = H.size := by
  rw [ad_ge h.1, h.2.1]
/-- a cell of a kind that is written is one of ours -/
theorem ab_own {g : ab_G} {U : State} {N k : Nat} {w : ab_W} {H : Heap} (h : ab_P g N w H) (hK : ab_K g U) (h1 : ∀ n f, w k ≠ .inl (.char, n, .inl f)) (h2 : ∀ n f, w k ≠ .inl (.short, n, .inr f)) (h3 : w k ≠ ab_o) : 7 ≤ k ∧ k < N := by
  constructor
  · refine Nat.le_of_not_lt fun hk => ?_
    have hx := hK.2.1 k hk
    unfold ab_X at hx
    rw [← h.2.2.2.1 k hk] at hx
    split at hx
    · rename_i e
      exact h1 _ _ e
    · rename_i e
      exact h2 _ _ e
    · exact hx
  · refine Nat.lt_of_not_le fun hk => ?_
    exact h3 (h.2.2.2.2 k hk)
/-- what is read of an array -/
def rdI : ab_C → Option (Nat × (Nat → Int32))
  | .inl (.int, n, .inl f) => some (n, f)
  | .inl (.char, n, .inl f) => some (n, f)
  | _ => none
def rdJ : ab_C → Option (Nat × (Nat → Int64))
  | .inl (.long, n, .inr f) => some (n, f)
  | .inl (.short, n, .inr f) => some (n, f)
  | _ => none
def rdL : ab_C → Option Nat
  | .inl (.int, n, .inl _) => some n
  | .inl (.byte, n, .inl _) => some n
  | .inl (.char, n, .inl _) => some n
  | .inl (.long, n, .inr _) => some n
  | .inl (.short, n, .inr _) => some n
  | _ => none
theorem rdI_of {c : ab_C} {n : Nat} {f : Nat → Int32} (h : rdI c = some (n, f)) : c = aI n f ∨ c = xI n f := by
  unfold rdI at h
  split at h
  · cases h; exact Or.inl rfl
  · cases h; exact Or.inr rfl
  · cases h
theorem rdJ_of {c : ab_C} {n : Nat} {f : Nat → Int64} (h : rdJ c = some (n, f)) : c = aJ n f ∨ c = xJ n f := by
  unfold rdJ at h
  split at h
  · cases h; exact Or.inl rfl
  · cases h; exact Or.inr rfl
  · cases h
theorem own_I {g : ab_G} {U : State} {N k n : Nat} {f : Nat → Int32} {w : ab_W} {H : Heap} (h : ab_P g N w H) (hK : ab_K g U) (e : w k = aI n f) : 7 ≤ k ∧ k < N := ab_own h hK (fun _ _ z => by rw [e] at z; cases z) (fun _ _ z => by rw [e] at z; cases z) (fun z => by rw [e] at z; cases z)
theorem own_B {g : ab_G} {U : State} {N k n : Nat} {f : Nat → Int32} {w : ab_W} {H : Heap} (h : ab_P g N w H) (hK : ab_K g U) (e : w k = aB n f) : 7 ≤ k ∧ k < N := ab_own h hK (fun _ _ z => by rw [e] at z; cases z) (fun _ _ z => by rw [e] at z; cases z) (fun z => by rw [e] at z; cases z)
theorem own_J {g : ab_G} {U : State} {N k n : Nat} {f : Nat → Int64} {w : ab_W} {H : Heap} (h : ab_P g N w H) (hK : ab_K g U) (e : w k = aJ n f) : 7 ≤ k ∧ k < N := ab_own h hK (fun _ _ z => by rw [e] at z; cases z) (fun _ _ z => by rw [e] at z; cases z) (fun z => by rw [e] at z; cases z)
theorem own_O {g : ab_G} {U : State} {N k ci : Nat} {fs : List Value} {w : ab_W} {H : Heap} {q : vw_C} (h : ab_P g N w H) (hK : ab_K g U) (e : w k = aO ci fs) (hc : vwCl[ci]? = some q) : 7 ≤ k ∧ k < N := ab_own h hK (fun _ _ z => by rw [e] at z; cases z) (fun _ _ z => by rw [e] at z; cases z) (fun z => by rw [e] at z; cases z; cases hc)
theorem own_xI {g : ab_G} {U : State} {N k n : Nat} {f : Nat → Int32} {w : ab_W} {H : Heap} (h : ab_P g N w H) (hK : ab_K g U) (e : w k = xI n f) : (7 ≤ k ∧ k < N) ∨ (k < 7 ∧ va_T .int (gE g k) n (fun j => .int (f j)) (gA g) U U.heap) := by
  by_cases hk : k < 7
  · right
    refine ⟨hk, ?_⟩
    have hx := hK.2.1 k hk
    unfold ab_X at hx
    rw [← h.2.2.2.1 k hk, e] at hx
    exact hx
  · left
    refine ⟨by omega, Nat.lt_of_not_le fun hN => ?_⟩
    have z := h.2.2.2.2 k hN
    rw [e] at z
    cases z
theorem own_xJ {g : ab_G} {U : State} {N k n : Nat} {f : Nat → Int64} {w : ab_W} {H : Heap} (h : ab_P g N w H) (hK : ab_K g U) (e : w k = xJ n f) : (7 ≤ k ∧ k < N) ∨ (k < 7 ∧ va_T .long (gE g k) n (fun j => .long (f j)) (gA g) U U.heap) := by
  by_cases hk : k < 7
  · right
    refine ⟨hk, ?_⟩
    have hx := hK.2.1 k hk
    unfold ab_X at hx
    rw [← h.2.2.2.1 k hk, e] at hx
    exact hx
  · left
    refine ⟨by omega, Nat.lt_of_not_le fun hN => ?_⟩
    have z := h.2.2.2.2 k hN
    rw [e] at z
    cases z
/-- the words of every method -/
def ws0 : List Cond := lw_tbl.filter goodWord
theorem in0 {c : Cond} (i : Nat) (h : lw_tbl[i]? = some c) (hg : goodWord c = true) : c ∈ ws0 := List.mem_filter.mpr ⟨List.mem_of_getElem? h, hg⟩
theorem ws0_good : ∀ c ∈ ws0, goodWord c = true := fun _ h => (List.mem_filter.mp h).2
/-- a method: name, code, locals, return type, room -/
abbrev ab_M : Type := MethodName × ByteArray × Nat × Option FieldType × Room
abbrev mY (μ : ab_M) : MethodName := μ.1
abbrev mC (μ : ab_M) : ByteArray := μ.2.1
abbrev mN (μ : ab_M) : Nat := μ.2.2.1
abbrev mR (μ : ab_M) : Option FieldType := μ.2.2.2.1
abbrev mZ (μ : ab_M) : Room := μ.2.2.2.2
def mW (μ : ab_M) : List Cond := Cond.code (mY μ) (mC μ) (mN μ) (mR μ) :: ws0
def ab_E (μ : ab_M) (g : ab_G) (p : Program) (s : State) (m : MethodId) (args : Array Value) (meth : Method) (c : Code) : Prop :=
  p.tables.exec = Jvm.exec ∧ c.code = mC μ ∧ c.maxLocals = mN μ ∧ s.vm.findClass (mY μ).cls = some m.cls ∧ (∀ w ∈ ws0, w.before args s = true) ∧ ab_K g s ∧ ((mY μ).name = "<init>" → meth.name = "<init>")
def ab_r (b : ByteArray) (pc : Nat) : Option Value → Prop
  | none => decode b pc = .ok (.return_, 1)
  | some (.int _) => decode b pc = .ok (.ireturn, 1)
  | some (.long _) => decode b pc = .ok (.lreturn, 1)
  | some (.ref _) => decode b pc = .ok (.areturn, 1)
  | _ => False
def rs : Option Value → List Value → List Value
  | none, S => S
  | some v, S => v :: S
abbrev ab_Q : Type := Option Value → Nat → ab_W → Prop
def ab_R (μ : ab_M) (g : ab_G) (p : Program) (e : Env) (s : State) (m : MethodId) (args : Array Value) (below : List Frame) (meth : Method) (c : Code) (Z : State → Prop) (Q : ab_Q) : Prop :=
  ∀ (r : Option Value) (N : Nat) (w : ab_W) (H : Heap) (locs : List Loc) (ls : Array Slot) (uc us pc : Nat), Q r N w → uc ≤ (mZ μ).cells → us ≤ (mZ μ).slots → ab_P g N w H → va_S (gA g) s.heap H locs → ab_r (mC μ) pc r →
    W p (gL g) e (mZ μ) s m args below meth c H locs uc us Z (F0 m pc ls (rs (r.map (cv g)) []))
def ab_St (μ : ab_M) (g : ab_G) (uc us pc : Nat) (L : List (Nat × Value)) (S : List Value) (N : Nat) (w : ab_W) (Q : ab_Q) : Prop :=
  ∀ (p : Program) (e : Env) (s : State) (m : MethodId) (args : Array Value) (below : List Frame) (meth : Method) (c : Code) (Z : State → Prop) (H : Heap) (locs : List Loc) (ls : Array Slot),
    ab_E μ g p s m args meth c → ab_R μ g p e s m args below meth c Z Q → ab_P g N w H → va_S (gA g) s.heap H locs → lv_has ls (mN μ) (cl g L) →
    W p (gL g) e (mZ μ) s m args below meth c H locs uc us Z (F0 m pc ls (S.map (cv g)))
def ab_pre (g : ab_G) (as : List Value) (N : Nat) (w : ab_W) : Array Value → State → Prop := va_Pc (as.map (cv g)) (fun U => ab_P g N w U.heap ∧ ab_K g U)
def ab_post (g : ab_G) (Q : ab_Q) : Array Value → State → Outcome → State → Prop := fun _ st oc t => (∃ (r : Option Value) (N : Nat) (w : ab_W), oc = .returned (r.map (cv g)) ∧ Q r N w ∧ ab_P g N w t.heap) ∧ va_F (gA g) st t
/-- a method's contract -/
def ab_Ct (μ : ab_M) (g : ab_G) (as : List Value) (N : Nat) (w : ab_W) (Q : ab_Q) : Prop := Met (gL g) (mY μ) (mW μ) (mZ μ) (ab_pre g as N w) (ab_post g Q) (mZ μ).cells (mZ μ).slots (gA g)
/-- what a method answers: by its return type -/
def ab_k : Option FieldType → Option Value → Prop
  | none, none => True
  | some .int, some (.int _) => True
  | some .boolean, some (.int v) => v = 0 ∨ v = 1
  | some .long, some (.long _) => True
  | some (.array _), some (.ref _) => True
  | _, _ => False
theorem lv_argsmap (g : ab_G) : ∀ (as : List Value) (i : Nat), lv_args i (as.map (cv g)) = cl g (lv_args i as)
  | [], _ => rfl
  | v :: r, i => by
    show lv_args i (cv g v :: r.map (cv g)) = _
    simp only [lv_args, cv_cat, lv_argsmap g r]
    rfl
theorem lg_sl_len (g : ab_G) (as : List Value) : (lg_sl (as.map (cv g))).length = (lg_sl as).length := by
  induction as with
  | nil => rfl
  | cons v r ih =>
    simp only [lg_sl, List.map_cons, List.flatMap_cons, List.length_append, cv_cat] at ih ⊢
    rw [ih]
    congr 1
    split <;> rfl
theorem ab_Ct.of {μ : ab_M} {g : ab_G} {as : List Value} {N : Nat} {w : ab_W} {Q : ab_Q} (hy : plainName (mY μ).cls = true) (hlen : (lg_sl as).length ≤ mN μ) (hk : ∀ r N w, Q r N w → ab_k (mR μ) r) (h : ab_St μ g 0 0 0 (lv_args 0 as) [] N w Q) : ab_Ct μ g as N w Q := by
  refine Met.ofW (cc := mC μ) (maxL := mN μ) (ret := mR μ) hy rfl ?_
  intro p e s m args below meth c s₁ B hml hv
  obtain ⟨rfl, hP, hK⟩ := hv
  have E : ab_E μ g p s m (as.map (cv g)).toArray meth c := ⟨B.exec, B.bytes, hml, findClass_of_methodNamed B.named, fun w hw => atoms_spec (ws := mW μ) B.pre w (List.mem_cons_of_mem _ hw), hK, fun h => by rw [(name_of_methodNamed B.named B.method).1]; exact h⟩
  rw [lg_entry_eq]
  have hl := lv_entry (as.map (cv g)) (n := mN μ) (by rw [lg_sl_len]; exact hlen)
  rw [lv_argsmap] at hl
  refine h p e s m _ below meth c _ s.heap [] _ E ?_ hP va_S.rf hl
  intro r N' w' H locs ls uc us pc hQ hc hs hP' hS hd
  have hkr := hk _ _ _ hQ
  refine W.widen hc hs ?_
  have hend : ∀ t : State, t.heap = H → s.WarmedH t.vm → ab_post g Q (as.map (cv g)).toArray s (.returned (r.map (cv g))) t := fun t ht hW => ⟨⟨r, N', w', rfl, hQ, by rw [ht]; exact hP'⟩, hS.F ht⟩
  have hret := B.returns
  have hlk := B.notSynchronized
  rcases r with _ | v
  · cases hrt : mR μ with
    | none => exact W.vret B.exec B.bytes (hret.trans hrt) hend hS.2.2 hd hlk
    | some ty => rw [hrt] at hkr; cases ty <;> exact hkr.elim
  · cases hrt : mR μ with
    | none => rw [hrt] at hkr; exact hkr.elim
    | some ty =>
      rw [hrt] at hkr
      cases v with
      | int v =>
        cases ty with
        | int => exact W.iret B.exec B.bytes (hret.trans hrt) hend hS.2.2 hd hlk
        | boolean => exact W.zret (ty := .boolean) B.exec B.bytes (hret.trans hrt) (by rcases hkr with rfl | rfl <;> rfl) hend hS.2.2 hd hlk
        | _ => exact hkr.elim
      | long v =>
        cases ty with
        | long => exact W.lret B.exec B.bytes (hret.trans hrt) hend hS.2.2 hd hlk
        | _ => exact hkr.elim
      | ref v =>
        cases ty with
        | array t => exact W.aret B.exec B.bytes (hret.trans hrt) (Or.inr ⟨_, rfl⟩) (Or.inr ⟨_, rfl⟩) hend hS.2.2 hd hlk
        | _ => exact hkr.elim
      | _ => cases ty <;> exact hkr.elim
end
section
/-! THE RULES: an instruction, a row; what is left to show is the state behind it -/
/-- the locals: what is held at a place; what is left when a place is written (of one slot, of two) -/
def lk : List (Nat × Value) → Nat → Option Value
  | [], _ => none
  | q :: r, i => if q.1 = i then some q.2 else lk r i
def ft1 (L : List (Nat × Value)) (i : Nat) : List (Nat × Value) := L.filter (fun q => !(q.1 == i) && !(q.1 + 1 == i && q.2.category == 2))
def ft2 (L : List (Nat × Value)) (i : Nat) : List (Nat × Value) := L.filter (fun q => !(q.1 == i) && (!(q.1 == i + 1) && !(q.1 + 1 == i && q.2.category == 2)))
theorem lk_has {g : ab_G} {L : List (Nat × Value)} {ls : Array Slot} {nL i : Nat} {v : Value} (h : lv_has ls nL (cl g L)) (hl : lk L i = some v) : ls[i]? = some (.val (cv g v)) := by
  have key : ∀ L : List (Nat × Value), lk L i = some v → (i, v) ∈ L := by
    intro L
    induction L with
    | nil => intro h; cases h
    | cons q r ih =>
      intro h
      unfold lk at h
      split at h
      · rename_i e
        cases h
        rw [← e]
        exact List.mem_cons_self
      · exact List.mem_cons_of_mem _ (ih h)
  exact h.2.2 (i, cv g v) (List.mem_map.mpr ⟨(i, v), key L hl, rfl⟩)
theorem cl_ft1 (g : ab_G) (L : List (Nat × Value)) (i : Nat) : (cl g L).filter (fun q => !(q.1 == i) && !(q.1 + 1 == i && q.2.category == 2)) = cl g (ft1 L i) := by
  unfold cl ft1
  rw [List.filter_map]
  congr 1
  exact List.filter_congr fun q _ => by simp [cv_cat]
theorem cl_ft2 (g : ab_G) (L : List (Nat × Value)) (i : Nat) : (cl g L).filter (fun q => !(q.1 == i) && (!(q.1 == i + 1) && !(q.1 + 1 == i && q.2.category == 2))) = cl g (ft2 L i) := by
  unfold cl ft2
  rw [List.filter_map]
  congr 1
  exact List.filter_congr fun q _ => by simp [cv_cat]
theorem cl_pick (g : ab_G) (L : List (Nat × Value)) (ks : List Nat) : lv_pick (cl g L) ks = cl g (lv_pick L ks) := by
  unfold lv_pick cl
  rw [List.map_filterMap]
  congr 1
  funext k
  rw [List.getElem?_map]
section RULES
variable {μ : ab_M} {g : ab_G} {uc us pc N : Nat} {L : List (Nat × Value)} {S : List Value} {w : ab_W} {Q : ab_Q}
/-- fewer locals: by their places -/
theorem r_sub {L' : List (Nat × Value)} (ks : List Nat) (hL : lv_pick L ks = L') (k : ab_St μ g uc us pc L' S N w Q) : ab_St μ g uc us pc L S N w Q :=
  fun p e s m args below meth c Z H locs ls E R hP hS hl => k p e s m args below meth c Z H locs ls E R hP hS (by subst hL; rw [← cl_pick]; exact lv_sub hl ks rfl)
theorem r_post {Q' : ab_Q} (h : ∀ r N w, Q' r N w → Q r N w) (k : ab_St μ g uc us pc L S N w Q') : ab_St μ g uc us pc L S N w Q :=
  fun p e s m args below meth c Z H locs ls E R hP hS hl => k p e s m args below meth c Z H locs ls E (fun r N w H locs ls uc us pc hQ => R r N w H locs ls uc us pc (h r N w hQ)) hP hS hl
theorem r_iconst {n : Int} {v : Int32} (d : decode (mC μ) pc = .ok (.iconst n, 1)) (hv : Int32.ofInt n = v) (k : ab_St μ g uc us (pc + 1) L (.int v :: S) N w Q) : ab_St μ g uc us pc L S N w Q :=
  fun p e s m args below meth c Z H locs ls E R hP hS hl => lv_iconst E.1 E.2.1 d hv (k p e s m args below meth c Z H locs ls E R hP hS hl)
theorem r_bipush {n : Int} {v : Int32} (d : decode (mC μ) pc = .ok (.bipush n, 2)) (hv : (Int8.ofInt n).toInt32 = v) (k : ab_St μ g uc us (pc + 2) L (.int v :: S) N w Q) : ab_St μ g uc us pc L S N w Q :=
  fun p e s m args below meth c Z H locs ls E R hP hS hl => lv_bipush E.1 E.2.1 d hv (k p e s m args below meth c Z H locs ls E R hP hS hl)
theorem r_sipush {n : Int} {v : Int32} (d : decode (mC μ) pc = .ok (.sipush n, 3)) (hv : (Int16.ofInt n).toInt32 = v) (k : ab_St μ g uc us (pc + 3) L (.int v :: S) N w Q) : ab_St μ g uc us pc L S N w Q :=
  fun p e s m args below meth c Z H locs ls E R hP hS hl => lv_sipush E.1 E.2.1 d hv (k p e s m args below meth c Z H locs ls E R hP hS hl)
theorem r_lconst {n : Fin 2} {v : Int64} (d : decode (mC μ) pc = .ok (.lconst n, 1)) (hv : Int64.ofNat (n : Nat) = v) (k : ab_St μ g uc us (pc + 1) L (.long v :: S) N w Q) : ab_St μ g uc us pc L S N w Q :=
  fun p e s m args below meth c Z H locs ls E R hP hS hl => lv_lconst E.1 E.2.1 d hv (k p e s m args below meth c Z H locs ls E R hP hS hl)
theorem r_ldc {index : Nat} {v : Int32} (d : decode (mC μ) pc = .ok (.ldc index, 2)) (hc : Cond.constant (mY μ).cls index v ∈ ws0) (k : ab_St μ g uc us (pc + 2) L (.int v :: S) N w Q) : ab_St μ g uc us pc L S N w Q :=
  fun p e s m args below meth c Z H locs ls E R hP hS hl => lv_ldc E.1 E.2.1 E.2.2.2.1 (E.2.2.2.2.1 _ hc) d  (k p e s m args below meth c Z H locs ls E R hP hS hl)
theorem r_ldc_w {index : Nat} {v : Int32} (d : decode (mC μ) pc = .ok (.ldc_w index, 3)) (hc : Cond.constant (mY μ).cls index v ∈ ws0) (k : ab_St μ g uc us (pc + 3) L (.int v :: S) N w Q) : ab_St μ g uc us pc L S N w Q :=
  fun p e s m args below meth c Z H locs ls E R hP hS hl => lv_ldcw E.1 E.2.1 E.2.2.2.1 (E.2.2.2.2.1 _ hc) d  (k p e s m args below meth c Z H locs ls E R hP hS hl)
theorem r_ldc2 {index : Nat} {v : Int64} (d : decode (mC μ) pc = .ok (.ldc2_w index, 3)) (hc : Cond.constantLong (mY μ).cls index v ∈ ws0) (k : ab_St μ g uc us (pc + 3) L (.long v :: S) N w Q) : ab_St μ g uc us pc L S N w Q :=
  fun p e s m args below meth c Z H locs ls E R hP hS hl => lv_ldc2 E.1 E.2.1 E.2.2.2.1 (E.2.2.2.2.1 _ hc) d  (k p e s m args below meth c Z H locs ls E R hP hS hl)
theorem r_iload_n {q : Fin 4} {x : Int32} (d : decode (mC μ) pc = .ok (.iload_n q, 1)) (hl0 : lk L (q : Nat) = some (.int x)) (k : ab_St μ g uc us (pc + 1) L (.int x :: S) N w Q) : ab_St μ g uc us pc L S N w Q :=
  fun p e s m args below meth c Z H locs ls E R hP hS hl => lv_iload_n E.1 E.2.1 d rfl (lk_has hl hl0) (k p e s m args below meth c Z H locs ls E R hP hS hl)
theorem r_iload {i : Nat} {x : Int32} (d : decode (mC μ) pc = .ok (.iload i, 2)) (hl0 : lk L i = some (.int x)) (k : ab_St μ g uc us (pc + 2) L (.int x :: S) N w Q) : ab_St μ g uc us pc L S N w Q :=
  fun p e s m args below meth c Z H locs ls E R hP hS hl => lv_iload E.1 E.2.1 d (lk_has hl hl0) (k p e s m args below meth c Z H locs ls E R hP hS hl)
theorem r_lload_n {q : Fin 4} {x : Int64} (d : decode (mC μ) pc = .ok (.lload_n q, 1)) (hl0 : lk L (q : Nat) = some (.long x)) (k : ab_St μ g uc us (pc + 1) L (.long x :: S) N w Q) : ab_St μ g uc us pc L S N w Q :=
  fun p e s m args below meth c Z H locs ls E R hP hS hl => lv_lload_n E.1 E.2.1 d rfl (lk_has hl hl0) (k p e s m args below meth c Z H locs ls E R hP hS hl)
theorem r_lload {i : Nat} {x : Int64} (d : decode (mC μ) pc = .ok (.lload i, 2)) (hl0 : lk L i = some (.long x)) (k : ab_St μ g uc us (pc + 2) L (.long x :: S) N w Q) : ab_St μ g uc us pc L S N w Q :=
  fun p e s m args below meth c Z H locs ls E R hP hS hl => lv_lload E.1 E.2.1 d (lk_has hl hl0) (k p e s m args below meth c Z H locs ls E R hP hS hl)
theorem r_aload_n {q : Fin 4} {x : Nat} (d : decode (mC μ) pc = .ok (.aload_n q, 1)) (hl0 : lk L (q : Nat) = some (.ref x)) (k : ab_St μ g uc us (pc + 1) L (.ref x :: S) N w Q) : ab_St μ g uc us pc L S N w Q :=
  fun p e s m args below meth c Z H locs ls E R hP hS hl => lv_aload_n E.1 E.2.1 d rfl (lk_has hl hl0) (k p e s m args below meth c Z H locs ls E R hP hS hl)
theorem r_aload {i : Nat} {x : Nat} (d : decode (mC μ) pc = .ok (.aload i, 2)) (hl0 : lk L i = some (.ref x)) (k : ab_St μ g uc us (pc + 2) L (.ref x :: S) N w Q) : ab_St μ g uc us pc L S N w Q :=
  fun p e s m args below meth c Z H locs ls E R hP hS hl => lv_aload E.1 E.2.1 d (lk_has hl hl0) (k p e s m args below meth c Z H locs ls E R hP hS hl)
theorem r_istore_n {q : Fin 4} {i : Nat} {x : Int32} {L0 : List (Nat × Value)} (d : decode (mC μ) pc = .ok (.istore_n q, 1)) (hi : (q : Nat) = i) (hn : i < mN μ) (hL : ft1 L i = L0) (k : ab_St μ g uc us (pc + 1) ((i, .int x) :: L0) S N w Q) : ab_St μ g uc us pc L (.int x :: S) N w Q :=
  fun p e s m args below meth c Z H locs ls E R hP hS hl => lv_istore_n (lv' := cl g ((i, .int x) :: L0)) E.1 E.2.1 d hi hl hn (by rw [cl_ft1, hL]; rfl) (fun ls2 h2 => k p e s m args below meth c Z H locs ls2 E R hP hS h2)
theorem r_istore {i : Nat} {x : Int32} {L0 : List (Nat × Value)} (d : decode (mC μ) pc = .ok (.istore i, 2)) (hn : i < mN μ) (hL : ft1 L i = L0) (k : ab_St μ g uc us (pc + 2) ((i, .int x) :: L0) S N w Q) : ab_St μ g uc us pc L (.int x :: S) N w Q :=
  fun p e s m args below meth c Z H locs ls E R hP hS hl => lv_istore (lv' := cl g ((i, .int x) :: L0)) E.1 E.2.1 d hl hn (by rw [cl_ft1, hL]; rfl) (fun ls2 h2 => k p e s m args below meth c Z H locs ls2 E R hP hS h2)
theorem r_lstore_n {q : Fin 4} {i : Nat} {x : Int64} {L0 : List (Nat × Value)} (d : decode (mC μ) pc = .ok (.lstore_n q, 1)) (hi : (q : Nat) = i) (hn : i + 1 < mN μ) (hL : ft2 L i = L0) (k : ab_St μ g uc us (pc + 1) ((i, .long x) :: L0) S N w Q) : ab_St μ g uc us pc L (.long x :: S) N w Q :=
  fun p e s m args below meth c Z H locs ls E R hP hS hl => lv_lstore_n (lv' := cl g ((i, .long x) :: L0)) E.1 E.2.1 d hi hl hn (by rw [cl_ft2, hL]; rfl) (fun ls2 h2 => k p e s m args below meth c Z H locs ls2 E R hP hS h2)
theorem r_lstore {i : Nat} {x : Int64} {L0 : List (Nat × Value)} (d : decode (mC μ) pc = .ok (.lstore i, 2)) (hn : i + 1 < mN μ) (hL : ft2 L i = L0) (k : ab_St μ g uc us (pc + 2) ((i, .long x) :: L0) S N w Q) : ab_St μ g uc us pc L (.long x :: S) N w Q :=
  fun p e s m args below meth c Z H locs ls E R hP hS hl => lv_lstore (lv' := cl g ((i, .long x) :: L0)) E.1 E.2.1 d hl hn (by rw [cl_ft2, hL]; rfl) (fun ls2 h2 => k p e s m args below meth c Z H locs ls2 E R hP hS h2)
theorem r_astore_n {q : Fin 4} {i : Nat} {x : Nat} {L0 : List (Nat × Value)} (d : decode (mC μ) pc = .ok (.astore_n q, 1)) (hi : (q : Nat) = i) (hn : i < mN μ) (hL : ft1 L i = L0) (k : ab_St μ g uc us (pc + 1) ((i, .ref x) :: L0) S N w Q) : ab_St μ g uc us pc L (.ref x :: S) N w Q :=
  fun p e s m args below meth c Z H locs ls E R hP hS hl => lv_astore_n (lv' := cl g ((i, .ref x) :: L0)) E.1 E.2.1 d hi hl hn (by rw [cl_ft1, hL]; rfl) (fun ls2 h2 => k p e s m args below meth c Z H locs ls2 E R hP hS h2)
theorem r_astore {i : Nat} {x : Nat} {L0 : List (Nat × Value)} (d : decode (mC μ) pc = .ok (.astore i, 2)) (hn : i < mN μ) (hL : ft1 L i = L0) (k : ab_St μ g uc us (pc + 2) ((i, .ref x) :: L0) S N w Q) : ab_St μ g uc us pc L (.ref x :: S) N w Q :=
  fun p e s m args below meth c Z H locs ls E R hP hS hl => lv_astore (lv' := cl g ((i, .ref x) :: L0)) E.1 E.2.1 d hl hn (by rw [cl_ft1, hL]; rfl) (fun ls2 h2 => k p e s m args below meth c Z H locs ls2 E R hP hS h2)
theorem cl_at {g : ab_G} {L : List (Nat × Value)} {i : Nat} {v : Value} (h : lk L i = some v) : ∃ k : Nat, (cl g L)[k]? = some (i, cv g v) := by
  induction L with
  | nil => cases h
  | cons q r ih =>
    unfold lk at h
    split at h
    · rename_i e
      cases h
      exact ⟨0, by show some (q.1, cv g q.2) = _; rw [e]⟩
    · obtain ⟨k, hk⟩ := ih h
      exact ⟨k + 1, hk⟩
theorem r_iinc {i : Nat} {n : Int} {x v : Int32} {L0 : List (Nat × Value)} (d : decode (mC μ) pc = .ok (.iinc i n, 3)) (hl0 : lk L i = some (.int x)) (hv : x + Int32.ofInt n = v) (hn : i < mN μ) (hL : ft1 L i = L0) (k : ab_St μ g uc us (pc + 3) ((i, .int v) :: L0) S N w Q) : ab_St μ g uc us pc L S N w Q := by
  intro p e s m args below meth c Z H locs ls E R hP hS hl
  obtain ⟨q, hq⟩ := cl_at (g := g) hl0
  exact lv_iinc (lv' := cl g ((i, .int v) :: L0)) E.1 E.2.1 d hl hq hv hn (by rw [cl_ft1, hL]; rfl) (fun ls2 h2 => k p e s m args below meth c Z H locs ls2 E R hP hS h2)
theorem r_iadd {x y : Int32} (d : decode (mC μ) pc = .ok (.iadd, 1))  (k : ab_St μ g uc us (pc + 1) L (.int (x + y) :: S) N w Q) : ab_St μ g uc us pc L (.int y :: .int x :: S) N w Q :=
  fun p e s m args below meth c Z H locs ls E R hP hS hl => lv_iadd E.1 E.2.1 d  (k p e s m args below meth c Z H locs ls E R hP hS hl)
theorem r_isub {x y : Int32} (d : decode (mC μ) pc = .ok (.isub, 1))  (k : ab_St μ g uc us (pc + 1) L (.int (x - y) :: S) N w Q) : ab_St μ g uc us pc L (.int y :: .int x :: S) N w Q :=
  fun p e s m args below meth c Z H locs ls E R hP hS hl => lv_isub E.1 E.2.1 d  (k p e s m args below meth c Z H locs ls E R hP hS hl)
theorem r_imul {x y : Int32} (d : decode (mC μ) pc = .ok (.imul, 1))  (k : ab_St μ g uc us (pc + 1) L (.int (x * y) :: S) N w Q) : ab_St μ g uc us pc L (.int y :: .int x :: S) N w Q :=
  fun p e s m args below meth c Z H locs ls E R hP hS hl => lv_imul E.1 E.2.1 d  (k p e s m args below meth c Z H locs ls E R hP hS hl)
theorem r_iand {x y : Int32} (d : decode (mC μ) pc = .ok (.iand, 1))  (k : ab_St μ g uc us (pc + 1) L (.int (x &&& y) :: S) N w Q) : ab_St μ g uc us pc L (.int y :: .int x :: S) N w Q :=
  fun p e s m args below meth c Z H locs ls E R hP hS hl => lv_iand E.1 E.2.1 d  (k p e s m args below meth c Z H locs ls E R hP hS hl)
theorem r_ior {x y : Int32} (d : decode (mC μ) pc = .ok (.ior, 1))  (k : ab_St μ g uc us (pc + 1) L (.int (x ||| y) :: S) N w Q) : ab_St μ g uc us pc L (.int y :: .int x :: S) N w Q :=
  fun p e s m args below meth c Z H locs ls E R hP hS hl => lv_ior E.1 E.2.1 d  (k p e s m args below meth c Z H locs ls E R hP hS hl)
theorem r_ixor {x y : Int32} (d : decode (mC μ) pc = .ok (.ixor, 1))  (k : ab_St μ g uc us (pc + 1) L (.int (x ^^^ y) :: S) N w Q) : ab_St μ g uc us pc L (.int y :: .int x :: S) N w Q :=
  fun p e s m args below meth c Z H locs ls E R hP hS hl => lv_ixor E.1 E.2.1 d  (k p e s m args below meth c Z H locs ls E R hP hS hl)
theorem r_ishl {x y : Int32} (d : decode (mC μ) pc = .ok (.ishl, 1))  (k : ab_St μ g uc us (pc + 1) L (.int (x <<< (y &&& 31)) :: S) N w Q) : ab_St μ g uc us pc L (.int y :: .int x :: S) N w Q :=
  fun p e s m args below meth c Z H locs ls E R hP hS hl => lv_ishl E.1 E.2.1 d  (k p e s m args below meth c Z H locs ls E R hP hS hl)
theorem r_ishr {x y : Int32} (d : decode (mC μ) pc = .ok (.ishr, 1))  (k : ab_St μ g uc us (pc + 1) L (.int (x >>> (y &&& 31)) :: S) N w Q) : ab_St μ g uc us pc L (.int y :: .int x :: S) N w Q :=
  fun p e s m args below meth c Z H locs ls E R hP hS hl => lv_ishr E.1 E.2.1 d  (k p e s m args below meth c Z H locs ls E R hP hS hl)
theorem r_iushr {x y : Int32} (d : decode (mC μ) pc = .ok (.iushr, 1))  (k : ab_St μ g uc us (pc + 1) L (.int (x.toUInt32 >>> (y.toUInt32 &&& Int32.toUInt32 31)).toInt32 :: S) N w Q) : ab_St μ g uc us pc L (.int y :: .int x :: S) N w Q :=
  fun p e s m args below meth c Z H locs ls E R hP hS hl => lv_iushr E.1 E.2.1 d rfl (k p e s m args below meth c Z H locs ls E R hP hS hl)
theorem r_idiv {x y : Int32} (d : decode (mC μ) pc = .ok (.idiv, 1)) (h0 : ¬ y = 0) (k : ab_St μ g uc us (pc + 1) L (.int (x / y) :: S) N w Q) : ab_St μ g uc us pc L (.int y :: .int x :: S) N w Q :=
  fun p e s m args below meth c Z H locs ls E R hP hS hl => lv_idiv E.1 E.2.1 d h0 (k p e s m args below meth c Z H locs ls E R hP hS hl)
theorem r_irem {x y : Int32} (d : decode (mC μ) pc = .ok (.irem, 1)) (h0 : ¬ y = 0) (k : ab_St μ g uc us (pc + 1) L (.int (x - x / y * y) :: S) N w Q) : ab_St μ g uc us pc L (.int y :: .int x :: S) N w Q :=
  fun p e s m args below meth c Z H locs ls E R hP hS hl => lv_irem E.1 E.2.1 d h0 (k p e s m args below meth c Z H locs ls E R hP hS hl)
theorem r_ineg {x : Int32} (d : decode (mC μ) pc = .ok (.ineg, 1))  (k : ab_St μ g uc us (pc + 1) L (.int (-x) :: S) N w Q) : ab_St μ g uc us pc L (.int x :: S) N w Q :=
  fun p e s m args below meth c Z H locs ls E R hP hS hl => lv_ineg E.1 E.2.1 d  (k p e s m args below meth c Z H locs ls E R hP hS hl)
theorem r_ladd {x y : Int64} (d : decode (mC μ) pc = .ok (.ladd, 1))  (k : ab_St μ g uc us (pc + 1) L (.long (x + y) :: S) N w Q) : ab_St μ g uc us pc L (.long y :: .long x :: S) N w Q :=
  fun p e s m args below meth c Z H locs ls E R hP hS hl => lv_ladd E.1 E.2.1 d  (k p e s m args below meth c Z H locs ls E R hP hS hl)
theorem r_lsub {x y : Int64} (d : decode (mC μ) pc = .ok (.lsub, 1))  (k : ab_St μ g uc us (pc + 1) L (.long (x - y) :: S) N w Q) : ab_St μ g uc us pc L (.long y :: .long x :: S) N w Q :=
  fun p e s m args below meth c Z H locs ls E R hP hS hl => lv_lsub E.1 E.2.1 d  (k p e s m args below meth c Z H locs ls E R hP hS hl)
theorem r_lmul {x y : Int64} (d : decode (mC μ) pc = .ok (.lmul, 1))  (k : ab_St μ g uc us (pc + 1) L (.long (x * y) :: S) N w Q) : ab_St μ g uc us pc L (.long y :: .long x :: S) N w Q :=
  fun p e s m args below meth c Z H locs ls E R hP hS hl => lv_lmul E.1 E.2.1 d  (k p e s m args below meth c Z H locs ls E R hP hS hl)
theorem r_land {x y : Int64} (d : decode (mC μ) pc = .ok (.land, 1))  (k : ab_St μ g uc us (pc + 1) L (.long (x &&& y) :: S) N w Q) : ab_St μ g uc us pc L (.long y :: .long x :: S) N w Q :=
  fun p e s m args below meth c Z H locs ls E R hP hS hl => lv_land E.1 E.2.1 d  (k p e s m args below meth c Z H locs ls E R hP hS hl)
theorem r_lor {x y : Int64} (d : decode (mC μ) pc = .ok (.lor, 1))  (k : ab_St μ g uc us (pc + 1) L (.long (x ||| y) :: S) N w Q) : ab_St μ g uc us pc L (.long y :: .long x :: S) N w Q :=
  fun p e s m args below meth c Z H locs ls E R hP hS hl => lv_lor E.1 E.2.1 d  (k p e s m args below meth c Z H locs ls E R hP hS hl)
theorem r_lxor {x y : Int64} (d : decode (mC μ) pc = .ok (.lxor, 1))  (k : ab_St μ g uc us (pc + 1) L (.long (x ^^^ y) :: S) N w Q) : ab_St μ g uc us pc L (.long y :: .long x :: S) N w Q :=
  fun p e s m args below meth c Z H locs ls E R hP hS hl => lv_lxor E.1 E.2.1 d  (k p e s m args below meth c Z H locs ls E R hP hS hl)
theorem r_ldiv {x y : Int64} (d : decode (mC μ) pc = .ok (.ldiv, 1)) (h0 : ¬ y = 0) (k : ab_St μ g uc us (pc + 1) L (.long (x / y) :: S) N w Q) : ab_St μ g uc us pc L (.long y :: .long x :: S) N w Q :=
  fun p e s m args below meth c Z H locs ls E R hP hS hl => lv_ldiv E.1 E.2.1 d h0 (k p e s m args below meth c Z H locs ls E R hP hS hl)
theorem r_lrem {x y : Int64} (d : decode (mC μ) pc = .ok (.lrem, 1)) (h0 : ¬ y = 0) (k : ab_St μ g uc us (pc + 1) L (.long (x - x / y * y) :: S) N w Q) : ab_St μ g uc us pc L (.long y :: .long x :: S) N w Q :=
  fun p e s m args below meth c Z H locs ls E R hP hS hl => lv_lrem E.1 E.2.1 d h0 (k p e s m args below meth c Z H locs ls E R hP hS hl)
theorem r_lneg {x : Int64} (d : decode (mC μ) pc = .ok (.lneg, 1))  (k : ab_St μ g uc us (pc + 1) L (.long (-x) :: S) N w Q) : ab_St μ g uc us pc L (.long x :: S) N w Q :=
  fun p e s m args below meth c Z H locs ls E R hP hS hl => lv_lneg E.1 E.2.1 d  (k p e s m args below meth c Z H locs ls E R hP hS hl)
theorem r_lshl {x : Int64} {y : Int32} (d : decode (mC μ) pc = .ok (.lshl, 1))  (k : ab_St μ g uc us (pc + 1) L (.long (x <<< (y.toInt64 &&& 63)) :: S) N w Q) : ab_St μ g uc us pc L (.int y :: .long x :: S) N w Q :=
  fun p e s m args below meth c Z H locs ls E R hP hS hl => lv_lshl E.1 E.2.1 d rfl (k p e s m args below meth c Z H locs ls E R hP hS hl)
theorem r_lshr {x : Int64} {y : Int32} (d : decode (mC μ) pc = .ok (.lshr, 1))  (k : ab_St μ g uc us (pc + 1) L (.long (x >>> (y.toInt64 &&& 63)) :: S) N w Q) : ab_St μ g uc us pc L (.int y :: .long x :: S) N w Q :=
  fun p e s m args below meth c Z H locs ls E R hP hS hl => lv_lshr E.1 E.2.1 d rfl (k p e s m args below meth c Z H locs ls E R hP hS hl)
theorem r_lushr {x : Int64} {y : Int32} (d : decode (mC μ) pc = .ok (.lushr, 1))  (k : ab_St μ g uc us (pc + 1) L (.long (x.toUInt64 >>> (y.toInt64.toUInt64 &&& Int64.toUInt64 63)).toInt64 :: S) N w Q) : ab_St μ g uc us pc L (.int y :: .long x :: S) N w Q :=
  fun p e s m args below meth c Z H locs ls E R hP hS hl => lv_lushr E.1 E.2.1 d rfl (k p e s m args below meth c Z H locs ls E R hP hS hl)
theorem r_i2l {x : Int32} (d : decode (mC μ) pc = .ok (.i2l, 1))  (k : ab_St μ g uc us (pc + 1) L (.long x.toInt64 :: S) N w Q) : ab_St μ g uc us pc L (.int x :: S) N w Q :=
  fun p e s m args below meth c Z H locs ls E R hP hS hl => lv_i2l E.1 E.2.1 d rfl (k p e s m args below meth c Z H locs ls E R hP hS hl)
theorem r_l2i {x : Int64} (d : decode (mC μ) pc = .ok (.l2i, 1))  (k : ab_St μ g uc us (pc + 1) L (.int x.toInt32 :: S) N w Q) : ab_St μ g uc us pc L (.long x :: S) N w Q :=
  fun p e s m args below meth c Z H locs ls E R hP hS hl => lv_l2i E.1 E.2.1 d rfl (k p e s m args below meth c Z H locs ls E R hP hS hl)
theorem r_i2b {x : Int32} (d : decode (mC μ) pc = .ok (.i2b, 1))  (k : ab_St μ g uc us (pc + 1) L (.int x.toInt8.toInt32 :: S) N w Q) : ab_St μ g uc us pc L (.int x :: S) N w Q :=
  fun p e s m args below meth c Z H locs ls E R hP hS hl => lv_i2b E.1 E.2.1 d rfl (k p e s m args below meth c Z H locs ls E R hP hS hl)
theorem r_lcmp {x y : Int64} (d : decode (mC μ) pc = .ok (.lcmp, 1))  (k : ab_St μ g uc us (pc + 1) L (.int (lg_cmp x y) :: S) N w Q) : ab_St μ g uc us pc L (.long y :: .long x :: S) N w Q :=
  fun p e s m args below meth c Z H locs ls E R hP hS hl => W.lcmp E.1 E.2.1 d  (k p e s m args below meth c Z H locs ls E R hP hS hl)
theorem r_dup {v : Value} (d : decode (mC μ) pc = .ok (.dup, 1)) (hv : v.category = 1) (k : ab_St μ g uc us (pc + 1) L (v :: v :: S) N w Q) : ab_St μ g uc us pc L (v :: S) N w Q :=
  fun p e s m args below meth c Z H locs ls E R hP hS hl => lv_dup E.1 E.2.1 d (by rw [cv_cat]; exact hv) (k p e s m args below meth c Z H locs ls E R hP hS hl)
theorem r_dup2 {v u : Value} (d : decode (mC μ) pc = .ok (.dup2, 1)) (hv : v.category = 1) (hu : u.category = 1) (k : ab_St μ g uc us (pc + 1) L (v :: u :: v :: u :: S) N w Q) : ab_St μ g uc us pc L (v :: u :: S) N w Q :=
  fun p e s m args below meth c Z H locs ls E R hP hS hl => lv_dup2_11 E.1 E.2.1 d (by rw [cv_cat]; exact hv) (by rw [cv_cat]; exact hu) (k p e s m args below meth c Z H locs ls E R hP hS hl)
theorem r_dup2w {v : Value} (d : decode (mC μ) pc = .ok (.dup2, 1)) (hv : v.category = 2) (k : ab_St μ g uc us (pc + 1) L (v :: v :: S) N w Q) : ab_St μ g uc us pc L (v :: S) N w Q :=
  fun p e s m args below meth c Z H locs ls E R hP hS hl => lv_dup2_2 E.1 E.2.1 d (by rw [cv_cat]; exact hv) (k p e s m args below meth c Z H locs ls E R hP hS hl)
theorem r_pop {v : Value} (d : decode (mC μ) pc = .ok (.pop, 1)) (hv : v.category = 1) (k : ab_St μ g uc us (pc + 1) L S N w Q) : ab_St μ g uc us pc L (v :: S) N w Q :=
  fun p e s m args below meth c Z H locs ls E R hP hS hl => lv_pop E.1 E.2.1 d (by rw [cv_cat]; exact hv) (k p e s m args below meth c Z H locs ls E R hP hS hl)
theorem r_if_eq {x : Int32} {off : Int} {tgt : Nat} (d : decode (mC μ) pc = .ok (.ifCond .eq off, 3)) (ht : (pc : Int) + off = (tgt : Int)) (kt : x = 0 → ab_St μ g uc us tgt L S N w Q) (kf : ¬ x = 0 → ab_St μ g uc us (pc + 3) L S N w Q) : ab_St μ g uc us pc L (.int x :: S) N w Q :=
  fun p e s m args below meth c Z H locs ls E R hP hS hl => lv_if_eq E.1 E.2.1 d ht (fun h => kt h p e s m args below meth c Z H locs ls E R hP hS hl) (fun h => kf h p e s m args below meth c Z H locs ls E R hP hS hl)
theorem r_if_ne {x : Int32} {off : Int} {tgt : Nat} (d : decode (mC μ) pc = .ok (.ifCond .ne off, 3)) (ht : (pc : Int) + off = (tgt : Int)) (kt : ¬ x = 0 → ab_St μ g uc us tgt L S N w Q) (kf : x = 0 → ab_St μ g uc us (pc + 3) L S N w Q) : ab_St μ g uc us pc L (.int x :: S) N w Q :=
  fun p e s m args below meth c Z H locs ls E R hP hS hl => lv_if_ne E.1 E.2.1 d ht (fun h => kt h p e s m args below meth c Z H locs ls E R hP hS hl) (fun h => kf h p e s m args below meth c Z H locs ls E R hP hS hl)
theorem r_if_lt {x : Int32} {off : Int} {tgt : Nat} (d : decode (mC μ) pc = .ok (.ifCond .lt off, 3)) (ht : (pc : Int) + off = (tgt : Int)) (kt : x < 0 → ab_St μ g uc us tgt L S N w Q) (kf : ¬ x < 0 → ab_St μ g uc us (pc + 3) L S N w Q) : ab_St μ g uc us pc L (.int x :: S) N w Q :=
  fun p e s m args below meth c Z H locs ls E R hP hS hl => lv_if_lt E.1 E.2.1 d ht (fun h => kt h p e s m args below meth c Z H locs ls E R hP hS hl) (fun h => kf h p e s m args below meth c Z H locs ls E R hP hS hl)
theorem r_if_ge {x : Int32} {off : Int} {tgt : Nat} (d : decode (mC μ) pc = .ok (.ifCond .ge off, 3)) (ht : (pc : Int) + off = (tgt : Int)) (kt : 0 ≤ x → ab_St μ g uc us tgt L S N w Q) (kf : ¬ 0 ≤ x → ab_St μ g uc us (pc + 3) L S N w Q) : ab_St μ g uc us pc L (.int x :: S) N w Q :=
  fun p e s m args below meth c Z H locs ls E R hP hS hl => lv_if_ge E.1 E.2.1 d ht (fun h => kt h p e s m args below meth c Z H locs ls E R hP hS hl) (fun h => kf h p e s m args below meth c Z H locs ls E R hP hS hl)
theorem r_if_gt {x : Int32} {off : Int} {tgt : Nat} (d : decode (mC μ) pc = .ok (.ifCond .gt off, 3)) (ht : (pc : Int) + off = (tgt : Int)) (kt : 0 < x → ab_St μ g uc us tgt L S N w Q) (kf : ¬ 0 < x → ab_St μ g uc us (pc + 3) L S N w Q) : ab_St μ g uc us pc L (.int x :: S) N w Q :=
  fun p e s m args below meth c Z H locs ls E R hP hS hl => lv_if_gt E.1 E.2.1 d ht (fun h => kt h p e s m args below meth c Z H locs ls E R hP hS hl) (fun h => kf h p e s m args below meth c Z H locs ls E R hP hS hl)
theorem r_if_le {x : Int32} {off : Int} {tgt : Nat} (d : decode (mC μ) pc = .ok (.ifCond .le off, 3)) (ht : (pc : Int) + off = (tgt : Int)) (kt : x ≤ 0 → ab_St μ g uc us tgt L S N w Q) (kf : ¬ x ≤ 0 → ab_St μ g uc us (pc + 3) L S N w Q) : ab_St μ g uc us pc L (.int x :: S) N w Q :=
  fun p e s m args below meth c Z H locs ls E R hP hS hl => lv_if_le E.1 E.2.1 d ht (fun h => kt h p e s m args below meth c Z H locs ls E R hP hS hl) (fun h => kf h p e s m args below meth c Z H locs ls E R hP hS hl)
theorem r_icmp_eq {x y : Int32} {off : Int} {tgt : Nat} (d : decode (mC μ) pc = .ok (.if_icmp .eq off, 3)) (ht : (pc : Int) + off = (tgt : Int)) (kt : x = y → ab_St μ g uc us tgt L S N w Q) (kf : ¬ x = y → ab_St μ g uc us (pc + 3) L S N w Q) : ab_St μ g uc us pc L (.int y :: .int x :: S) N w Q :=
  fun p e s m args below meth c Z H locs ls E R hP hS hl => lv_icmp_eq E.1 E.2.1 d ht (fun h => kt h p e s m args below meth c Z H locs ls E R hP hS hl) (fun h => kf h p e s m args below meth c Z H locs ls E R hP hS hl)
theorem r_icmp_ne {x y : Int32} {off : Int} {tgt : Nat} (d : decode (mC μ) pc = .ok (.if_icmp .ne off, 3)) (ht : (pc : Int) + off = (tgt : Int)) (kt : ¬ x = y → ab_St μ g uc us tgt L S N w Q) (kf : x = y → ab_St μ g uc us (pc + 3) L S N w Q) : ab_St μ g uc us pc L (.int y :: .int x :: S) N w Q :=
  fun p e s m args below meth c Z H locs ls E R hP hS hl => lv_icmp_ne E.1 E.2.1 d ht (fun h => kt h p e s m args below meth c Z H locs ls E R hP hS hl) (fun h => kf h p e s m args below meth c Z H locs ls E R hP hS hl)
theorem r_icmp_lt {x y : Int32} {off : Int} {tgt : Nat} (d : decode (mC μ) pc = .ok (.if_icmp .lt off, 3)) (ht : (pc : Int) + off = (tgt : Int)) (kt : x < y → ab_St μ g uc us tgt L S N w Q) (kf : ¬ x < y → ab_St μ g uc us (pc + 3) L S N w Q) : ab_St μ g uc us pc L (.int y :: .int x :: S) N w Q :=
  fun p e s m args below meth c Z H locs ls E R hP hS hl => lv_icmp_lt E.1 E.2.1 d ht (fun h => kt h p e s m args below meth c Z H locs ls E R hP hS hl) (fun h => kf h p e s m args below meth c Z H locs ls E R hP hS hl)
theorem r_icmp_ge {x y : Int32} {off : Int} {tgt : Nat} (d : decode (mC μ) pc = .ok (.if_icmp .ge off, 3)) (ht : (pc : Int) + off = (tgt : Int)) (kt : y ≤ x → ab_St μ g uc us tgt L S N w Q) (kf : ¬ y ≤ x → ab_St μ g uc us (pc + 3) L S N w Q) : ab_St μ g uc us pc L (.int y :: .int x :: S) N w Q :=
  fun p e s m args below meth c Z H locs ls E R hP hS hl => lv_icmp_ge E.1 E.2.1 d ht (fun h => kt h p e s m args below meth c Z H locs ls E R hP hS hl) (fun h => kf h p e s m args below meth c Z H locs ls E R hP hS hl)
theorem r_icmp_gt {x y : Int32} {off : Int} {tgt : Nat} (d : decode (mC μ) pc = .ok (.if_icmp .gt off, 3)) (ht : (pc : Int) + off = (tgt : Int)) (kt : y < x → ab_St μ g uc us tgt L S N w Q) (kf : ¬ y < x → ab_St μ g uc us (pc + 3) L S N w Q) : ab_St μ g uc us pc L (.int y :: .int x :: S) N w Q :=
  fun p e s m args below meth c Z H locs ls E R hP hS hl => lv_icmp_gt E.1 E.2.1 d ht (fun h => kt h p e s m args below meth c Z H locs ls E R hP hS hl) (fun h => kf h p e s m args below meth c Z H locs ls E R hP hS hl)
theorem r_icmp_le {x y : Int32} {off : Int} {tgt : Nat} (d : decode (mC μ) pc = .ok (.if_icmp .le off, 3)) (ht : (pc : Int) + off = (tgt : Int)) (kt : x ≤ y → ab_St μ g uc us tgt L S N w Q) (kf : ¬ x ≤ y → ab_St μ g uc us (pc + 3) L S N w Q) : ab_St μ g uc us pc L (.int y :: .int x :: S) N w Q :=
  fun p e s m args below meth c Z H locs ls E R hP hS hl => lv_icmp_le E.1 E.2.1 d ht (fun h => kt h p e s m args below meth c Z H locs ls E R hP hS hl) (fun h => kf h p e s m args below meth c Z H locs ls E R hP hS hl)
theorem r_goto {off : Int} {tgt : Nat} (d : decode (mC μ) pc = .ok (.goto off, 3)) (ht : (pc : Int) + off = (tgt : Int)) (k : ab_St μ g uc us tgt L S N w Q) : ab_St μ g uc us pc L S N w Q :=
  fun p e s m args below meth c Z H locs ls E R hP hS hl => lv_goto E.1 E.2.1 d ht (k p e s m args below meth c Z H locs ls E R hP hS hl)
theorem r_tabIn {dflt lo hi : Int} {offs : Array Int} {len : Nat} {x : Int32} {off : Int} {tgt : Nat} (d : decode (mC μ) pc = .ok (.tableswitch dflt lo hi offs, len)) (h1 : ¬ x.toInt < lo) (h2 : ¬ hi < x.toInt) (ho : offs[(x.toInt - lo).toNat]? = some off) (ht : (pc : Int) + off = (tgt : Int)) (k : ab_St μ g uc us tgt L S N w Q) : ab_St μ g uc us pc L (.int x :: S) N w Q :=
  fun p e s m args below meth c Z H locs ls E R hP hS hl => lv_tableIn E.1 E.2.1 d h1 h2 ho ht (k p e s m args below meth c Z H locs ls E R hP hS hl)
theorem r_tabOut {dflt lo hi : Int} {offs : Array Int} {len : Nat} {x : Int32} {tgt : Nat} (d : decode (mC μ) pc = .ok (.tableswitch dflt lo hi offs, len)) (h : x.toInt < lo ∨ hi < x.toInt) (ht : (pc : Int) + dflt = (tgt : Int)) (k : ab_St μ g uc us tgt L S N w Q) : ab_St μ g uc us pc L (.int x :: S) N w Q :=
  fun p e s m args below meth c Z H locs ls E R hP hS hl => lv_tableOut E.1 E.2.1 d h ht (k p e s m args below meth c Z H locs ls E R hP hS hl)
theorem r_ret {r : Option Value} (d : ab_r (mC μ) pc r) (hc : uc ≤ (mZ μ).cells) (hs : us ≤ (mZ μ).slots) (hq : Q r N w) : ab_St μ g uc us pc L (rs r []) N w Q := by
  intro p e s m args below meth c Z H locs ls E R hP hS hl
  have h := R r N w H locs ls uc us pc hq hc hs hP hS d
  cases r <;> exact h
theorem in_nI {j n : Nat} (hj : j < n) (hn : n < 2147483648) : vp_in (nI j) n := vp_in_nI hj hn
theorem r_iaload {a n : Nat} {f : Nat → Int32} {i : Int32} (d : decode (mC μ) pc = .ok (.iaload, 1)) (hw : rdI (w a) = some (n, f)) (j : Nat) (hi : i = nI j) (hj : j < n) (hn : n < 2147483648) (k : ab_St μ g uc us (pc + 1) L (.int (f j) :: S) N w Q) : ab_St μ g uc us pc L (.int i :: .ref a :: S) N w Q := by
  intro p e s m args below meth c Z H locs ls E R hP hS hl
  subst hi
  have hin := in_nI hj hn
  have hcl : (nI j).toNatClampNeg = j := nI_clamp (by omega)
  have own : ∀ cc : ab_C, w a = cc → ce g cc = .inl (gI g, n, .inl f) → 7 ≤ a → a < N → W p (gL g) e (mZ μ) s m args below meth c H locs uc us Z (F0 m pc ls ((.int (nI j) :: .ref a :: S).map (cv g))) := by
    intro cc h1 h2 h3 h4
    have he := ab_l_at (g := g) (w := w) h3 h4
    rw [h1, h2] at he
    refine va_iald E.1 E.2.1 E.2.2.2.2.2.1.1 hP.P (a - 7) 0 he rfl hin d ?_
    rw [hcl]
    exact k p e s m args below meth c Z H locs ls E R hP hS hl
  rcases rdI_of hw with h | h
  · obtain ⟨h3, h4⟩ := own_I hP E.2.2.2.2.2.1 h
    exact own _ h rfl h3 h4
  · rcases own_xI hP E.2.2.2.2.2.1 h with ⟨h3, h4⟩ | ⟨h3, cell, h5, h6, h7, h8, h9, h10, h11⟩
    · exact own _ h rfl h3 h4
    · have hH : H[gE g a]? = some cell := (hS.2.1 _ (Array.getElem?_eq_some_iff.mp h5).1 h11).trans h5
      show W p (gL g) e (mZ μ) s m args below meth c H locs uc us Z (F0 m pc ls (.int (nI j) :: .ref (ad g a) :: S.map (cv g)))
      rw [ad_lt h3]
      refine W.iald (v := .int (f j)) E.1 E.2.1 hH h6 h7 (fun q => ?_) (by rw [hcl]; exact h10 j hj) rfl rfl d (k p e s m args below meth c Z H locs ls E R hP hS hl)
      rcases q with q | q
      · exact hin (Or.inl q)
      · rw [hcl] at q
        omega
theorem r_laload {a n : Nat} {f : Nat → Int64} {i : Int32} (d : decode (mC μ) pc = .ok (.laload, 1)) (hw : rdJ (w a) = some (n, f)) (j : Nat) (hi : i = nI j) (hj : j < n) (hn : n < 2147483648) (k : ab_St μ g uc us (pc + 1) L (.long (f j) :: S) N w Q) : ab_St μ g uc us pc L (.int i :: .ref a :: S) N w Q := by
  intro p e s m args below meth c Z H locs ls E R hP hS hl
  subst hi
  have hin := in_nI hj hn
  have hcl : (nI j).toNatClampNeg = j := nI_clamp (by omega)
  have own : ∀ cc : ab_C, w a = cc → ce g cc = .inl (gJ g, n, .inr (.inl f)) → 7 ≤ a → a < N → W p (gL g) e (mZ μ) s m args below meth c H locs uc us Z (F0 m pc ls ((.int (nI j) :: .ref a :: S).map (cv g))) := by
    intro cc h1 h2 h3 h4
    have he := ab_l_at (g := g) (w := w) h3 h4
    rw [h1, h2] at he
    refine va_lald E.1 E.2.1 E.2.2.2.2.2.1.1 hP.P (a - 7) 1 he rfl hin d ?_
    rw [hcl]
    exact k p e s m args below meth c Z H locs ls E R hP hS hl
  rcases rdJ_of hw with h | h
  · obtain ⟨h3, h4⟩ := own_J hP E.2.2.2.2.2.1 h
    exact own _ h rfl h3 h4
  · rcases own_xJ hP E.2.2.2.2.2.1 h with ⟨h3, h4⟩ | ⟨h3, cell, h5, h6, h7, h8, h9, h10, h11⟩
    · exact own _ h rfl h3 h4
    · have hH : H[gE g a]? = some cell := (hS.2.1 _ (Array.getElem?_eq_some_iff.mp h5).1 h11).trans h5
      show W p (gL g) e (mZ μ) s m args below meth c H locs uc us Z (F0 m pc ls (.int (nI j) :: .ref (ad g a) :: S.map (cv g)))
      rw [ad_lt h3]
      refine W.lald (v := .long (f j)) E.1 E.2.1 hH h6 h7 (fun q => ?_) (by rw [hcl]; exact h10 j hj) rfl rfl d (k p e s m args below meth c Z H locs ls E R hP hS hl)
      rcases q with q | q
      · exact hin (Or.inl q)
      · rw [hcl] at q
        omega
theorem r_baload {a n : Nat} {f : Nat → Int32} {i : Int32} (d : decode (mC μ) pc = .ok (.baload, 1)) (hw : w a = aB n f) (j : Nat) (hi : i = nI j) (hj : j < n) (hn : n < 2147483648) (k : ab_St μ g uc us (pc + 1) L (.int (f j) :: S) N w Q) : ab_St μ g uc us pc L (.int i :: .ref a :: S) N w Q := by
  intro p e s m args below meth c Z H locs ls E R hP hS hl
  subst hi
  have hcl : (nI j).toNatClampNeg = j := nI_clamp (by omega)
  obtain ⟨h3, h4⟩ := own_B hP E.2.2.2.2.2.1 hw
  have he := ab_l_at (g := g) (w := w) h3 h4
  rw [hw] at he
  refine va_bald E.1 E.2.1 E.2.2.2.2.2.1.1 hP.P (a - 7) 2 he rfl (in_nI hj hn) d ?_
  rw [hcl]
  exact k p e s m args below meth c Z H locs ls E R hP hS hl
theorem r_alen {a n : Nat} (d : decode (mC μ) pc = .ok (.arraylength, 1)) (hw : rdL (w a) = some n) (k : ab_St μ g uc us (pc + 1) L (.int (nI n) :: S) N w Q) : ab_St μ g uc us pc L (.ref a :: S) N w Q := by
  intro p e s m args below meth c Z H locs ls E R hP hS hl
  have own : ∀ (cc : ab_C) (t0 : Nat) (cA : ClassId) (ty : FieldType) (x : vp_A), w a = cc → ce g cc = .inl (cA, x) → x.1 = n → (gT g)[t0]? = some (cA, ty) → 7 ≤ a → a < N → W p (gL g) e (mZ μ) s m args below meth c H locs uc us Z (F0 m pc ls ((.ref a :: S).map (cv g))) := by
    intro cc t0 cA ty x h1 h2 hn ht h3 h4
    have he := ab_l_at (g := g) (w := w) h3 h4
    rw [h1, h2] at he
    exact va_alen E.1 E.2.1 E.2.2.2.2.2.1.1 hP.P (a - 7) t0 he ht (v := nI n) (by rw [hn]; rfl) d (k p e s m args below meth c Z H locs ls E R hP hS hl)
  have ext : ∀ (ty : FieldType) (f : Nat → Value), a < 7 → va_T ty (gE g a) n f (gA g) s s.heap → W p (gL g) e (mZ μ) s m args below meth c H locs uc us Z (F0 m pc ls ((.ref a :: S).map (cv g))) := by
    intro ty f h3 hT
    obtain ⟨cell, h5, h6, h7, h8, h9, h10, h11⟩ := hT
    have hH : H[gE g a]? = some cell := (hS.2.1 _ (Array.getElem?_eq_some_iff.mp h5).1 h11).trans h5
    show W p (gL g) e (mZ μ) s m args below meth c H locs uc us Z (F0 m pc ls (.ref (ad g a) :: S.map (cv g)))
    rw [ad_lt h3]
    exact W.alen (n := nI n) E.1 E.2.1 hH h6 h9 rfl rfl d (k p e s m args below meth c Z H locs ls E R hP hS hl)
  cases hc : w a with
  | inr o => rw [hc] at hw; cases hw
  | inl q =>
    obtain ⟨ty, n', f | f⟩ := q
    · rw [hc] at hw
      cases ty <;> cases hw
      · obtain ⟨h3, h4⟩ := own_B hP E.2.2.2.2.2.1 hc
        exact own _ 2 (gB g) .byte _ hc rfl rfl rfl h3 h4
      · rcases own_xI hP E.2.2.2.2.2.1 hc with ⟨h3, h4⟩ | ⟨h3, hT⟩
        · exact own _ 0 (gI g) .int _ hc rfl rfl rfl h3 h4
        · exact ext _ _ h3 hT
      · obtain ⟨h3, h4⟩ := own_I hP E.2.2.2.2.2.1 hc
        exact own _ 0 (gI g) .int _ hc rfl rfl rfl h3 h4
    · rw [hc] at hw
      cases ty <;> cases hw
      · obtain ⟨h3, h4⟩ := own_J hP E.2.2.2.2.2.1 hc
        exact own _ 1 (gJ g) .long _ hc rfl rfl rfl h3 h4
      · rcases own_xJ hP E.2.2.2.2.2.1 hc with ⟨h3, h4⟩ | ⟨h3, hT⟩
        · exact own _ 1 (gJ g) .long _ hc rfl rfl rfl h3 h4
        · exact ext _ _ h3 hT
theorem r_iastore {a n : Nat} {f : Nat → Int32} {i : Int32} {x : Int32} (d : decode (mC μ) pc = .ok (.iastore, 1)) (hw : w a = aI n f) (j : Nat) (hi : i = nI j) (hj : j < n) (hn : n < 2147483648) (k : ab_St μ g uc us (pc + 1) L S N (wu w a (aI n (va_up f j (x)))) Q) : ab_St μ g uc us pc L (.int x :: .int i :: .ref a :: S) N w Q := by
  intro p e s m args below meth c Z H locs ls E R hP hS hl
  subst hi
  have hcl : (nI j).toNatClampNeg = j := nI_clamp (by omega)
  have hin := in_nI hj hn
  obtain ⟨h3, h4⟩ := own_I hP E.2.2.2.2.2.1 hw
  have hc := hP.2.2.1 a h3 h4
  rw [hw] at hc
  have hz : 7 ≤ a := h3
  refine W.iast E.1 E.2.1 hc ((E.2.2.2.2.2.1.1.2 0 _ rfl).1 n (fun j => .int (f j))) (fun q => by cases q) (by show ¬ (_ ∨ (arrV _ _ _).slots.size ≤ _); rw [arrV_size]; exact hin) rfl rfl d fun H1 e1 z oq => ?_
  refine k p e s m args below meth c Z H1 _ ls E R (hP.set h3 h4 ?_ z oq) (hS.put z oq (by show gZ g ≤ ad g a; rw [ad_ge h3]; omega)) hl
  show H1[ad g a]? = some (vp_cell _ _)
  rw [e1, vp_cell_i, vp_cell_i, arrV_store, hcl]
  congr 2
  funext q
  by_cases hq : q = j
  · subst hq
    simp [updV, va_up, narrow]
  · simp [updV, va_up, hq]
theorem r_lastore {a n : Nat} {f : Nat → Int64} {i : Int32} {x : Int64} (d : decode (mC μ) pc = .ok (.lastore, 1)) (hw : w a = aJ n f) (j : Nat) (hi : i = nI j) (hj : j < n) (hn : n < 2147483648) (k : ab_St μ g uc us (pc + 1) L S N (wu w a (aJ n (va_up f j (x)))) Q) : ab_St μ g uc us pc L (.long x :: .int i :: .ref a :: S) N w Q := by
  intro p e s m args below meth c Z H locs ls E R hP hS hl
  subst hi
  have hcl : (nI j).toNatClampNeg = j := nI_clamp (by omega)
  have hin := in_nI hj hn
  obtain ⟨h3, h4⟩ := own_J hP E.2.2.2.2.2.1 hw
  have hc := hP.2.2.1 a h3 h4
  rw [hw] at hc
  have hz : 7 ≤ a := h3
  refine W.last E.1 E.2.1 hc ((E.2.2.2.2.2.1.1.2 1 _ rfl).1 n (fun j => .long (f j))) (fun q => by cases q) (by show ¬ (_ ∨ (arrV _ _ _).slots.size ≤ _); rw [arrV_size]; exact hin) rfl rfl d fun H1 e1 z oq => ?_
  refine k p e s m args below meth c Z H1 _ ls E R (hP.set h3 h4 ?_ z oq) (hS.put z oq (by show gZ g ≤ ad g a; rw [ad_ge h3]; omega)) hl
  show H1[ad g a]? = some (vp_cell _ _)
  rw [e1, vp_cell_l, vp_cell_l, arrV_store, hcl]
  congr 2
  funext q
  by_cases hq : q = j
  · subst hq
    simp [updV, va_up, narrow]
  · simp [updV, va_up, hq]
theorem r_bastore {a n : Nat} {f : Nat → Int32} {i : Int32} {x : Int32} (d : decode (mC μ) pc = .ok (.bastore, 1)) (hw : w a = aB n f) (j : Nat) (hi : i = nI j) (hj : j < n) (hn : n < 2147483648) (k : ab_St μ g uc us (pc + 1) L S N (wu w a (aB n (va_up f j (x.toInt8.toInt32)))) Q) : ab_St μ g uc us pc L (.int x :: .int i :: .ref a :: S) N w Q := by
  intro p e s m args below meth c Z H locs ls E R hP hS hl
  subst hi
  have hcl : (nI j).toNatClampNeg = j := nI_clamp (by omega)
  have hin := in_nI hj hn
  obtain ⟨h3, h4⟩ := own_B hP E.2.2.2.2.2.1 hw
  have hc := hP.2.2.1 a h3 h4
  rw [hw] at hc
  have hz : 7 ≤ a := h3
  refine W.bast E.1 E.2.1 hc ((E.2.2.2.2.2.1.1.2 2 _ rfl).1 n (fun j => .int (f j))) (fun q => by cases q) (by show ¬ (_ ∨ (arrV _ _ _).slots.size ≤ _); rw [arrV_size]; exact hin) rfl rfl d fun H1 e1 z oq => ?_
  refine k p e s m args below meth c Z H1 _ ls E R (hP.set h3 h4 ?_ z oq) (hS.put z oq (by show gZ g ≤ ad g a; rw [ad_ge h3]; omega)) hl
  show H1[ad g a]? = some (vp_cell _ _)
  rw [e1, vp_cell_i, vp_cell_i, arrV_store, hcl]
  congr 2
  funext q
  by_cases hq : q = j
  · subst hq
    simp [updV, va_up, narrow]
  · simp [updV, va_up, hq]
end RULES
end
section
/-! THE RULES of fields, new objects and arrays, calls -/
/-- a field's access: the class by its place, the field by its slot -/
def ab_F (own : String) (idx ci k : Nat) (C : String) (T : u_T) (n : Nat) (ty : Nat → FieldType) : Prop :=
  vwCl[ci]? = some (C, T, n) ∧ k < n ∧ (∀ c ∈ u_ws C T n, c ∈ ws0) ∧ (∀ j, j < n → parseFieldDescriptor (T j).2.2.1 = some (ty j)) ∧ (∀ a, a < n → ∀ b, b < n → a ≠ b → (T a).2.1 ≠ (T b).2.1) ∧ Cond.fieldLink own idx (T k).1 (T k).2.1 (T k).2.2.1 ∈ ws0
def ab_L (own : String) (idx : Nat) (μ' : ab_M) (n : Nat) : Prop :=
  Cond.methodLink own idx (mY μ') ∈ ws0 ∧ Cond.code (mY μ') (mC μ') (mN μ') (mR μ') ∈ ws0 ∧ Cond.initialized (mY μ').cls ∈ ws0 ∧ ((mY μ').cls ≠ "java/lang/invoke/MethodHandle" ∧ (mY μ').cls ≠ "java/lang/invoke/VarHandle") ∧ (parseMethodDescriptor (mY μ').desc).map (fun d => d.parameters.length) = some n
def ab_V (own : String) (idx : Nat) (μ' : ab_M) (n : Nat) : Prop := ab_L own idx μ' n ∧ Cond.instanceMethod (mY μ') ∈ ws0 ∧ Cond.selects (mY μ').cls (mY μ') (mY μ') ∈ ws0
def ab_T (own : String) (idx : Nat) (μ' : ab_M) (n : Nat) : Prop := ab_L own idx μ' n ∧ Cond.static (mY μ') ∈ ws0
def ab_I (own : String) (idx : Nat) (μ' : ab_M) (n : Nat) : Prop := ab_L own idx μ' n ∧ (mY μ').name = "<init>" ∧ Cond.instanceMethod (mY μ') ∈ ws0
def ab_nest : Nat → Cond
  | 0 => ab_n0
  | 1 => ab_n1
  | _ => ab_n2
def ab_N (own : String) (idx q : Nat) (μ' : ab_M) (n : Nat) : Prop :=
  Cond.methodLinkNest own idx (mY μ') "SignHouse" = ab_nest q ∧ Cond.code (mY μ') (mC μ') (mN μ') (mR μ') ∈ ws0 ∧ Cond.initialized (mY μ').cls ∈ ws0 ∧ ((mY μ').cls ≠ "java/lang/invoke/MethodHandle" ∧ (mY μ').cls ≠ "java/lang/invoke/VarHandle") ∧ (parseMethodDescriptor (mY μ').desc).map (fun d => d.parameters.length) = some n ∧ (mY μ').name = "<init>" ∧ Cond.instanceMethod (mY μ') ∈ ws0
def ab_Rm (μ μ' : ab_M) : Prop := (mZ μ').frames + 1 ≤ (mZ μ).frames ∧ 8 + (mN μ' + 11) + (mZ μ').locals ≤ (mZ μ).locals
theorem mW_good {μ' : ab_M} (h : Cond.code (mY μ') (mC μ') (mN μ') (mR μ') ∈ ws0) : GoodIn ws0 (mW μ') := by
  intro c hc
  have hm : c ∈ ws0 := by
    rcases List.mem_cons.mp hc with rfl | hc
    · exact h
    · exact hc
  exact ⟨hm, good_of_word (ws0_good c hm)⟩
theorem ab_B {s : State} {args : Array Value} {own : String} {idx n : Nat} {μ μ' : ab_M} (hts : ∀ c ∈ ws0, c.before args s = true) (h : ab_L own idx μ' n) (hR : ab_Rm μ μ') : CallB (mZ μ) s args own idx (mY μ') (mC μ') (mN μ') (mR μ') (mW μ') (mZ μ') (mZ μ').cells (mZ μ').slots n := by
  obtain ⟨h1, h2, h3, h4, h5⟩ := h
  refine ⟨rfl, rfl, hR.1, hR.2, pay_in hts (mW_good h2), List.mem_cons_self, hts _ h2, hts _ h3, h4, fun sig hs => ?_, hts _ h1⟩
  rw [hs] at h5
  exact (Option.some.inj h5).symm
theorem ab_blind (g : ab_G) (as : List Value) (N : Nat) (w : ab_W) : FrameBlind (ab_pre g as N w) := by
  intro a U fr mk h
  obtain ⟨h1, h2, h3⟩ := h
  exact ⟨h1, h2, ab_K.moved (U := U.calling fr mk a) (locs := []) (State.WarmedH.refl U) va_S.rf h3⟩
section RULES2
variable {μ : ab_M} {g : ab_G} {uc us pc N : Nat} {L : List (Nat × Value)} {S : List Value} {w : ab_W} {Q : ab_Q}
theorem r_getf {idx ci k n : Nat} {C : String} {T : u_T} {ty : Nat → FieldType} {a : Nat} {fs : List Value} {v : Value} (d : decode (mC μ) pc = .ok (.getfield idx, 3)) (hF : ab_F (mY μ).cls idx ci k C T n ty) (hw : w a = aO ci fs) (hv : fs[k]? = some v) (kk : ab_St μ g uc us (pc + 3) L (v :: S) N w Q) : ab_St μ g uc us pc L (.ref a :: S) N w Q := by
  intro p e s m args below meth c Z H locs ls E R hP hS hl
  obtain ⟨f1, f2, f3, f4, f5, f6⟩ := hF
  obtain ⟨h3, h4⟩ := own_O hP E.2.2.2.2.2.1 hw f1
  have he := ab_l_at (g := g) (w := w) h3 h4
  rw [hw] at he
  exact va_get E.1 E.2.1 E.2.2.2.2.1 f3 E.2.2.2.1 E.2.2.2.2.2.1.1 hP.P (a - 7) (fs := fs.map (cv g)) he f1 k f2 (E.2.2.2.2.1 _ f6) (fun _ h => h) (v := cv g v) (by rw [List.getElem?_map, hv]; rfl) d (kk p e s m args below meth c Z H locs ls E R hP hS hl)
theorem r_putf {idx ci k n : Nat} {C : String} {T : u_T} {ty : Nat → FieldType} {a : Nat} {fs : List Value} {v : Value} (d : decode (mC μ) pc = .ok (.putfield idx, 3)) (hF : ab_F (mY μ).cls idx ci k C T n ty) (hw : w a = aO ci fs) (hfin : (T k).2.2.2 = false) (hlen : k < fs.length) (hn : narrow (ty k) (cv g v) = cv g v) (hfit : fits (ty k) (cv g v) = true) (kk : ab_St μ g uc us (pc + 3) L S N (wu w a (aO ci (fs.set k v))) Q) : ab_St μ g uc us pc L (v :: .ref a :: S) N w Q := by
  intro p e s m args below meth c Z H locs ls E R hP hS hl
  obtain ⟨f1, f2, f3, f4, f5, f6⟩ := hF
  obtain ⟨h3, h4⟩ := own_O hP E.2.2.2.2.2.1 hw f1
  have hts := E.2.2.2.2.1
  have hK := E.2.2.2.2.2.1.1
  have hap := va_apart (own := (mY μ).cls) hts f3 ty f4 f5 hK f1
  have hat := hP.2.2.1 a h3 h4
  rw [hw] at hat
  obtain ⟨r, h1, cell, q1, q2, q3, q4⟩ := hat
  have hr : r = (C, T, n) := Option.some.inj (h1.symm.trans f1)
  subst hr
  obtain ⟨hSl, hfc, kC, hkC, hkind⟩ := hK.1 ci _ f1
  obtain ⟨cf, kf, fi, f, hi, hsl⟩ := hSl k f2
  have hlay := hts _ (f3 _ (u_in_lay f2))
  unfold u_lay at hlay
  rw [if_neg (by rw [hfin]; decide)] at hlay
  have hst := (u_facts hfc hkC (u_lays hts f3 f2) hi).1
  have h6 := u_store hfc hkC hkind hlay hi (f4 k f2) hn hfit
  refine W.putK E.1 E.2.1 (f := f) ⟨E.2.2.2.1, hts _ f6, ⟨_, _, _, hi⟩, hst⟩ (by rw [q2]; exact h6) q1 q3 (by rw [hsl]; exact k2_hasslot (q4 k f2)) rfl rfl d fun H' e1 e2 e3 => ?_
  rw [hsl] at e1 ⊢
  have hmap : (fs.set k v).map (cv g) = (fs.map (cv g)).set k (cv g v) := List.map_set
  refine kk p e s m args below meth c Z H' _ ls E R (hP.set h3 h4 ?_ e2 e3) (hS.put e2 e3 (by show gZ g ≤ ad g a; rw [ad_ge h3]; omega)) hl
  show va_at (gD g) vwCl (ad g a, .inr (ci, (fs.set k v).map (cv g))) H'
  rw [hmap]
  exact ⟨_, f1, t_OB.to (V := updV (vp_V (fs.map (cv g))) k (cv g v)) ⟨_, e1, q2, q3, t_set q4 hap f2 (cv g v)⟩ (fun j _ => vp_updV_set (by rw [List.length_map]; exact hlen) (cv g v) j)⟩
theorem r_putF {idx ci k n : Nat} {C : String} {T : u_T} {ty : Nat → FieldType} {a : Nat} {fs : List Value} {v : Value} (d : decode (mC μ) pc = .ok (.putfield idx, 3)) (hF : ab_F (mY μ).cls idx ci k C T n ty) (hw : w a = aO ci fs) (hfin : (T k).2.2.2 = true) (hin : (mY μ).name = "<init>") (hdecl : (T k).1 = (mY μ).cls) (hlen : k < fs.length) (hn : narrow (ty k) (cv g v) = cv g v) (hfit : fits (ty k) (cv g v) = true) (kk : ab_St μ g uc us (pc + 3) L S N (wu w a (aO ci (fs.set k v))) Q) : ab_St μ g uc us pc L (v :: .ref a :: S) N w Q := by
  intro p e s m args below meth c Z H locs ls E R hP hS hl
  obtain ⟨f1, f2, f3, f4, f5, f6⟩ := hF
  obtain ⟨h3, h4⟩ := own_O hP E.2.2.2.2.2.1 hw f1
  have hts := E.2.2.2.2.1
  have hK := E.2.2.2.2.2.1.1
  have hap := va_apart (own := (mY μ).cls) hts f3 ty f4 f5 hK f1
  have hat := hP.2.2.1 a h3 h4
  rw [hw] at hat
  obtain ⟨r, h1, cell, q1, q2, q3, q4⟩ := hat
  have hr : r = (C, T, n) := Option.some.inj (h1.symm.trans f1)
  subst hr
  obtain ⟨hSl, hfc, kC, hkC, hkind⟩ := hK.1 ci _ f1
  obtain ⟨cf, kf, fi, f, hi, hsl⟩ := hSl k f2
  have hlay := hts _ (f3 _ (u_in_lay f2))
  unfold u_lay at hlay
  rw [if_pos hfin] at hlay
  have hst := (u_facts hfc hkC (u_lays hts f3 f2) hi).1
  have hcf : m.cls = cf := by
    obtain ⟨_, _, c', _, _, _, -, -, hf', -, -, -, hown2, -⟩ := Cond.laysFinal_spec hlay
    have e1 : c' = cf := by have := hi.symm.trans hf'; simp at this; exact this.1.symm
    rw [hdecl] at hown2
    rw [← e1]; exact Option.some.inj (E.2.2.2.1.symm.trans hown2)
  have h6 := u_fits hfc hkC hkind (Or.inr hlay) hi (f4 k f2) hn hfit
  refine W.putFinK E.1 E.2.1 E.2.2.2.1 (hts _ f6) hi hst hcf (E.2.2.2.2.2.2 hin) (by rw [q2]; exact h6) q1 q3 (by rw [hsl]; exact k2_hasslot (q4 k f2)) rfl rfl d fun H' e1 e2 e3 => ?_
  rw [hsl] at e1 ⊢
  have hmap : (fs.set k v).map (cv g) = (fs.map (cv g)).set k (cv g v) := List.map_set
  refine kk p e s m args below meth c Z H' _ ls E R (hP.set h3 h4 ?_ e2 e3) (hS.put e2 e3 (by show gZ g ≤ ad g a; rw [ad_ge h3]; omega)) hl
  show va_at (gD g) vwCl (ad g a, .inr (ci, (fs.set k v).map (cv g))) H'
  rw [hmap]
  exact ⟨_, f1, t_OB.to (V := updV (vp_V (fs.map (cv g))) k (cv g v)) ⟨_, e1, q2, q3, t_set q4 hap f2 (cv g v)⟩ (fun j _ => vp_updV_set (by rw [List.length_map]; exact hlen) (cv g v) j)⟩
theorem r_gets {idx k : Nat} (d : decode (mC μ) pc = .ok (.getstatic idx, 3)) (hk : k < 6) (hlink : Cond.fieldLink (mY μ).cls idx (ab_S k).1 (ab_S k).2.1 (ab_S k).2.2 ∈ ws0) (kk : ab_St μ g uc us (pc + 3) L (.ref k :: S) N w Q) : ab_St μ g uc us pc L S N w Q := by
  intro p e s m args below meth c Z H locs ls E R hP hS hl
  have h := kk p e s m args below meth c Z H locs ls E R hP hS hl
  refine va_gets E.1 E.2.1 (E.2.2.2.2.2.1.2.2.1 k hk) hS E.2.2.2.1 (E.2.2.2.2.1 _ hlink) (fun _ h => h) d ?_
  rw [← ad_lt (g := g) (k := k) (by omega)]
  exact h
theorem r_new {idx ci n : Nat} {C : String} {T : u_T} {ty : Nat → FieldType} {fs : List Value} (d : decode (mC μ) pc = .ok (.new idx, 3)) (hc : vwCl[ci]? = some (C, T, n)) (hin : ∀ c ∈ u_ws C T n, c ∈ ws0) (hty : ∀ j, j < n → parseFieldDescriptor (T j).2.2.1 = some (ty j)) (h1 : Cond.classLink (mY μ).cls idx C ∈ ws0) (h2 : Cond.instantiable C n ∈ ws0) (h3 : Cond.initialized C ∈ ws0) (hfs : ∀ j, j < n → defaultValue (ty j) = vp_V fs j) (hcv : fs.map (cv g) = fs) (hcells : uc + 1 ≤ (mZ μ).cells) (hslots : us + n ≤ (mZ μ).slots) (kk : ab_St μ g (uc + 1) (us + n) (pc + 3) L (.ref N :: S) (N + 1) (wu w N (aO ci fs)) Q) : ab_St μ g uc us pc L S N w Q := by
  intro p e s m args below meth c Z H locs ls E R hP hS hl
  have hts := E.2.2.2.2.1
  have hKn := E.2.2.2.2.2.1.1.1 ci _ hc
  refine W.newcK E.1 E.2.1 E.2.2.2.1 (hts _ h1) (hts _ h2) (hts _ h3) rfl d hcells hslots hKn.2.1 rfl fun H1 kC hkC e1 z1 o1 => ?_
  rw [← hP.top] at e1 ⊢
  refine kk p e s m args below meth c Z H1 locs ls E R (hP.push ?_ z1 o1) ⟨Nat.le_trans hS.1 (by omega), fun x a1 a2 => (o1 x (Nat.lt_of_lt_of_le a1 hS.1)).trans (hS.2.1 x a1 a2), hS.2.2⟩ hl
  show va_at (gD g) vwCl (ad g N, .inr (ci, fs.map (cv g))) H1
  rw [hcv]
  exact ⟨_, hc, (u_born ty hts hin hKn hkC e1 hty).to hfs⟩
theorem ab_arrId {g : ab_G} {s : State} (hK : ab_K g s) {t0 : Nat} {cA cB : ClassId} {ty : FieldType} (h : (gT g)[t0]? = some (cA, ty)) (hty : ∀ C, ty ≠ .object C) (h2 : s.vm.findClass ("[" ++ ty.toString) = some cB) : cB = cA := by
  have h3 := (hK.1.2 t0 _ h).2
  have h4 : s.vm.findClass ("[" ++ ty.toString) = some cA := by
    cases ty <;> first | exact h3 | exact absurd rfl (hty _)
  exact Option.some.inj (h2.symm.trans h4)
theorem r_newaJ {n : Nat} {x : Int32} (d : decode (mC μ) pc = .ok (.newarray .long, 2)) (hi : x = nI n) (hn : n ≤ 65536) (ha : Cond.arrayClass .long ∈ ws0) (hcells : uc + 1 ≤ (mZ μ).cells) (hslots : us + n ≤ (mZ μ).slots) (kk : ab_St μ g (uc + 1) (us + n) (pc + 2) L (.ref N :: S) (N + 1) (wu w N (aJ n (fun _ => 0))) Q) : ab_St μ g uc us pc L (.int x :: S) N w Q := by
  intro p e s m args below meth c Z H locs ls E R hP hS hl
  subst hi
  refine va_newaK (atype := .long) (N := n) (n := nI n) E.1 E.2.1 (E.2.2.2.2.1 _ ha) rfl d rfl (nI_pos (by omega)) (nI_clamp (by omega)) (by show n * 8 ≤ _; omega) hcells hslots rfl fun H1 cA e1 z1 o1 hAr hNm => ?_
  have hid : cA = gJ g := ab_arrId E.2.2.2.2.2.1 (t0 := 1) (ty := .long) rfl (fun _ h => by cases h) hNm
  subst hid
  rw [← hP.top] at e1 ⊢
  exact kk p e s m args below meth c Z H1 locs ls E R (hP.push (c := aJ n (fun _ => 0)) e1 z1 o1) ⟨Nat.le_trans hS.1 (by omega), fun x a1 a2 => (o1 x (Nat.lt_of_lt_of_le a1 hS.1)).trans (hS.2.1 x a1 a2), hS.2.2⟩ hl
theorem r_newaI {n : Nat} {x : Int32} (d : decode (mC μ) pc = .ok (.newarray .int, 2)) (hi : x = nI n) (hn : n ≤ 65536) (ha : Cond.arrayClass .int ∈ ws0) (hcells : uc + 1 ≤ (mZ μ).cells) (hslots : us + n ≤ (mZ μ).slots) (kk : ab_St μ g (uc + 1) (us + n) (pc + 2) L (.ref N :: S) (N + 1) (wu w N (aI n (fun _ => 0))) Q) : ab_St μ g uc us pc L (.int x :: S) N w Q := by
  intro p e s m args below meth c Z H locs ls E R hP hS hl
  subst hi
  refine va_newaK (atype := .int) (N := n) (n := nI n) E.1 E.2.1 (E.2.2.2.2.1 _ ha) rfl d rfl (nI_pos (by omega)) (nI_clamp (by omega)) (by show n * 4 ≤ _; omega) hcells hslots rfl fun H1 cA e1 z1 o1 hAr hNm => ?_
  have hid : cA = gI g := ab_arrId E.2.2.2.2.2.1 (t0 := 0) (ty := .int) rfl (fun _ h => by cases h) hNm
  subst hid
  rw [← hP.top] at e1 ⊢
  exact kk p e s m args below meth c Z H1 locs ls E R (hP.push (c := aI n (fun _ => 0)) e1 z1 o1) ⟨Nat.le_trans hS.1 (by omega), fun x a1 a2 => (o1 x (Nat.lt_of_lt_of_le a1 hS.1)).trans (hS.2.1 x a1 a2), hS.2.2⟩ hl
theorem r_newaB {n : Nat} {x : Int32} (d : decode (mC μ) pc = .ok (.newarray .byte, 2)) (hi : x = nI n) (hn : n ≤ 65536) (ha : Cond.arrayClass .byte ∈ ws0) (hcells : uc + 1 ≤ (mZ μ).cells) (hslots : us + n ≤ (mZ μ).slots) (kk : ab_St μ g (uc + 1) (us + n) (pc + 2) L (.ref N :: S) (N + 1) (wu w N (aB n (fun _ => 0))) Q) : ab_St μ g uc us pc L (.int x :: S) N w Q := by
  intro p e s m args below meth c Z H locs ls E R hP hS hl
  subst hi
  refine va_newaK (atype := .byte) (N := n) (n := nI n) E.1 E.2.1 (E.2.2.2.2.1 _ ha) rfl d rfl (nI_pos (by omega)) (nI_clamp (by omega)) (by show n * 1 ≤ _; omega) hcells hslots rfl fun H1 cA e1 z1 o1 hAr hNm => ?_
  have hid : cA = gB g := ab_arrId E.2.2.2.2.2.1 (t0 := 2) (ty := .byte) rfl (fun _ h => by cases h) hNm
  subst hid
  rw [← hP.top] at e1 ⊢
  exact kk p e s m args below meth c Z H1 locs ls E R (hP.push (c := aB n (fun _ => 0)) e1 z1 o1) ⟨Nat.le_trans hS.1 (by omega), fun x a1 a2 => (o1 x (Nat.lt_of_lt_of_le a1 hS.1)).trans (hS.2.1 x a1 a2), hS.2.2⟩ hl
theorem r_obj {idx a : Nat} (d : decode (mC μ) pc = .ok (.invokespecial idx, 3)) (h1 : Cond.methodLink (mY μ).cls idx Lib.objectInit ∈ ws0) (h2 : Cond.instanceMethod Lib.objectInit ∈ ws0) (h3 : Cond.code Lib.objectInit ⟨#[0xb1]⟩ 1 none ∈ ws0) (hfr : 1 ≤ (mZ μ).frames) (hlo : (S.map fun v => v.category).sum + 12 ≤ (mZ μ).locals) (kk : ab_St μ g uc us (pc + 3) L S N w Q) : ab_St μ g uc us pc L (.ref a :: S) N w Q := by
  intro p e s m args below meth c Z H locs ls E R hP hS hl
  have hts := E.2.2.2.2.1
  refine W.objInit E.1 E.2.1 E.2.2.2.1 (hts _ h1) (hts _ h2) (hts _ h3) rfl (by rw [E.2.2.1]; exact hl.1) rfl d hfr ?_ (kk p e s m args below meth c Z H locs ls E R hP hS hl)
  show 2 * 0 + ((S.map (cv g)).map fun v => v.category).sum + 12 ≤ _
  rw [cv_cats]
  omega
theorem ab_call {p : Program} {l : Launch} {e : Env} {R : Room} {s : State} {m : MethodId} {args : Array Value} {below : List Frame} {meth : Method} {c : Code} {H : Heap} {locs : List Loc} {cells slots mc ms pc : Nat} {Z : State → Prop} {ls : Array Slot} {st0 rest : List Value} {a : Array Value} {g : ab_G} {Q' : ab_Q} (hr : va_Run p l e R s m args below meth c H locs cells slots mc ms (F0 m pc ls st0) rest (ab_post g Q' a) (gA g)) (hS : va_S (gA g) s.heap H locs)
    (kk : ∀ (r : Option Value) (N' : Nat) (w' : ab_W) (H1 : Heap) (locs1 : List Loc), Q' r N' w' → ab_P g N' w' H1 → va_S (gA g) s.heap H1 locs1 → W p l e R s m args below meth c H1 locs1 (cells + mc) (slots + ms) Z (F0 m (pc + 3) ls ((r.map (cv g)).toList ++ rest))) : W p l e R s m args below meth c H locs cells slots Z (F0 m pc ls st0) := by
  intro T hT X
  obtain ⟨v, st₀, t, T', L, h0, X', hL, e1, e2, ⟨⟨r, N', w', hv, hq, hp⟩, hz, hk⟩, st⟩ := hr T hT X
  cases hv
  rw [h0] at hz hk
  obtain ⟨t2, a1, b1⟩ := kk r N' w' T'.heap (locs ++ L) hq (by rw [e1]; exact hp)
    ⟨Nat.le_trans hS.1 (by rw [e1]; exact hz), fun q h1 h2 => by rw [e1, hk q (Nat.lt_of_lt_of_le h1 hS.1) h2]; exact hS.2.1 q h1 h2, fun q hq => by
      rcases List.mem_append.mp hq with h | h
      · exact hS.2.2 q h
      · exact hL q h⟩ T' rfl X'
  exact ⟨t2, st t2 a1, b1⟩
theorem rs_eq (g : ab_G) (r : Option Value) (S : List Value) : (r.map (cv g)).toList ++ S.map (cv g) = (rs r S).map (cv g) := by cases r <;> rfl
theorem cv_rev (g : ab_G) {st as S : List Value} {b : Nat} (h : st = as.reverse ++ .ref b :: S) : st.map (cv g) = (as.map (cv g)).reverse ++ .ref (ad g b) :: S.map (cv g) := by
  rw [h, List.map_append, List.map_reverse]
  rfl
theorem cv_revS (g : ab_G) {st as S : List Value} (h : st = as.reverse ++ S) : st.map (cv g) = (as.map (cv g)).reverse ++ S.map (cv g) := by
  rw [h, List.map_append, List.map_reverse]
theorem r_invV {μ' : ab_M} {idx n ci b uc' us' : Nat} {as st fs : List Value} {q : vw_C} {Q' : ab_Q} (d : decode (mC μ) pc = .ok (.invokevirtual idx, 3)) (hV : ab_V (mY μ).cls idx μ' n) (hM : ab_Ct μ' g (.ref b :: as) N w Q') (hst : st = as.reverse ++ .ref b :: S) (hn : as.length = n) (hw : w b = aO ci fs) (hc : vwCl[ci]? = some q) (hq : q.1 = (mY μ').cls) (hR : ab_Rm μ μ') (hcat : (S.map fun v => v.category).sum ≤ 8) (hf : uc + (mZ μ').cells ≤ (mZ μ).cells ∧ us + (mZ μ').slots ≤ (mZ μ).slots) (hu : uc + (mZ μ').cells = uc' ∧ us + (mZ μ').slots = us')
    (kk : ∀ r N' w', Q' r N' w' → ab_St μ g uc' us' (pc + 3) L (rs r S) N' w' Q) : ab_St μ g uc us pc L st N w Q := by
  intro p e s m args below meth c Z H locs ls E R hP hS hl
  obtain ⟨rfl, rfl⟩ := hu
  obtain ⟨h3, h4⟩ := own_O hP E.2.2.2.2.2.1 hw hc
  have he := ab_l_at (g := g) (w := w) h3 h4
  rw [hw] at he
  have hrecv := va_recv E.2.2.2.2.2.1.1 hP.P hc he
  rw [hq] at hrecv
  refine ab_call (a := ((.ref b :: as).map (cv g)).toArray) (rest := S.map (cv g)) (va_runV (As := as.map (cv g)) (b := ad g b) ⟨E.1, E.2.1, E.2.2.1, E.2.2.2.1, E.2.2.2.2.1⟩ hM ⟨ab_B E.2.2.2.2.1 hV.1 hR, E.2.2.2.2.1 _ hV.2.1, E.2.2.2.2.1 _ hV.2.2⟩ ⟨ab_blind g _ N w, hrecv, fun U hU hW => ⟨rfl, by rw [hU]; exact hP, E.2.2.2.2.2.1.moved hW (by rw [hU]; exact hS)⟩⟩ rfl (by rw [List.length_map]; exact hn) hl.1 (cv_rev g hst) (by show 2 * 0 + _ ≤ 8; rw [cv_cats]; omega) d hf) hS fun r N' w' H1 locs1 hq' hP' hS' => ?_
  rw [rs_eq]
  exact kk r N' w' hq' p e s m args below meth c Z H1 locs1 ls E R hP' hS' hl
theorem r_invS {μ' : ab_M} {idx n uc' us' : Nat} {as st : List Value} {Q' : ab_Q} (d : decode (mC μ) pc = .ok (.invokestatic idx, 3)) (hV : ab_T (mY μ).cls idx μ' n) (hM : ab_Ct μ' g as N w Q') (hst : st = as.reverse ++ S) (hn : as.length = n) (hR : ab_Rm μ μ') (hcat : (S.map fun v => v.category).sum ≤ 8) (hf : uc + (mZ μ').cells ≤ (mZ μ).cells ∧ us + (mZ μ').slots ≤ (mZ μ).slots) (hu : uc + (mZ μ').cells = uc' ∧ us + (mZ μ').slots = us')
    (kk : ∀ r N' w', Q' r N' w' → ab_St μ g uc' us' (pc + 3) L (rs r S) N' w' Q) : ab_St μ g uc us pc L st N w Q := by
  intro p e s m args below meth c Z H locs ls E R hP hS hl
  obtain ⟨rfl, rfl⟩ := hu
  refine ab_call (a := (as.map (cv g)).toArray) (rest := S.map (cv g)) (va_runS (As := as.map (cv g)) ⟨E.1, E.2.1, E.2.2.1, E.2.2.2.1, E.2.2.2.2.1⟩ hM ⟨ab_B E.2.2.2.2.1 hV.1 hR, E.2.2.2.2.1 _ hV.2⟩ ⟨ab_blind g _ N w, fun U hU hW => ⟨rfl, by rw [hU]; exact hP, E.2.2.2.2.2.1.moved hW (by rw [hU]; exact hS)⟩⟩ rfl (by rw [List.length_map]; exact hn) hl.1 (cv_revS g hst) (by show 2 * 0 + _ ≤ 8; rw [cv_cats]; omega) d hf) hS fun r N' w' H1 locs1 hq' hP' hS' => ?_
  rw [rs_eq]
  exact kk r N' w' hq' p e s m args below meth c Z H1 locs1 ls E R hP' hS' hl
theorem r_invI {μ' : ab_M} {idx n b uc' us' : Nat} {as st : List Value} {Q' : ab_Q} (d : decode (mC μ) pc = .ok (.invokespecial idx, 3)) (hV : ab_I (mY μ).cls idx μ' n) (hr0 : mR μ' = none) (hM : ab_Ct μ' g (.ref b :: as) N w Q') (hst : st = as.reverse ++ .ref b :: S) (hn : as.length = n) (hR : ab_Rm μ μ') (hcat : (S.map fun v => v.category).sum ≤ 8) (hf : uc + (mZ μ').cells ≤ (mZ μ).cells ∧ us + (mZ μ').slots ≤ (mZ μ).slots) (hu : uc + (mZ μ').cells = uc' ∧ us + (mZ μ').slots = us')
    (kk : ∀ r N' w', Q' r N' w' → ab_St μ g uc' us' (pc + 3) L (rs r S) N' w' Q) : ab_St μ g uc us pc L st N w Q := by
  intro p e s m args below meth c Z H locs ls E R hP hS hl
  obtain ⟨rfl, rfl⟩ := hu
  have hB := ab_B (s := s) (args := args) (μ := μ) E.2.2.2.2.1 hV.1 hR
  rw [hr0] at hB
  refine ab_call (a := ((.ref b :: as).map (cv g)).toArray) (rest := S.map (cv g)) (va_runI (As := as.map (cv g)) (b := ad g b) ⟨E.1, E.2.1, E.2.2.1, E.2.2.2.1, E.2.2.2.2.1⟩ hM ⟨hB, hV.2.1, E.2.2.2.2.1 _ hV.2.2⟩ ⟨ab_blind g _ N w, fun U hU hW => ⟨rfl, by rw [hU]; exact hP, E.2.2.2.2.2.1.moved hW (by rw [hU]; exact hS)⟩⟩ rfl (by rw [List.length_map]; exact hn) hl.1 (cv_rev g hst) (by show 2 * 0 + _ ≤ 8; rw [cv_cats]; omega) d hf) hS fun r N' w' H1 locs1 hq' hP' hS' => ?_
  rw [rs_eq]
  exact kk r N' w' hq' p e s m args below meth c Z H1 locs1 ls E R hP' hS' hl
theorem r_invN {μ' : ab_M} {idx n b uc' us' : Nat} {as st : List Value} {Q' : ab_Q} (q : Nat) (d : decode (mC μ) pc = .ok (.invokespecial idx, 3)) (hV : ab_N (mY μ).cls idx q μ' n) (hr0 : mR μ' = none) (hM : ab_Ct μ' g (.ref b :: as) N w Q') (hst : st = as.reverse ++ .ref b :: S) (hn : as.length = n) (hR : ab_Rm μ μ') (hcat : (S.map fun v => v.category).sum ≤ 8) (hf : uc + (mZ μ').cells ≤ (mZ μ).cells ∧ us + (mZ μ').slots ≤ (mZ μ).slots) (hu : uc + (mZ μ').cells = uc' ∧ us + (mZ μ').slots = us')
    (kk : ∀ r N' w', Q' r N' w' → ab_St μ g uc' us' (pc + 3) L (rs r S) N' w' Q) : ab_St μ g uc us pc L st N w Q := by
  intro p e s m args below meth c Z H locs ls E R hP hS hl
  obtain ⟨rfl, rfl⟩ := hu
  obtain ⟨h1, h2, h3, h4, h5, h6, h7⟩ := hV
  have hts := E.2.2.2.2.1
  have hnw : va_Nw (ab_nest q) s := by
    obtain ⟨-, -, -, n0, n1, n2⟩ := E.2.2.2.2.2.1
    match q with
    | 0 => exact n0
    | 1 => exact n1
    | _ + 2 => exact n2
  have hB : va_CN (mZ μ) s args (mY μ).cls idx (mY μ') "SignHouse" (mC μ') (mN μ') (mR μ') (mW μ') (mZ μ') (mZ μ').cells (mZ μ').slots n := by
    refine ⟨⟨rfl, rfl, hR.1, hR.2, pay_in hts (mW_good h2), List.mem_cons_self⟩, hts _ h2, hts _ h3, h4, fun sig hs => ?_, va_Nw.use rfl (by rw [h1]; exact hnw)⟩
    rw [hs] at h5
    exact (Option.some.inj h5).symm
  rw [hr0] at hB
  refine ab_call (a := ((.ref b :: as).map (cv g)).toArray) (rest := S.map (cv g)) (va_runIN (As := as.map (cv g)) (b := ad g b) ⟨E.1, E.2.1, E.2.2.1, E.2.2.2.1, E.2.2.2.2.1⟩ hM ⟨hB, h6, hts _ h7⟩ ⟨ab_blind g _ N w, fun U hU hW => ⟨rfl, by rw [hU]; exact hP, E.2.2.2.2.2.1.moved hW (by rw [hU]; exact hS)⟩⟩ rfl (by rw [List.length_map]; exact hn) hl.1 (cv_rev g hst) (by show 2 * 0 + _ ≤ 8; rw [cv_cats]; omega) d hf) hS fun r N' w' H1 locs1 hq' hP' hS' => ?_
  rw [rs_eq]
  exact kk r N' w' hq' p e s m args below meth c Z H1 locs1 ls E R hP' hS' hl
end RULES2
end
section
/-! THE METHODS, and what the tables say at each instruction that names a class, a field, a method or a constant -/
theorem inps {ws : List Cond} (ps : List Nat) (hp : ws = ps.filterMap (fun i => lw_tbl[i]?)) (h : ws.all goodWord = true) : ∀ c ∈ ws, c ∈ ws0 := by
  intro c hc
  have h1 := List.all_eq_true.mp h c hc
  rw [hp] at hc
  obtain ⟨i, -, hi⟩ := List.mem_filterMap.mp hc
  exact in0 i hi h1
theorem tb1 {c : Cond} (i : Nat) (hi : tables_1_1[i]? = some c) (hg : goodWord c = true) : c ∈ ws0 := by
  have h : c ∈ tables_1_1 := List.mem_of_getElem? hi
  exact List.mem_filter.mpr ⟨List.mem_append_right _ (show c ∈ tables_1_1 ++ (tables_1_2 ++ (tables_1_3 ++ (tables_1_4 ++ tables_1_5))) from List.mem_append_left _ h), hg⟩
theorem tb2 {c : Cond} (i : Nat) (hi : tables_1_2[i]? = some c) (hg : goodWord c = true) : c ∈ ws0 := by
  have h : c ∈ tables_1_2 := List.mem_of_getElem? hi
  exact List.mem_filter.mpr ⟨List.mem_append_right _ (show c ∈ tables_1_1 ++ (tables_1_2 ++ (tables_1_3 ++ (tables_1_4 ++ tables_1_5))) from List.mem_append_right _ (List.mem_append_left _ h)), hg⟩
theorem tb3 {c : Cond} (i : Nat) (hi : tables_1_3[i]? = some c) (hg : goodWord c = true) : c ∈ ws0 := by
  have h : c ∈ tables_1_3 := List.mem_of_getElem? hi
  exact List.mem_filter.mpr ⟨List.mem_append_right _ (show c ∈ tables_1_1 ++ (tables_1_2 ++ (tables_1_3 ++ (tables_1_4 ++ tables_1_5))) from List.mem_append_right _ (List.mem_append_right _ (List.mem_append_left _ h))), hg⟩
theorem tb4 {c : Cond} (i : Nat) (hi : tables_1_4[i]? = some c) (hg : goodWord c = true) : c ∈ ws0 := by
  have h : c ∈ tables_1_4 := List.mem_of_getElem? hi
  exact List.mem_filter.mpr ⟨List.mem_append_right _ (show c ∈ tables_1_1 ++ (tables_1_2 ++ (tables_1_3 ++ (tables_1_4 ++ tables_1_5))) from List.mem_append_right _ (List.mem_append_right _ (List.mem_append_right _ (List.mem_append_left _ h)))), hg⟩
theorem tb5 {c : Cond} (i : Nat) (hi : tables_1_5[i]? = some c) (hg : goodWord c = true) : c ∈ ws0 := by
  have h : c ∈ tables_1_5 := List.mem_of_getElem? hi
  exact List.mem_filter.mpr ⟨List.mem_append_right _ (show c ∈ tables_1_1 ++ (tables_1_2 ++ (tables_1_3 ++ (tables_1_4 ++ tables_1_5))) from List.mem_append_right _ (List.mem_append_right _ (List.mem_append_right _ (List.mem_append_right _ h)))), hg⟩
theorem tb0 {c : Cond} (i : Nat) (hi : (k2_sels lw_privs)[i]? = some c) (hg : goodWord c = true) : c ∈ ws0 := List.mem_filter.mpr ⟨List.mem_append_left _ (List.mem_of_getElem? hi), hg⟩
abbrev MX0_init : ab_M := (yX0_init, cX0_init, 1, none, { frames := 2, cells := 4, slots := 142, locals := 32 })
abbrev MX0_clear : ab_M := (yX0_clear, cX0_clear, 1, none, { frames := 0, cells := 0, slots := 0, locals := 0 })
abbrev MX0_wordCount : ab_M := (yX0_wordCount, cX0_wordCount, 1, (some .int), { frames := 0, cells := 0, slots := 0, locals := 0 })
abbrev MX0_addWord : ab_M := (yX0_addWord, cX0_addWord, 2, none, { frames := 1, cells := 0, slots := 0, locals := 23 })
abbrev MX0_nextByte : ab_M := (yX0_nextByte, cX0_nextByte, 1, (some .int), { frames := 3, cells := 0, slots := 0, locals := 81 })
abbrev MX0_putWord : ab_M := (yX0_putWord, cX0_putWord, 4, none, { frames := 0, cells := 0, slots := 0, locals := 0 })
abbrev MX1_init : ab_M := (yX1_init, cX1_init, 6, none, { frames := 2, cells := 14, slots := 211, locals := 42 })
abbrev MX1_clear : ab_M := (yX1_clear, cX1_clear, 1, none, { frames := 0, cells := 0, slots := 0, locals := 0 })
abbrev MX1_begin : ab_M := (yX1_begin, cX1_begin, 1, none, { frames := 0, cells := 0, slots := 0, locals := 0 })
abbrev MX1_hasBegun : ab_M := (yX1_hasBegun, cX1_hasBegun, 1, (some .boolean), { frames := 0, cells := 0, slots := 0, locals := 0 })
abbrev MX1_hasBothPrimes : ab_M := (yX1_hasBothPrimes, cX1_hasBothPrimes, 1, (some .boolean), { frames := 0, cells := 0, slots := 0, locals := 0 })
abbrev MX1_firstPrime : ab_M := (yX1_firstPrime, cX1_firstPrime, 1, (some (.array .long)), { frames := 0, cells := 0, slots := 0, locals := 0 })
abbrev MX1_secondPrime : ab_M := (yX1_secondPrime, cX1_secondPrime, 1, (some (.array .long)), { frames := 0, cells := 0, slots := 0, locals := 0 })
abbrev MX1_examinedCount : ab_M := (yX1_examinedCount, cX1_examinedCount, 1, (some .int), { frames := 0, cells := 0, slots := 0, locals := 0 })
abbrev MX1_undividedCount : ab_M := (yX1_undividedCount, cX1_undividedCount, 1, (some .int), { frames := 0, cells := 0, slots := 0, locals := 0 })
abbrev MX1_examineNext : ab_M := (yX1_examineNext, cX1_examineNext, 1, none, { frames := 6, cells := 0, slots := 0, locals := 136 })
abbrev MX1_drawCandidate : ab_M := (yX1_drawCandidate, cX1_drawCandidate, 3, none, { frames := 4, cells := 0, slots := 0, locals := 101 })
abbrev MX1_hasSmallDivisor : ab_M := (yX1_hasSmallDivisor, cX1_hasSmallDivisor, 5, (some .boolean), { frames := 1, cells := 0, slots := 0, locals := 24 })
abbrev MX1_isGood : ab_M := (yX1_isGood, cX1_isGood, 3, (some .boolean), { frames := 5, cells := 0, slots := 0, locals := 114 })
abbrev MX1_passes : ab_M := (yX1_passes, cX1_passes, 4, (some .boolean), { frames := 4, cells := 0, slots := 0, locals := 91 })
abbrev MX2_init : ab_M := (yX2_init, cX2_init, 3, none, { frames := 2, cells := 37, slots := 624, locals := 42 })
abbrev MX2_clear : ab_M := (yX2_clear, cX2_clear, 1, none, { frames := 0, cells := 0, slots := 0, locals := 0 })
abbrev MX2_stand : ab_M := (yX2_stand, cX2_stand, 1, (some .boolean), { frames := 0, cells := 0, slots := 0, locals := 0 })
abbrev MX2_part : ab_M := (yX2_part, cX2_part, 2, (some (.array .long)), { frames := 0, cells := 0, slots := 0, locals := 0 })
abbrev MX2_make : ab_M := (yX2_make, cX2_make, 4, none, { frames := 5, cells := 0, slots := 0, locals := 111 })
abbrev MX2_findPrivateNumbers : ab_M := (yX2_findPrivateNumbers, cX2_findPrivateNumbers, 1, none, { frames := 2, cells := 0, slots := 0, locals := 55 })
abbrev MX2_findInverseOfQ : ab_M := (yX2_findInverseOfQ, cX2_findInverseOfQ, 1, none, { frames := 4, cells := 0, slots := 0, locals := 91 })
abbrev MX2_invertE : ab_M := (yX2_invertE, cX2_invertE, 12, none, { frames := 1, cells := 0, slots := 0, locals := 24 })
abbrev MX2_inverseByE : ab_M := (yX2_inverseByE, cX2_inverseByE, 5, (some .long), { frames := 0, cells := 0, slots := 0, locals := 0 })
abbrev MX2_isBelowN : ab_M := (yX2_isBelowN, cX2_isBelowN, 2, (some .boolean), { frames := 2, cells := 0, slots := 0, locals := 43 })
abbrev MX2_raisePublic : ab_M := (yX2_raisePublic, cX2_raisePublic, 3, none, { frames := 4, cells := 0, slots := 0, locals := 91 })
abbrev MX2_raisePrivate : ab_M := (yX2_raisePrivate, cX2_raisePrivate, 3, none, { frames := 4, cells := 0, slots := 0, locals := 91 })
abbrev MX2_makeSignature : ab_M := (yX2_makeSignature, cX2_makeSignature, 3, none, { frames := 4, cells := 0, slots := 0, locals := 93 })
abbrev MX3_init : ab_M := (yX3_init, cX3_init, 1, none, { frames := 4, cells := 4, slots := 374, locals := 101 })
abbrev MX3_byteCount : ab_M := (yX3_byteCount, cX3_byteCount, 1, (some .int), { frames := 0, cells := 0, slots := 0, locals := 0 })
abbrev MX3_append : ab_M := (yX3_append, cX3_append, 5, none, { frames := 4, cells := 0, slots := 0, locals := 101 })
abbrev MX3_keepFirst : ab_M := (yX3_keepFirst, cX3_keepFirst, 2, none, { frames := 4, cells := 0, slots := 0, locals := 101 })
abbrev MX3_hashByte : ab_M := (yX3_hashByte, cX3_hashByte, 2, (some .int), { frames := 1, cells := 0, slots := 0, locals := 22 })
abbrev MX3_makeHash : ab_M := (yX3_makeHash, cX3_makeHash, 1, none, { frames := 3, cells := 0, slots := 0, locals := 81 })
abbrev MX4_init : ab_M := (yX4_init, cX4_init, 2, none, { frames := 1, cells := 7, slots := 142, locals := 21 })
abbrev MX4_choose : ab_M := (yX4_choose, cX4_choose, 3, none, { frames := 3, cells := 0, slots := 0, locals := 70 })
abbrev MX4_inverseOfLowLimb : ab_M := (yX4_inverseOfLowLimb, cX4_inverseOfLowLimb, 6, (some .long), { frames := 0, cells := 0, slots := 0, locals := 0 })
abbrev MX4_reduce : ab_M := (yX4_reduce, cX4_reduce, 4, none, { frames := 3, cells := 0, slots := 0, locals := 70 })
abbrev MX4_raise : ab_M := (yX4_raise, cX4_raise, 5, none, { frames := 3, cells := 0, slots := 0, locals := 67 })
abbrev MX4_times : ab_M := (yX4_times, cX4_times, 4, none, { frames := 3, cells := 0, slots := 0, locals := 67 })
abbrev MX4_twice : ab_M := (yX4_twice, cX4_twice, 8, none, { frames := 2, cells := 0, slots := 0, locals := 43 })
abbrev MX4_multiplyCarried : ab_M := (yX4_multiplyCarried, cX4_multiplyCarried, 5, none, { frames := 2, cells := 0, slots := 0, locals := 43 })
abbrev MX4_addProduct : ab_M := (yX4_addProduct, cX4_addProduct, 9, none, { frames := 0, cells := 0, slots := 0, locals := 0 })
abbrev MX4_dropLowLimb : ab_M := (yX4_dropLowLimb, cX4_dropLowLimb, 8, none, { frames := 0, cells := 0, slots := 0, locals := 0 })
abbrev MX5_byteAt : ab_M := (yX5_byteAt, cX5_byteAt, 3, (some .int), { frames := 0, cells := 0, slots := 0, locals := 0 })
abbrev MX5_putByte : ab_M := (yX5_putByte, cX5_putByte, 5, none, { frames := 0, cells := 0, slots := 0, locals := 0 })
abbrev MX5_bitAt : ab_M := (yX5_bitAt, cX5_bitAt, 3, (some .boolean), { frames := 0, cells := 0, slots := 0, locals := 0 })
abbrev MX5_bitCount : ab_M := (yX5_bitCount, cX5_bitCount, 2, (some .int), { frames := 2, cells := 0, slots := 0, locals := 43 })
abbrev MX5_copy : ab_M := (yX5_copy, cX5_copy, 3, none, { frames := 0, cells := 0, slots := 0, locals := 0 })
abbrev MX5_putSmall : ab_M := (yX5_putSmall, cX5_putSmall, 4, none, { frames := 0, cells := 0, slots := 0, locals := 0 })
abbrev MX5_isOne : ab_M := (yX5_isOne, cX5_isOne, 1, (some .boolean), { frames := 3, cells := 0, slots := 0, locals := 64 })
abbrev MX5_order : ab_M := (yX5_order, cX5_order, 3, (some .int), { frames := 1, cells := 0, slots := 0, locals := 21 })
abbrev MX5_add : ab_M := (yX5_add, cX5_add, 7, none, { frames := 0, cells := 0, slots := 0, locals := 0 })
abbrev MX5_subtract : ab_M := (yX5_subtract, cX5_subtract, 8, (some .boolean), { frames := 0, cells := 0, slots := 0, locals := 0 })
abbrev MX5_lessen : ab_M := (yX5_lessen, cX5_lessen, 8, none, { frames := 0, cells := 0, slots := 0, locals := 0 })
abbrev MX5_halveUntilOdd : ab_M := (yX5_halveUntilOdd, cX5_halveUntilOdd, 3, (some .int), { frames := 1, cells := 0, slots := 0, locals := 25 })
abbrev MX5_halve : ab_M := (yX5_halve, cX5_halve, 6, none, { frames := 0, cells := 0, slots := 0, locals := 0 })
abbrev MX5_multiply : ab_M := (yX5_multiply, cX5_multiply, 9, none, { frames := 1, cells := 0, slots := 0, locals := 24 })
abbrev MX5_remainder : ab_M := (yX5_remainder, cX5_remainder, 5, (some .long), { frames := 0, cells := 0, slots := 0, locals := 0 })
abbrev MX6_init : ab_M := (yX6_init, cX6_init, 1, none, { frames := 1, cells := 2, slots := 72, locals := 12 })
abbrev MX6_hashFirst : ab_M := (yX6_hashFirst, cX6_hashFirst, 7, none, { frames := 2, cells := 0, slots := 0, locals := 55 })
abbrev MX6_byteAt : ab_M := (yX6_byteAt, cX6_byteAt, 3, (some .int), { frames := 0, cells := 0, slots := 0, locals := 0 })
abbrev MX6_paddedWord : ab_M := (yX6_paddedWord, cX6_paddedWord, 7, (some .int), { frames := 0, cells := 0, slots := 0, locals := 0 })
abbrev MX6_extendSchedule : ab_M := (yX6_extendSchedule, cX6_extendSchedule, 6, none, { frames := 1, cells := 0, slots := 0, locals := 21 })
abbrev MX6_mixBlock : ab_M := (yX6_mixBlock, cX6_mixBlock, 15, none, { frames := 1, cells := 0, slots := 0, locals := 21 })
abbrev MX7_init : ab_M := (yX7_init, cX7_init, 4, none, { frames := 5, cells := 66, slots := 1450, locals := 121 })
abbrev MX7_seed : ab_M := (yX7_seed, cX7_seed, 2, (some .int), { frames := 2, cells := 0, slots := 0, locals := 44 })
abbrev MX7_search : ab_M := (yX7_search, cX7_search, 3, (some .int), { frames := 7, cells := 0, slots := 0, locals := 156 })
abbrev MX7_forget : ab_M := (yX7_forget, cX7_forget, 2, (some .int), { frames := 1, cells := 0, slots := 0, locals := 20 })
abbrev MX7_key : ab_M := (yX7_key, cX7_key, 3, (some .int), { frames := 2, cells := 0, slots := 0, locals := 44 })
abbrev MX7_count : ab_M := (yX7_count, cX7_count, 2, (some .int), { frames := 1, cells := 0, slots := 0, locals := 20 })
abbrev MX7_feed : ab_M := (yX7_feed, cX7_feed, 4, (some .int), { frames := 5, cells := 0, slots := 0, locals := 125 })
abbrev MX7_cut : ab_M := (yX7_cut, cX7_cut, 3, (some .int), { frames := 5, cells := 0, slots := 0, locals := 122 })
abbrev MX7_hash : ab_M := (yX7_hash, cX7_hash, 2, (some .int), { frames := 2, cells := 0, slots := 0, locals := 43 })
abbrev MX7_encoded : ab_M := (yX7_encoded, cX7_encoded, 2, (some .int), { frames := 3, cells := 0, slots := 0, locals := 67 })
abbrev MX7_sign : ab_M := (yX7_sign, cX7_sign, 1, (some .int), { frames := 5, cells := 0, slots := 0, locals := 115 })
abbrev MX7_verify : ab_M := (yX7_verify, cX7_verify, 1, (some .int), { frames := 5, cells := 0, slots := 0, locals := 113 })
abbrev MX7_power : ab_M := (yX7_power, cX7_power, 2, (some .int), { frames := 5, cells := 0, slots := 0, locals := 113 })
abbrev MX7_encode : ab_M := (yX7_encode, cX7_encode, 1, (some .int), { frames := 4, cells := 0, slots := 0, locals := 89 })
abbrev MX7_set : ab_M := (yX7_set, cX7_set, 4, (some .int), { frames := 1, cells := 0, slots := 0, locals := 24 })
abbrev MX7_get : ab_M := (yX7_get, cX7_get, 2, (some .int), { frames := 1, cells := 0, slots := 0, locals := 22 })
abbrev MX7_digest : ab_M := (yX7_digest, cX7_digest, 4, (some .long), { frames := 3, cells := 0, slots := 0, locals := 70 })
abbrev MX7_digestKey : ab_M := (yX7_digestKey, cX7_digestKey, 7, (some .long), { frames := 2, cells := 0, slots := 0, locals := 44 })
abbrev MX7_bytesOfKeyPart : ab_M := (yX7_bytesOfKeyPart, cX7_bytesOfKeyPart, 2, (some .int), { frames := 0, cells := 0, slots := 0, locals := 0 })
abbrev MX7_byteOfKeyPart : ab_M := (yX7_byteOfKeyPart, cX7_byteOfKeyPart, 3, (some .int), { frames := 1, cells := 0, slots := 0, locals := 22 })
abbrev MX7_encodedByte : ab_M := (yX7_encodedByte, cX7_encodedByte, 5, (some .int), { frames := 2, cells := 0, slots := 0, locals := 43 })
abbrev MX7_writeEncoded : ab_M := (yX7_writeEncoded, cX7_writeEncoded, 3, none, { frames := 3, cells := 0, slots := 0, locals := 67 })
abbrev MX8_in : ab_M := (yX8_in, cX8_in, 3, (some .boolean), { frames := 0, cells := 0, slots := 0, locals := 0 })
abbrev MX8_init : ab_M := (yX8_init, cX8_init, 3, none, { frames := 1, cells := 9, slots := 2376, locals := 12 })
abbrev MX8_clear : ab_M := (yX8_clear, cX8_clear, 3, none, { frames := 0, cells := 0, slots := 0, locals := 0 })
abbrev MX8_copy : ab_M := (yX8_copy, cX8_copy, 4, none, { frames := 0, cells := 0, slots := 0, locals := 0 })
abbrev MX8_small : ab_M := (yX8_small, cX8_small, 3, none, { frames := 1, cells := 0, slots := 0, locals := 22 })
abbrev MX8_longOf : ab_M := (yX8_longOf, cX8_longOf, 3, (some .int), { frames := 0, cells := 0, slots := 0, locals := 0 })
abbrev MX8_compare : ab_M := (yX8_compare, cX8_compare, 6, (some .int), { frames := 0, cells := 0, slots := 0, locals := 0 })
abbrev MX8_isSmall : ab_M := (yX8_isSmall, cX8_isSmall, 3, (some .boolean), { frames := 1, cells := 0, slots := 0, locals := 22 })
abbrev MX8_adds : ab_M := (yX8_adds, cX8_adds, 6, none, { frames := 0, cells := 0, slots := 0, locals := 0 })
abbrev MX8_takes : ab_M := (yX8_takes, cX8_takes, 6, none, { frames := 0, cells := 0, slots := 0, locals := 0 })
abbrev MX8_takesSmall : ab_M := (yX8_takesSmall, cX8_takesSmall, 6, none, { frames := 0, cells := 0, slots := 0, locals := 0 })
abbrev MX8_growsSmall : ab_M := (yX8_growsSmall, cX8_growsSmall, 9, none, { frames := 0, cells := 0, slots := 0, locals := 0 })
abbrev MX8_restSmall : ab_M := (yX8_restSmall, cX8_restSmall, 6, (some .int), { frames := 0, cells := 0, slots := 0, locals := 0 })
abbrev MX8_shareSmall : ab_M := (yX8_shareSmall, cX8_shareSmall, 8, none, { frames := 0, cells := 0, slots := 0, locals := 0 })
abbrev MX8_moveLeft : ab_M := (yX8_moveLeft, cX8_moveLeft, 7, none, { frames := 0, cells := 0, slots := 0, locals := 0 })
abbrev MX8_moveRight : ab_M := (yX8_moveRight, cX8_moveRight, 5, none, { frames := 0, cells := 0, slots := 0, locals := 0 })
abbrev MX8_times : ab_M := (yX8_times, cX8_times, 14, none, { frames := 1, cells := 0, slots := 0, locals := 22 })
abbrev MX8_dividesAt : ab_M := (yX8_dividesAt, cX8_dividesAt, 26, none, { frames := 0, cells := 0, slots := 0, locals := 0 })
abbrev MX8_leaves : ab_M := (yX8_leaves, cX8_leaves, 7, none, { frames := 1, cells := 0, slots := 0, locals := 45 })
abbrev MX8_bit : ab_M := (yX8_bit, cX8_bit, 3, (some .boolean), { frames := 0, cells := 0, slots := 0, locals := 0 })
abbrev MX8_powers : ab_M := (yX8_powers, cX8_powers, 5, none, { frames := 2, cells := 0, slots := 0, locals := 71 })
abbrev MX8_byteAt : ab_M := (yX8_byteAt, cX8_byteAt, 5, (some .int), { frames := 0, cells := 0, slots := 0, locals := 0 })
abbrev MX8_byteTo : ab_M := (yX8_byteTo, cX8_byteTo, 7, none, { frames := 0, cells := 0, slots := 0, locals := 0 })
abbrev MX8_padded : ab_M := (yX8_padded, cX8_padded, 3, (some .int), { frames := 0, cells := 0, slots := 0, locals := 0 })
abbrev MX8_turned : ab_M := (yX8_turned, cX8_turned, 2, (some .int), { frames := 0, cells := 0, slots := 0, locals := 0 })
abbrev MX8_block : ab_M := (yX8_block, cX8_block, 14, none, { frames := 1, cells := 0, slots := 0, locals := 22 })
abbrev MX8_hashes : ab_M := (yX8_hashes, cX8_hashes, 3, none, { frames := 2, cells := 0, slots := 0, locals := 55 })
abbrev MX8_hashByte : ab_M := (yX8_hashByte, cX8_hashByte, 2, (some .int), { frames := 0, cells := 0, slots := 0, locals := 0 })
abbrev MX8_seed : ab_M := (yX8_seed, cX8_seed, 2, (some .int), { frames := 0, cells := 0, slots := 0, locals := 0 })
abbrev MX8_lay : ab_M := (yX8_lay, cX8_lay, 3, none, { frames := 0, cells := 0, slots := 0, locals := 0 })
abbrev MX8_draws : ab_M := (yX8_draws, cX8_draws, 2, (some .int), { frames := 3, cells := 0, slots := 0, locals := 77 })
abbrev MX8_isDivided : ab_M := (yX8_isDivided, cX8_isDivided, 4, (some .boolean), { frames := 1, cells := 0, slots := 0, locals := 25 })
abbrev MX8_base : ab_M := (yX8_base, cX8_base, 1, (some .int), { frames := 0, cells := 0, slots := 0, locals := 0 })
abbrev MX8_passesBy : ab_M := (yX8_passesBy, cX8_passesBy, 5, (some .boolean), { frames := 3, cells := 0, slots := 0, locals := 95 })
abbrev MX8_passes : ab_M := (yX8_passes, cX8_passes, 4, (some .boolean), { frames := 4, cells := 0, slots := 0, locals := 119 })
abbrev MX8_isGood : ab_M := (yX8_isGood, cX8_isGood, 1, (some .boolean), { frames := 5, cells := 0, slots := 0, locals := 142 })
abbrev MX8_inverse : ab_M := (yX8_inverse, cX8_inverse, 8, none, { frames := 1, cells := 0, slots := 0, locals := 28 })
abbrev MX8_makesKey : ab_M := (yX8_makesKey, cX8_makesKey, 1, none, { frames := 3, cells := 0, slots := 0, locals := 95 })
abbrev MX8_examines : ab_M := (yX8_examines, cX8_examines, 3, none, { frames := 6, cells := 0, slots := 0, locals := 162 })
abbrev MX8_search : ab_M := (yX8_search, cX8_search, 3, (some .int), { frames := 7, cells := 0, slots := 0, locals := 184 })
abbrev MX8_forget : ab_M := (yX8_forget, cX8_forget, 2, (some .int), { frames := 0, cells := 0, slots := 0, locals := 0 })
abbrev MX8_sizeOf : ab_M := (yX8_sizeOf, cX8_sizeOf, 2, (some .int), { frames := 0, cells := 0, slots := 0, locals := 0 })
abbrev MX8_key : ab_M := (yX8_key, cX8_key, 3, (some .int), { frames := 1, cells := 0, slots := 0, locals := 24 })
abbrev MX8_count : ab_M := (yX8_count, cX8_count, 2, (some .int), { frames := 0, cells := 0, slots := 0, locals := 0 })
abbrev MX8_feed : ab_M := (yX8_feed, cX8_feed, 5, (some .int), { frames := 1, cells := 0, slots := 0, locals := 22 })
abbrev MX8_cut : ab_M := (yX8_cut, cX8_cut, 3, (some .int), { frames := 1, cells := 0, slots := 0, locals := 22 })
abbrev MX8_hashesMessage : ab_M := (yX8_hashesMessage, cX8_hashesMessage, 2, none, { frames := 3, cells := 0, slots := 0, locals := 77 })
abbrev MX8_hash : ab_M := (yX8_hash, cX8_hash, 2, (some .int), { frames := 4, cells := 0, slots := 0, locals := 98 })
abbrev MX8_encodes : ab_M := (yX8_encodes, cX8_encodes, 4, none, { frames := 4, cells := 0, slots := 0, locals := 98 })
abbrev MX8_encoded : ab_M := (yX8_encoded, cX8_encoded, 2, (some .int), { frames := 5, cells := 0, slots := 0, locals := 121 })
abbrev MX8_sign : ab_M := (yX8_sign, cX8_sign, 1, (some .int), { frames := 5, cells := 0, slots := 0, locals := 121 })
abbrev MX8_exponentE : ab_M := (yX8_exponentE, cX8_exponentE, 1, none, { frames := 1, cells := 0, slots := 0, locals := 22 })
abbrev MX8_verify : ab_M := (yX8_verify, cX8_verify, 1, (some .int), { frames := 5, cells := 0, slots := 0, locals := 121 })
abbrev MX8_power : ab_M := (yX8_power, cX8_power, 2, (some .int), { frames := 3, cells := 0, slots := 0, locals := 95 })
abbrev MX8_encode : ab_M := (yX8_encode, cX8_encode, 1, (some .int), { frames := 5, cells := 0, slots := 0, locals := 121 })
abbrev MX8_set : ab_M := (yX8_set, cX8_set, 4, (some .int), { frames := 1, cells := 0, slots := 0, locals := 26 })
abbrev MX8_get : ab_M := (yX8_get, cX8_get, 2, (some .int), { frames := 1, cells := 0, slots := 0, locals := 24 })
abbrev MX8_mixed : ab_M := (yX8_mixed, cX8_mixed, 8, (some .long), { frames := 1, cells := 0, slots := 0, locals := 24 })
abbrev MX8_digest : ab_M := (yX8_digest, cX8_digest, 4, (some .long), { frames := 2, cells := 0, slots := 0, locals := 51 })
abbrev MJ6_numberOfLeadingZeros_0f7a4 : ab_M := (yJ6_numberOfLeadingZeros_0f7a4, cJ6_numberOfLeadingZeros_0f7a4, 2, (some .int), { frames := 0, cells := 0, slots := 0, locals := 0 })
abbrev MJ6_rotateRight_7cf53 : ab_M := (yJ6_rotateRight_7cf53, cJ6_rotateRight_7cf53, 2, (some .int), { frames := 0, cells := 0, slots := 0, locals := 0 })
abbrev MJ13_numberOfLeadingZeros_95d88 : ab_M := (yJ13_numberOfLeadingZeros_95d88, cJ13_numberOfLeadingZeros_95d88, 3, (some .int), { frames := 1, cells := 0, slots := 0, locals := 21 })
abbrev MJ9_max_7cf53 : ab_M := (yJ9_max_7cf53, cJ9_max_7cf53, 2, (some .int), { frames := 0, cells := 0, slots := 0, locals := 0 })
abbrev MJ9_min_7cf53 : ab_M := (yJ9_min_7cf53, cJ9_min_7cf53, 2, (some .int), { frames := 0, cells := 0, slots := 0, locals := 0 })
abbrev MJ7_fill_d0a16 : ab_M := (yJ7_fill_d0a16, cJ7_fill_d0a16, 5, none, { frames := 0, cells := 0, slots := 0, locals := 0 })
abbrev ML_cell : ab_M := (yL_cell, cL_cell, 2, (some .int), { frames := 0, cells := 0, slots := 0, locals := 0 })
abbrev ML_law : ab_M := (yL_law, cL_law, 4, (some .boolean), room_1)
theorem iwX0 : ∀ c ∈ u_ws RX0 TX0 5, c ∈ ws0 := inps [115, 117, 119, 121, 123] (by decide +kernel) (by decide +kernel)
theorem itX0 : Cond.instantiable RX0 5 ∈ ws0 := tb1 30 rfl rfl
theorem iwX1 : ∀ c ∈ u_ws RX1 TX1 14, c ∈ ws0 := inps [183, 185, 187, 189, 191, 193, 195, 197, 199, 201, 203, 205, 207, 209] (by decide +kernel) (by decide +kernel)
theorem itX1 : Cond.instantiable RX1 14 ∈ ws0 := tb1 67 rfl rfl
theorem iwX2 : ∀ c ∈ u_ws RX2 TX2 17, c ∈ ws0 := inps [238, 240, 242, 244, 246, 248, 250, 252, 254, 256, 258, 260, 262, 264, 266, 268, 270] (by decide +kernel) (by decide +kernel)
theorem itX2 : Cond.instantiable RX2 17 ∈ ws0 := tb1 153 rfl rfl
theorem iwX3 : ∀ c ∈ u_ws RX3 TX3 3, c ∈ ws0 := inps [310, 312, 314] (by decide +kernel) (by decide +kernel)
theorem itX3 : Cond.instantiable RX3 3 ∈ ws0 := tb1 214 rfl rfl
theorem iwX4 : ∀ c ∈ u_ws RX4 TX4 9, c ∈ ws0 := inps [149, 151, 153, 155, 157, 159, 161, 163, 165] (by decide +kernel) (by decide +kernel)
theorem itX4 : Cond.instantiable RX4 9 ∈ ws0 := tb1 74 rfl rfl
theorem iwX6 : ∀ c ∈ u_ws RX6 TX6 2, c ∈ ws0 := inps [103, 105] (by decide +kernel) (by decide +kernel)
theorem itX6 : Cond.instantiable RX6 2 ∈ ws0 := tb1 36 rfl rfl
theorem iwX7 : ∀ c ∈ u_ws RX7 TX7 12, c ∈ ws0 := inps [329, 331, 333, 335, 337, 339, 341, 343, 345, 347, 349, 351] (by decide +kernel) (by decide +kernel)
theorem itX7 : Cond.instantiable RX7 12 ∈ ws0 := tb1 16 rfl rfl
theorem iwX8 : ∀ c ∈ u_ws RX8 TX8 23, c ∈ ws0 := inps [812, 814, 816, 818, 820, 822, 824, 826, 828, 830, 832, 834, 836, 838, 840, 842, 844, 846, 848, 850, 852, 854, 856] (by decide +kernel) (by decide +kernel)
theorem itX8 : Cond.instantiable RX8 23 ∈ ws0 := tb3 172 rfl rfl
end
section
set_option maxRecDepth 100000 in
theorem iiX0 : Cond.initialized RX0 ∈ ws0 := tb1 3 rfl rfl
set_option maxRecDepth 100000 in
theorem neX0 : RX0 ≠ "java/lang/invoke/MethodHandle" ∧ RX0 ≠ "java/lang/invoke/VarHandle" := (by decide +kernel)
set_option maxRecDepth 100000 in
theorem iiX1 : Cond.initialized RX1 ∈ ws0 := tb1 5 rfl rfl
set_option maxRecDepth 100000 in
theorem neX1 : RX1 ≠ "java/lang/invoke/MethodHandle" ∧ RX1 ≠ "java/lang/invoke/VarHandle" := (by decide +kernel)
set_option maxRecDepth 100000 in
theorem iiX2 : Cond.initialized RX2 ∈ ws0 := tb1 7 rfl rfl
set_option maxRecDepth 100000 in
theorem neX2 : RX2 ≠ "java/lang/invoke/MethodHandle" ∧ RX2 ≠ "java/lang/invoke/VarHandle" := (by decide +kernel)
set_option maxRecDepth 100000 in
theorem iiX3 : Cond.initialized RX3 ∈ ws0 := tb1 8 rfl rfl
set_option maxRecDepth 100000 in
theorem neX3 : RX3 ≠ "java/lang/invoke/MethodHandle" ∧ RX3 ≠ "java/lang/invoke/VarHandle" := (by decide +kernel)
set_option maxRecDepth 100000 in
theorem iiX4 : Cond.initialized RX4 ∈ ws0 := tb1 6 rfl rfl
set_option maxRecDepth 100000 in
theorem neX4 : RX4 ≠ "java/lang/invoke/MethodHandle" ∧ RX4 ≠ "java/lang/invoke/VarHandle" := (by decide +kernel)
set_option maxRecDepth 100000 in
theorem iiX5 : Cond.initialized RX5 ∈ ws0 := tb1 12 rfl rfl
set_option maxRecDepth 100000 in
theorem neX5 : RX5 ≠ "java/lang/invoke/MethodHandle" ∧ RX5 ≠ "java/lang/invoke/VarHandle" := (by decide +kernel)
set_option maxRecDepth 100000 in
theorem iiX6 : Cond.initialized RX6 ∈ ws0 := tb1 4 rfl rfl
set_option maxRecDepth 100000 in
theorem neX6 : RX6 ≠ "java/lang/invoke/MethodHandle" ∧ RX6 ≠ "java/lang/invoke/VarHandle" := (by decide +kernel)
set_option maxRecDepth 100000 in
theorem iiX7 : Cond.initialized RX7 ∈ ws0 := tb1 1 rfl rfl
set_option maxRecDepth 100000 in
theorem neX7 : RX7 ≠ "java/lang/invoke/MethodHandle" ∧ RX7 ≠ "java/lang/invoke/VarHandle" := (by decide +kernel)
set_option maxRecDepth 100000 in
theorem iiX8 : Cond.initialized RX8 ∈ ws0 := tb1 11 rfl rfl
set_option maxRecDepth 100000 in
theorem neX8 : RX8 ≠ "java/lang/invoke/MethodHandle" ∧ RX8 ≠ "java/lang/invoke/VarHandle" := (by decide +kernel)
set_option maxRecDepth 100000 in
theorem iiJ6 : Cond.initialized RJ6 ∈ ws0 := tb1 10 rfl rfl
set_option maxRecDepth 100000 in
theorem neJ6 : RJ6 ≠ "java/lang/invoke/MethodHandle" ∧ RJ6 ≠ "java/lang/invoke/VarHandle" := (by decide +kernel)
set_option maxRecDepth 100000 in
theorem iiJ13 : Cond.initialized RJ13 ∈ ws0 := tb1 14 rfl rfl
set_option maxRecDepth 100000 in
theorem neJ13 : RJ13 ≠ "java/lang/invoke/MethodHandle" ∧ RJ13 ≠ "java/lang/invoke/VarHandle" := (by decide +kernel)
set_option maxRecDepth 100000 in
theorem iiJ9 : Cond.initialized RJ9 ∈ ws0 := tb1 2 rfl rfl
set_option maxRecDepth 100000 in
theorem neJ9 : RJ9 ≠ "java/lang/invoke/MethodHandle" ∧ RJ9 ≠ "java/lang/invoke/VarHandle" := (by decide +kernel)
set_option maxRecDepth 100000 in
theorem iiJxd2413 : Cond.initialized RJxd2413 ∈ ws0 := tb1 9 rfl rfl
set_option maxRecDepth 100000 in
theorem neJxd2413 : RJxd2413 ≠ "java/lang/invoke/MethodHandle" ∧ RJxd2413 ≠ "java/lang/invoke/VarHandle" := (by decide +kernel)
set_option maxRecDepth 100000 in
theorem iiJ7 : Cond.initialized RJ7 ∈ ws0 := tb1 13 rfl rfl
set_option maxRecDepth 100000 in
theorem neJ7 : RJ7 ≠ "java/lang/invoke/MethodHandle" ∧ RJ7 ≠ "java/lang/invoke/VarHandle" := (by decide +kernel)
set_option maxRecDepth 100000 in
theorem iiL : Cond.initialized RL ∈ ws0 := tb1 0 rfl rfl
set_option maxRecDepth 100000 in
theorem neL : RL ≠ "java/lang/invoke/MethodHandle" ∧ RL ≠ "java/lang/invoke/VarHandle" := (by decide +kernel)
set_option maxRecDepth 100000 in
theorem arI : Cond.arrayClass .int ∈ ws0 := tb1 49 rfl rfl
set_option maxRecDepth 100000 in
theorem arJ : Cond.arrayClass .long ∈ ws0 := tb1 108 rfl rfl
set_option maxRecDepth 100000 in
theorem arB : Cond.arrayClass .byte ∈ ws0 := tb1 48 rfl rfl
set_option maxRecDepth 100000 in
theorem obI : Cond.instanceMethod Lib.objectInit ∈ ws0 := tb1 21 rfl rfl
set_option maxRecDepth 100000 in
theorem obC : Cond.code Lib.objectInit ⟨#[0xb1]⟩ 1 none ∈ ws0 := tb1 22 rfl rfl
set_option maxRecDepth 100000 in
theorem fX7_18 : ab_F RX7 18 6 0 RX7 TX7 12 tyX7 := ⟨rfl, by decide, iwX7, tyX7_ok, nmX7, tb2 17 rfl rfl⟩
set_option maxRecDepth 100000 in
theorem fX7_22 : ab_F RX7 22 6 1 RX7 TX7 12 tyX7 := ⟨rfl, by decide, iwX7, tyX7_ok, nmX7, tb2 18 rfl rfl⟩
set_option maxRecDepth 100000 in
theorem fX7_25 : ab_F RX7 25 6 2 RX7 TX7 12 tyX7 := ⟨rfl, by decide, iwX7, tyX7_ok, nmX7, tb2 19 rfl rfl⟩
set_option maxRecDepth 100000 in
theorem fX7_31 : ab_F RX7 31 6 3 RX7 TX7 12 tyX7 := ⟨rfl, by decide, iwX7, tyX7_ok, nmX7, tb2 20 rfl rfl⟩
set_option maxRecDepth 100000 in
theorem fX7_40 : ab_F RX7 40 6 4 RX7 TX7 12 tyX7 := ⟨rfl, by decide, iwX7, tyX7_ok, nmX7, tb2 21 rfl rfl⟩
set_option maxRecDepth 100000 in
theorem fX7_49 : ab_F RX7 49 6 5 RX7 TX7 12 tyX7 := ⟨rfl, by decide, iwX7, tyX7_ok, nmX7, tb2 22 rfl rfl⟩
set_option maxRecDepth 100000 in
theorem fX7_56 : ab_F RX7 56 6 6 RX7 TX7 12 tyX7 := ⟨rfl, by decide, iwX7, tyX7_ok, nmX7, tb2 23 rfl rfl⟩
set_option maxRecDepth 100000 in
theorem fX7_60 : ab_F RX7 60 6 7 RX7 TX7 12 tyX7 := ⟨rfl, by decide, iwX7, tyX7_ok, nmX7, tb2 24 rfl rfl⟩
set_option maxRecDepth 100000 in
theorem fX7_64 : ab_F RX7 64 6 8 RX7 TX7 12 tyX7 := ⟨rfl, by decide, iwX7, tyX7_ok, nmX7, tb2 25 rfl rfl⟩
set_option maxRecDepth 100000 in
theorem fX7_67 : ab_F RX7 67 6 9 RX7 TX7 12 tyX7 := ⟨rfl, by decide, iwX7, tyX7_ok, nmX7, tb2 26 rfl rfl⟩
set_option maxRecDepth 100000 in
theorem fX7_125 : ab_F RX7 125 6 10 RX7 TX7 12 tyX7 := ⟨rfl, by decide, iwX7, tyX7_ok, nmX7, tb2 27 rfl rfl⟩
set_option maxRecDepth 100000 in
theorem fX7_128 : ab_F RX7 128 6 11 RX7 TX7 12 tyX7 := ⟨rfl, by decide, iwX7, tyX7_ok, nmX7, tb2 28 rfl rfl⟩
set_option maxRecDepth 100000 in
theorem sX7_190 : Cond.fieldLink RX7 190 (ab_S 5).1 (ab_S 5).2.1 (ab_S 5).2.2 ∈ ws0 := tb3 98 rfl rfl
set_option maxRecDepth 100000 in
theorem fX0_11 : ab_F RX0 11 0 0 RX0 TX0 5 tyX0 := ⟨rfl, by decide, iwX0, tyX0_ok, nmX0, tb1 50 rfl rfl⟩
set_option maxRecDepth 100000 in
theorem fX0_18 : ab_F RX0 18 0 1 RX0 TX0 5 tyX0 := ⟨rfl, by decide, iwX0, tyX0_ok, nmX0, tb1 51 rfl rfl⟩
set_option maxRecDepth 100000 in
theorem fX0_22 : ab_F RX0 22 0 2 RX0 TX0 5 tyX0 := ⟨rfl, by decide, iwX0, tyX0_ok, nmX0, tb1 52 rfl rfl⟩
set_option maxRecDepth 100000 in
theorem fX0_26 : ab_F RX0 26 0 3 RX0 TX0 5 tyX0 := ⟨rfl, by decide, iwX0, tyX0_ok, nmX0, tb1 53 rfl rfl⟩
set_option maxRecDepth 100000 in
theorem fX0_29 : ab_F RX0 29 0 4 RX0 TX0 5 tyX0 := ⟨rfl, by decide, iwX0, tyX0_ok, nmX0, tb1 54 rfl rfl⟩
set_option maxRecDepth 100000 in
theorem fX1_7 : ab_F RX1 7 1 0 RX1 TX1 14 tyX1 := ⟨rfl, by decide, iwX1, tyX1_ok, nmX1, tb1 109 rfl rfl⟩
set_option maxRecDepth 100000 in
theorem fX1_13 : ab_F RX1 13 1 1 RX1 TX1 14 tyX1 := ⟨rfl, by decide, iwX1, tyX1_ok, nmX1, tb1 110 rfl rfl⟩
set_option maxRecDepth 100000 in
theorem fX1_17 : ab_F RX1 17 1 2 RX1 TX1 14 tyX1 := ⟨rfl, by decide, iwX1, tyX1_ok, nmX1, tb1 111 rfl rfl⟩
set_option maxRecDepth 100000 in
theorem fX1_31 : ab_F RX1 31 1 3 RX1 TX1 14 tyX1 := ⟨rfl, by decide, iwX1, tyX1_ok, nmX1, tb1 112 rfl rfl⟩
set_option maxRecDepth 100000 in
theorem fX1_35 : ab_F RX1 35 1 4 RX1 TX1 14 tyX1 := ⟨rfl, by decide, iwX1, tyX1_ok, nmX1, tb1 113 rfl rfl⟩
set_option maxRecDepth 100000 in
theorem fX1_39 : ab_F RX1 39 1 5 RX1 TX1 14 tyX1 := ⟨rfl, by decide, iwX1, tyX1_ok, nmX1, tb1 114 rfl rfl⟩
set_option maxRecDepth 100000 in
theorem fX1_42 : ab_F RX1 42 1 6 RX1 TX1 14 tyX1 := ⟨rfl, by decide, iwX1, tyX1_ok, nmX1, tb1 115 rfl rfl⟩
set_option maxRecDepth 100000 in
theorem fX1_45 : ab_F RX1 45 1 7 RX1 TX1 14 tyX1 := ⟨rfl, by decide, iwX1, tyX1_ok, nmX1, tb1 116 rfl rfl⟩
set_option maxRecDepth 100000 in
theorem fX1_48 : ab_F RX1 48 1 8 RX1 TX1 14 tyX1 := ⟨rfl, by decide, iwX1, tyX1_ok, nmX1, tb1 117 rfl rfl⟩
set_option maxRecDepth 100000 in
theorem fX1_51 : ab_F RX1 51 1 9 RX1 TX1 14 tyX1 := ⟨rfl, by decide, iwX1, tyX1_ok, nmX1, tb1 118 rfl rfl⟩
set_option maxRecDepth 100000 in
theorem fX1_54 : ab_F RX1 54 1 10 RX1 TX1 14 tyX1 := ⟨rfl, by decide, iwX1, tyX1_ok, nmX1, tb1 119 rfl rfl⟩
set_option maxRecDepth 100000 in
theorem fX1_58 : ab_F RX1 58 1 11 RX1 TX1 14 tyX1 := ⟨rfl, by decide, iwX1, tyX1_ok, nmX1, tb1 120 rfl rfl⟩
set_option maxRecDepth 100000 in
theorem fX1_61 : ab_F RX1 61 1 12 RX1 TX1 14 tyX1 := ⟨rfl, by decide, iwX1, tyX1_ok, nmX1, tb1 121 rfl rfl⟩
set_option maxRecDepth 100000 in
theorem fX1_64 : ab_F RX1 64 1 13 RX1 TX1 14 tyX1 := ⟨rfl, by decide, iwX1, tyX1_ok, nmX1, tb1 122 rfl rfl⟩
set_option maxRecDepth 100000 in
theorem sX1_93 : Cond.fieldLink RX1 93 (ab_S 2).1 (ab_S 2).2.1 (ab_S 2).2.2 ∈ ws0 := tb2 112 rfl rfl
set_option maxRecDepth 100000 in
theorem sX1_120 : Cond.fieldLink RX1 120 (ab_S 3).1 (ab_S 3).2.1 (ab_S 3).2.2 ∈ ws0 := tb2 164 rfl rfl
set_option maxRecDepth 100000 in
theorem fX2_18 : ab_F RX2 18 2 0 RX2 TX2 17 tyX2 := ⟨rfl, by decide, iwX2, tyX2_ok, nmX2, tb1 161 rfl rfl⟩
set_option maxRecDepth 100000 in
theorem fX2_24 : ab_F RX2 24 2 1 RX2 TX2 17 tyX2 := ⟨rfl, by decide, iwX2, tyX2_ok, nmX2, tb1 162 rfl rfl⟩
set_option maxRecDepth 100000 in
theorem fX2_27 : ab_F RX2 27 2 2 RX2 TX2 17 tyX2 := ⟨rfl, by decide, iwX2, tyX2_ok, nmX2, tb1 163 rfl rfl⟩
set_option maxRecDepth 100000 in
theorem fX2_30 : ab_F RX2 30 2 3 RX2 TX2 17 tyX2 := ⟨rfl, by decide, iwX2, tyX2_ok, nmX2, tb1 164 rfl rfl⟩
set_option maxRecDepth 100000 in
theorem fX2_34 : ab_F RX2 34 2 4 RX2 TX2 17 tyX2 := ⟨rfl, by decide, iwX2, tyX2_ok, nmX2, tb1 165 rfl rfl⟩
set_option maxRecDepth 100000 in
theorem fX2_37 : ab_F RX2 37 2 5 RX2 TX2 17 tyX2 := ⟨rfl, by decide, iwX2, tyX2_ok, nmX2, tb1 166 rfl rfl⟩
set_option maxRecDepth 100000 in
theorem fX2_40 : ab_F RX2 40 2 6 RX2 TX2 17 tyX2 := ⟨rfl, by decide, iwX2, tyX2_ok, nmX2, tb1 167 rfl rfl⟩
set_option maxRecDepth 100000 in
theorem fX2_43 : ab_F RX2 43 2 7 RX2 TX2 17 tyX2 := ⟨rfl, by decide, iwX2, tyX2_ok, nmX2, tb1 168 rfl rfl⟩
set_option maxRecDepth 100000 in
theorem fX2_46 : ab_F RX2 46 2 8 RX2 TX2 17 tyX2 := ⟨rfl, by decide, iwX2, tyX2_ok, nmX2, tb1 169 rfl rfl⟩
set_option maxRecDepth 100000 in
theorem fX2_49 : ab_F RX2 49 2 9 RX2 TX2 17 tyX2 := ⟨rfl, by decide, iwX2, tyX2_ok, nmX2, tb1 170 rfl rfl⟩
set_option maxRecDepth 100000 in
theorem fX2_52 : ab_F RX2 52 2 10 RX2 TX2 17 tyX2 := ⟨rfl, by decide, iwX2, tyX2_ok, nmX2, tb1 171 rfl rfl⟩
set_option maxRecDepth 100000 in
theorem fX2_55 : ab_F RX2 55 2 11 RX2 TX2 17 tyX2 := ⟨rfl, by decide, iwX2, tyX2_ok, nmX2, tb1 172 rfl rfl⟩
set_option maxRecDepth 100000 in
theorem fX2_58 : ab_F RX2 58 2 12 RX2 TX2 17 tyX2 := ⟨rfl, by decide, iwX2, tyX2_ok, nmX2, tb1 173 rfl rfl⟩
set_option maxRecDepth 100000 in
theorem fX2_61 : ab_F RX2 61 2 13 RX2 TX2 17 tyX2 := ⟨rfl, by decide, iwX2, tyX2_ok, nmX2, tb1 174 rfl rfl⟩
set_option maxRecDepth 100000 in
theorem fX2_64 : ab_F RX2 64 2 14 RX2 TX2 17 tyX2 := ⟨rfl, by decide, iwX2, tyX2_ok, nmX2, tb1 175 rfl rfl⟩
set_option maxRecDepth 100000 in
theorem fX2_67 : ab_F RX2 67 2 15 RX2 TX2 17 tyX2 := ⟨rfl, by decide, iwX2, tyX2_ok, nmX2, tb1 176 rfl rfl⟩
set_option maxRecDepth 100000 in
theorem fX2_70 : ab_F RX2 70 2 16 RX2 TX2 17 tyX2 := ⟨rfl, by decide, iwX2, tyX2_ok, nmX2, tb1 177 rfl rfl⟩
set_option maxRecDepth 100000 in
theorem sX2_123 : Cond.fieldLink RX2 123 (ab_S 4).1 (ab_S 4).2.1 (ab_S 4).2.2 ∈ ws0 := tb3 134 rfl rfl
set_option maxRecDepth 100000 in
theorem fX3_9 : ab_F RX3 9 3 0 RX3 TX3 3 tyX3 := ⟨rfl, by decide, iwX3, tyX3_ok, nmX3, tb2 7 rfl rfl⟩
set_option maxRecDepth 100000 in
theorem fX3_16 : ab_F RX3 16 3 1 RX3 TX3 3 tyX3 := ⟨rfl, by decide, iwX3, tyX3_ok, nmX3, tb2 8 rfl rfl⟩
set_option maxRecDepth 100000 in
theorem fX3_23 : ab_F RX3 23 3 2 RX3 TX3 3 tyX3 := ⟨rfl, by decide, iwX3, tyX3_ok, nmX3, tb2 9 rfl rfl⟩
set_option maxRecDepth 100000 in
theorem fX4_13 : ab_F RX4 13 4 0 RX4 TX4 9 tyX4 := ⟨rfl, by decide, iwX4, tyX4_ok, nmX4, tb1 80 rfl rfl⟩
set_option maxRecDepth 100000 in
theorem fX4_19 : ab_F RX4 19 4 1 RX4 TX4 9 tyX4 := ⟨rfl, by decide, iwX4, tyX4_ok, nmX4, tb1 81 rfl rfl⟩
set_option maxRecDepth 100000 in
theorem fX4_23 : ab_F RX4 23 4 2 RX4 TX4 9 tyX4 := ⟨rfl, by decide, iwX4, tyX4_ok, nmX4, tb1 82 rfl rfl⟩
set_option maxRecDepth 100000 in
theorem fX4_26 : ab_F RX4 26 4 3 RX4 TX4 9 tyX4 := ⟨rfl, by decide, iwX4, tyX4_ok, nmX4, tb1 83 rfl rfl⟩
set_option maxRecDepth 100000 in
theorem fX4_29 : ab_F RX4 29 4 4 RX4 TX4 9 tyX4 := ⟨rfl, by decide, iwX4, tyX4_ok, nmX4, tb1 84 rfl rfl⟩
set_option maxRecDepth 100000 in
theorem fX4_32 : ab_F RX4 32 4 5 RX4 TX4 9 tyX4 := ⟨rfl, by decide, iwX4, tyX4_ok, nmX4, tb1 85 rfl rfl⟩
set_option maxRecDepth 100000 in
theorem fX4_35 : ab_F RX4 35 4 6 RX4 TX4 9 tyX4 := ⟨rfl, by decide, iwX4, tyX4_ok, nmX4, tb1 86 rfl rfl⟩
set_option maxRecDepth 100000 in
theorem fX4_38 : ab_F RX4 38 4 7 RX4 TX4 9 tyX4 := ⟨rfl, by decide, iwX4, tyX4_ok, nmX4, tb1 87 rfl rfl⟩
set_option maxRecDepth 100000 in
theorem fX4_53 : ab_F RX4 53 4 8 RX4 TX4 9 tyX4 := ⟨rfl, by decide, iwX4, tyX4_ok, nmX4, tb1 88 rfl rfl⟩
set_option maxRecDepth 100000 in
theorem fX6_7 : ab_F RX6 7 5 0 RX6 TX6 2 tyX6 := ⟨rfl, by decide, iwX6, tyX6_ok, nmX6, tb1 41 rfl rfl⟩
set_option maxRecDepth 100000 in
theorem fX6_13 : ab_F RX6 13 5 1 RX6 TX6 2 tyX6 := ⟨rfl, by decide, iwX6, tyX6_ok, nmX6, tb1 42 rfl rfl⟩
set_option maxRecDepth 100000 in
theorem sX6_16 : Cond.fieldLink RX6 16 (ab_S 0).1 (ab_S 0).2.1 (ab_S 0).2.2 ∈ ws0 := tb1 229 rfl rfl
set_option maxRecDepth 100000 in
theorem sX6_35 : Cond.fieldLink RX6 35 (ab_S 1).1 (ab_S 1).2.1 (ab_S 1).2.2 ∈ ws0 := tb2 5 rfl rfl
set_option maxRecDepth 100000 in
theorem fX8_7 : ab_F RX8 7 7 0 RX8 TX8 23 tyX8 := ⟨rfl, by decide, iwX8, tyX8_ok, nmX8, tb4 9 rfl rfl⟩
set_option maxRecDepth 100000 in
theorem fX8_13 : ab_F RX8 13 7 3 RX8 TX8 23 tyX8 := ⟨rfl, by decide, iwX8, tyX8_ok, nmX8, tb4 12 rfl rfl⟩
set_option maxRecDepth 100000 in
theorem fX8_16 : ab_F RX8 16 7 5 RX8 TX8 23 tyX8 := ⟨rfl, by decide, iwX8, tyX8_ok, nmX8, tb4 14 rfl rfl⟩
set_option maxRecDepth 100000 in
theorem fX8_19 : ab_F RX8 19 7 6 RX8 TX8 23 tyX8 := ⟨rfl, by decide, iwX8, tyX8_ok, nmX8, tb4 15 rfl rfl⟩
set_option maxRecDepth 100000 in
theorem fX8_30 : ab_F RX8 30 7 7 RX8 TX8 23 tyX8 := ⟨rfl, by decide, iwX8, tyX8_ok, nmX8, tb4 16 rfl rfl⟩
set_option maxRecDepth 100000 in
theorem fX8_97 : ab_F RX8 97 7 8 RX8 TX8 23 tyX8 := ⟨rfl, by decide, iwX8, tyX8_ok, nmX8, tb4 17 rfl rfl⟩
set_option maxRecDepth 100000 in
theorem fX8_100 : ab_F RX8 100 7 9 RX8 TX8 23 tyX8 := ⟨rfl, by decide, iwX8, tyX8_ok, nmX8, tb4 18 rfl rfl⟩
set_option maxRecDepth 100000 in
theorem fX8_103 : ab_F RX8 103 7 20 RX8 TX8 23 tyX8 := ⟨rfl, by decide, iwX8, tyX8_ok, nmX8, tb4 29 rfl rfl⟩
set_option maxRecDepth 100000 in
theorem fX8_106 : ab_F RX8 106 7 22 RX8 TX8 23 tyX8 := ⟨rfl, by decide, iwX8, tyX8_ok, nmX8, tb4 31 rfl rfl⟩
set_option maxRecDepth 100000 in
theorem fX8_109 : ab_F RX8 109 7 1 RX8 TX8 23 tyX8 := ⟨rfl, by decide, iwX8, tyX8_ok, nmX8, tb4 10 rfl rfl⟩
set_option maxRecDepth 100000 in
theorem fX8_113 : ab_F RX8 113 7 2 RX8 TX8 23 tyX8 := ⟨rfl, by decide, iwX8, tyX8_ok, nmX8, tb4 11 rfl rfl⟩
set_option maxRecDepth 100000 in
theorem fX8_156 : ab_F RX8 156 7 4 RX8 TX8 23 tyX8 := ⟨rfl, by decide, iwX8, tyX8_ok, nmX8, tb4 13 rfl rfl⟩
set_option maxRecDepth 100000 in
theorem fX8_169 : ab_F RX8 169 7 11 RX8 TX8 23 tyX8 := ⟨rfl, by decide, iwX8, tyX8_ok, nmX8, tb4 20 rfl rfl⟩
set_option maxRecDepth 100000 in
theorem fX8_173 : ab_F RX8 173 7 10 RX8 TX8 23 tyX8 := ⟨rfl, by decide, iwX8, tyX8_ok, nmX8, tb4 19 rfl rfl⟩
set_option maxRecDepth 100000 in
theorem fX8_179 : ab_F RX8 179 7 16 RX8 TX8 23 tyX8 := ⟨rfl, by decide, iwX8, tyX8_ok, nmX8, tb4 25 rfl rfl⟩
set_option maxRecDepth 100000 in
theorem fX8_185 : ab_F RX8 185 7 17 RX8 TX8 23 tyX8 := ⟨rfl, by decide, iwX8, tyX8_ok, nmX8, tb4 26 rfl rfl⟩
set_option maxRecDepth 100000 in
theorem fX8_216 : ab_F RX8 216 7 15 RX8 TX8 23 tyX8 := ⟨rfl, by decide, iwX8, tyX8_ok, nmX8, tb4 24 rfl rfl⟩
set_option maxRecDepth 100000 in
theorem fX8_220 : ab_F RX8 220 7 13 RX8 TX8 23 tyX8 := ⟨rfl, by decide, iwX8, tyX8_ok, nmX8, tb4 22 rfl rfl⟩
set_option maxRecDepth 100000 in
theorem fX8_237 : ab_F RX8 237 7 12 RX8 TX8 23 tyX8 := ⟨rfl, by decide, iwX8, tyX8_ok, nmX8, tb4 21 rfl rfl⟩
set_option maxRecDepth 100000 in
theorem fX8_248 : ab_F RX8 248 7 14 RX8 TX8 23 tyX8 := ⟨rfl, by decide, iwX8, tyX8_ok, nmX8, tb4 23 rfl rfl⟩
set_option maxRecDepth 100000 in
theorem fX8_271 : ab_F RX8 271 7 21 RX8 TX8 23 tyX8 := ⟨rfl, by decide, iwX8, tyX8_ok, nmX8, tb4 30 rfl rfl⟩
set_option maxRecDepth 100000 in
theorem fX8_274 : ab_F RX8 274 7 18 RX8 TX8 23 tyX8 := ⟨rfl, by decide, iwX8, tyX8_ok, nmX8, tb4 27 rfl rfl⟩
set_option maxRecDepth 100000 in
theorem fX8_277 : ab_F RX8 277 7 19 RX8 TX8 23 tyX8 := ⟨rfl, by decide, iwX8, tyX8_ok, nmX8, tb4 28 rfl rfl⟩
end
section
set_option maxRecDepth 100000 in
theorem qX1_103 : Cond.constant RX1 103 (65537) ∈ ws0 := tb2 121 rfl rfl
set_option maxRecDepth 100000 in
theorem qX2_112 : Cond.constant RX2 112 (65537) ∈ ws0 := tb3 2 rfl rfl
set_option maxRecDepth 100000 in
theorem qX8_22 : Cond.constant RX8 22 (1779033703) ∈ ws0 := tb3 177 rfl rfl
set_option maxRecDepth 100000 in
theorem qX8_23 : Cond.constant RX8 23 (-1150833019) ∈ ws0 := tb3 178 rfl rfl
set_option maxRecDepth 100000 in
theorem qX8_24 : Cond.constant RX8 24 (1013904242) ∈ ws0 := tb3 179 rfl rfl
set_option maxRecDepth 100000 in
theorem qX8_25 : Cond.constant RX8 25 (-1521486534) ∈ ws0 := tb3 180 rfl rfl
set_option maxRecDepth 100000 in
theorem qX8_26 : Cond.constant RX8 26 (1359893119) ∈ ws0 := tb3 181 rfl rfl
set_option maxRecDepth 100000 in
theorem qX8_27 : Cond.constant RX8 27 (-1694144372) ∈ ws0 := tb3 182 rfl rfl
set_option maxRecDepth 100000 in
theorem qX8_28 : Cond.constant RX8 28 (528734635) ∈ ws0 := tb3 183 rfl rfl
set_option maxRecDepth 100000 in
theorem qX8_29 : Cond.constant RX8 29 (1541459225) ∈ ws0 := tb3 184 rfl rfl
set_option maxRecDepth 100000 in
theorem qX8_33 : Cond.constant RX8 33 (1116352408) ∈ ws0 := tb3 185 rfl rfl
set_option maxRecDepth 100000 in
theorem qX8_34 : Cond.constant RX8 34 (1899447441) ∈ ws0 := tb3 186 rfl rfl
set_option maxRecDepth 100000 in
theorem qX8_35 : Cond.constant RX8 35 (-1245643825) ∈ ws0 := tb3 187 rfl rfl
set_option maxRecDepth 100000 in
theorem qX8_36 : Cond.constant RX8 36 (-373957723) ∈ ws0 := tb3 188 rfl rfl
set_option maxRecDepth 100000 in
theorem qX8_37 : Cond.constant RX8 37 (961987163) ∈ ws0 := tb3 189 rfl rfl
set_option maxRecDepth 100000 in
theorem qX8_38 : Cond.constant RX8 38 (1508970993) ∈ ws0 := tb3 190 rfl rfl
set_option maxRecDepth 100000 in
theorem qX8_39 : Cond.constant RX8 39 (-1841331548) ∈ ws0 := tb3 191 rfl rfl
set_option maxRecDepth 100000 in
theorem qX8_40 : Cond.constant RX8 40 (-1424204075) ∈ ws0 := tb3 192 rfl rfl
set_option maxRecDepth 100000 in
theorem qX8_41 : Cond.constant RX8 41 (-670586216) ∈ ws0 := tb3 193 rfl rfl
set_option maxRecDepth 100000 in
theorem qX8_42 : Cond.constant RX8 42 (310598401) ∈ ws0 := tb3 194 rfl rfl
set_option maxRecDepth 100000 in
theorem qX8_43 : Cond.constant RX8 43 (607225278) ∈ ws0 := tb3 195 rfl rfl
set_option maxRecDepth 100000 in
theorem qX8_44 : Cond.constant RX8 44 (1426881987) ∈ ws0 := tb3 196 rfl rfl
set_option maxRecDepth 100000 in
theorem qX8_45 : Cond.constant RX8 45 (1925078388) ∈ ws0 := tb3 197 rfl rfl
set_option maxRecDepth 100000 in
theorem qX8_46 : Cond.constant RX8 46 (-2132889090) ∈ ws0 := tb3 198 rfl rfl
set_option maxRecDepth 100000 in
theorem qX8_47 : Cond.constant RX8 47 (-1680079193) ∈ ws0 := tb3 199 rfl rfl
set_option maxRecDepth 100000 in
theorem qX8_48 : Cond.constant RX8 48 (-1046744716) ∈ ws0 := tb3 200 rfl rfl
set_option maxRecDepth 100000 in
theorem qX8_49 : Cond.constant RX8 49 (-459576895) ∈ ws0 := tb3 201 rfl rfl
set_option maxRecDepth 100000 in
theorem qX8_50 : Cond.constant RX8 50 (-272742522) ∈ ws0 := tb3 202 rfl rfl
set_option maxRecDepth 100000 in
theorem qX8_51 : Cond.constant RX8 51 (264347078) ∈ ws0 := tb3 203 rfl rfl
set_option maxRecDepth 100000 in
theorem qX8_52 : Cond.constant RX8 52 (604807628) ∈ ws0 := tb3 204 rfl rfl
set_option maxRecDepth 100000 in
theorem qX8_53 : Cond.constant RX8 53 (770255983) ∈ ws0 := tb3 205 rfl rfl
set_option maxRecDepth 100000 in
theorem qX8_54 : Cond.constant RX8 54 (1249150122) ∈ ws0 := tb3 206 rfl rfl
set_option maxRecDepth 100000 in
theorem qX8_55 : Cond.constant RX8 55 (1555081692) ∈ ws0 := tb3 207 rfl rfl
set_option maxRecDepth 100000 in
theorem qX8_56 : Cond.constant RX8 56 (1996064986) ∈ ws0 := tb3 208 rfl rfl
set_option maxRecDepth 100000 in
theorem qX8_57 : Cond.constant RX8 57 (-1740746414) ∈ ws0 := tb3 209 rfl rfl
set_option maxRecDepth 100000 in
theorem qX8_58 : Cond.constant RX8 58 (-1473132947) ∈ ws0 := tb3 210 rfl rfl
set_option maxRecDepth 100000 in
theorem qX8_59 : Cond.constant RX8 59 (-1341970488) ∈ ws0 := tb3 211 rfl rfl
set_option maxRecDepth 100000 in
theorem qX8_60 : Cond.constant RX8 60 (-1084653625) ∈ ws0 := tb3 212 rfl rfl
set_option maxRecDepth 100000 in
theorem qX8_61 : Cond.constant RX8 61 (-958395405) ∈ ws0 := tb3 213 rfl rfl
set_option maxRecDepth 100000 in
theorem qX8_62 : Cond.constant RX8 62 (-710438585) ∈ ws0 := tb3 214 rfl rfl
set_option maxRecDepth 100000 in
theorem qX8_63 : Cond.constant RX8 63 (113926993) ∈ ws0 := tb3 215 rfl rfl
set_option maxRecDepth 100000 in
theorem qX8_64 : Cond.constant RX8 64 (338241895) ∈ ws0 := tb3 216 rfl rfl
set_option maxRecDepth 100000 in
theorem qX8_65 : Cond.constant RX8 65 (666307205) ∈ ws0 := tb3 217 rfl rfl
set_option maxRecDepth 100000 in
theorem qX8_66 : Cond.constant RX8 66 (773529912) ∈ ws0 := tb3 218 rfl rfl
set_option maxRecDepth 100000 in
theorem qX8_67 : Cond.constant RX8 67 (1294757372) ∈ ws0 := tb3 219 rfl rfl
set_option maxRecDepth 100000 in
theorem qX8_68 : Cond.constant RX8 68 (1396182291) ∈ ws0 := tb3 220 rfl rfl
set_option maxRecDepth 100000 in
theorem qX8_69 : Cond.constant RX8 69 (1695183700) ∈ ws0 := tb3 221 rfl rfl
set_option maxRecDepth 100000 in
theorem qX8_70 : Cond.constant RX8 70 (1986661051) ∈ ws0 := tb3 222 rfl rfl
set_option maxRecDepth 100000 in
theorem qX8_71 : Cond.constant RX8 71 (-2117940946) ∈ ws0 := tb3 223 rfl rfl
set_option maxRecDepth 100000 in
theorem qX8_72 : Cond.constant RX8 72 (-1838011259) ∈ ws0 := tb3 224 rfl rfl
set_option maxRecDepth 100000 in
theorem qX8_73 : Cond.constant RX8 73 (-1564481375) ∈ ws0 := tb3 225 rfl rfl
set_option maxRecDepth 100000 in
theorem qX8_74 : Cond.constant RX8 74 (-1474664885) ∈ ws0 := tb3 226 rfl rfl
set_option maxRecDepth 100000 in
theorem qX8_75 : Cond.constant RX8 75 (-1035236496) ∈ ws0 := tb3 227 rfl rfl
set_option maxRecDepth 100000 in
theorem qX8_76 : Cond.constant RX8 76 (-949202525) ∈ ws0 := tb3 228 rfl rfl
set_option maxRecDepth 100000 in
theorem qX8_77 : Cond.constant RX8 77 (-778901479) ∈ ws0 := tb3 229 rfl rfl
set_option maxRecDepth 100000 in
theorem qX8_78 : Cond.constant RX8 78 (-694614492) ∈ ws0 := tb3 230 rfl rfl
set_option maxRecDepth 100000 in
theorem qX8_79 : Cond.constant RX8 79 (-200395387) ∈ ws0 := tb3 231 rfl rfl
set_option maxRecDepth 100000 in
theorem qX8_80 : Cond.constant RX8 80 (275423344) ∈ ws0 := tb3 232 rfl rfl
set_option maxRecDepth 100000 in
theorem qX8_81 : Cond.constant RX8 81 (430227734) ∈ ws0 := tb3 233 rfl rfl
set_option maxRecDepth 100000 in
theorem qX8_82 : Cond.constant RX8 82 (506948616) ∈ ws0 := tb3 234 rfl rfl
set_option maxRecDepth 100000 in
theorem qX8_83 : Cond.constant RX8 83 (659060556) ∈ ws0 := tb3 235 rfl rfl
set_option maxRecDepth 100000 in
theorem qX8_84 : Cond.constant RX8 84 (883997877) ∈ ws0 := tb3 236 rfl rfl
set_option maxRecDepth 100000 in
theorem qX8_85 : Cond.constant RX8 85 (958139571) ∈ ws0 := tb3 237 rfl rfl
set_option maxRecDepth 100000 in
theorem qX8_86 : Cond.constant RX8 86 (1322822218) ∈ ws0 := tb3 238 rfl rfl
set_option maxRecDepth 100000 in
theorem qX8_87 : Cond.constant RX8 87 (1537002063) ∈ ws0 := tb3 239 rfl rfl
set_option maxRecDepth 100000 in
theorem qX8_88 : Cond.constant RX8 88 (1747873779) ∈ ws0 := tb4 0 rfl rfl
set_option maxRecDepth 100000 in
theorem qX8_89 : Cond.constant RX8 89 (1955562222) ∈ ws0 := tb4 1 rfl rfl
set_option maxRecDepth 100000 in
theorem qX8_90 : Cond.constant RX8 90 (2024104815) ∈ ws0 := tb4 2 rfl rfl
set_option maxRecDepth 100000 in
theorem qX8_91 : Cond.constant RX8 91 (-2067236844) ∈ ws0 := tb4 3 rfl rfl
set_option maxRecDepth 100000 in
theorem qX8_92 : Cond.constant RX8 92 (-1933114872) ∈ ws0 := tb4 4 rfl rfl
set_option maxRecDepth 100000 in
theorem qX8_93 : Cond.constant RX8 93 (-1866530822) ∈ ws0 := tb4 5 rfl rfl
set_option maxRecDepth 100000 in
theorem qX8_94 : Cond.constant RX8 94 (-1538233109) ∈ ws0 := tb4 6 rfl rfl
set_option maxRecDepth 100000 in
theorem qX8_95 : Cond.constant RX8 95 (-1090935817) ∈ ws0 := tb4 7 rfl rfl
set_option maxRecDepth 100000 in
theorem qX8_96 : Cond.constant RX8 96 (-965641998) ∈ ws0 := tb4 8 rfl rfl
set_option maxRecDepth 100000 in
theorem qX8_124 : Cond.constant RX8 124 (65535) ∈ ws0 := tb4 159 rfl rfl
set_option maxRecDepth 100000 in
theorem qX8_127 : Cond.constant RX8 127 (32768) ∈ ws0 := tb4 191 rfl rfl
set_option maxRecDepth 100000 in
theorem qX8_155 : Cond.constant RX8 155 (65280) ∈ ws0 := tb4 129 rfl rfl
set_option maxRecDepth 100000 in
theorem qX8_219 : Cond.constant RX8 219 (65537) ∈ ws0 := tb4 142 rfl rfl
set_option maxRecDepth 100000 in
theorem qJ6_264 : Cond.constant RJ6 264 (65536) ∈ ws0 := tb2 199 rfl rfl
set_option maxRecDepth 100000 in
theorem qX7_175 : Cond.constantLong RX7 175 (37) ∈ ws0 := tb3 161 rfl rfl
set_option maxRecDepth 100000 in
theorem qX7_177 : Cond.constantLong RX7 177 (31) ∈ ws0 := tb3 162 rfl rfl
set_option maxRecDepth 100000 in
theorem qX2_105 : Cond.constantLong RX2 105 (2) ∈ ws0 := tb3 12 rfl rfl
set_option maxRecDepth 100000 in
theorem qX2_110 : Cond.constantLong RX2 110 (65537) ∈ ws0 := tb3 1 rfl rfl
set_option maxRecDepth 100000 in
theorem qX2_121 : Cond.constantLong RX2 121 (4294967295) ∈ ws0 := tb3 7 rfl rfl
set_option maxRecDepth 100000 in
theorem qX4_51 : Cond.constantLong RX4 51 (4294967295) ∈ ws0 := tb2 152 rfl rfl
set_option maxRecDepth 100000 in
theorem qX4_65 : Cond.constantLong RX4 65 (2) ∈ ws0 := tb2 151 rfl rfl
set_option maxRecDepth 100000 in
theorem qX5_7 : Cond.constantLong RX5 7 (255) ∈ ws0 := tb2 106 rfl rfl
set_option maxRecDepth 100000 in
theorem qX5_9 : Cond.constantLong RX5 9 (-1) ∈ ws0 := tb2 107 rfl rfl
set_option maxRecDepth 100000 in
theorem qX5_19 : Cond.constantLong RX5 19 (4294967295) ∈ ws0 := tb2 132 rfl rfl
set_option maxRecDepth 100000 in
theorem qL_44 : Cond.constantLong RL 44 (4294967295) ∈ ws0 := tb5 77 rfl rfl
set_option maxRecDepth 100000 in
theorem qX8_125 : Cond.constantLong RX8 125 (65535) ∈ ws0 := tb4 200 rfl rfl
set_option maxRecDepth 100000 in
theorem qX8_226 : Cond.constantLong RX8 226 (65537) ∈ ws0 := tb4 217 rfl rfl
set_option maxRecDepth 100000 in
theorem qX8_295 : Cond.constantLong RX8 295 (31) ∈ ws0 := tb5 75 rfl rfl
set_option maxRecDepth 100000 in
theorem qX8_297 : Cond.constantLong RX8 297 (37) ∈ ws0 := tb5 70 rfl rfl
set_option maxRecDepth 100000 in
theorem nX7_28 : Cond.classLink RX7 28 RX0 ∈ ws0 := tb1 29 rfl rfl
set_option maxRecDepth 100000 in
theorem nX7_35 : Cond.classLink RX7 35 RX1 ∈ ws0 := tb1 66 rfl rfl
set_option maxRecDepth 100000 in
theorem nX7_44 : Cond.classLink RX7 44 RX2 ∈ ws0 := tb1 152 rfl rfl
set_option maxRecDepth 100000 in
theorem nX7_53 : Cond.classLink RX7 53 RX3 ∈ ws0 := tb1 213 rfl rfl
set_option maxRecDepth 100000 in
theorem nX0_15 : Cond.classLink RX0 15 RX6 ∈ ws0 := tb1 35 rfl rfl
set_option maxRecDepth 100000 in
theorem nX1_26 : Cond.classLink RX1 26 RX4 ∈ ws0 := tb1 73 rfl rfl
set_option maxRecDepth 100000 in
theorem nX2_13 : Cond.classLink RX2 13 RX4 ∈ ws0 := tb1 159 rfl rfl
set_option maxRecDepth 100000 in
theorem nX3_13 : Cond.classLink RX3 13 RX6 ∈ ws0 := tb1 219 rfl rfl
set_option maxRecDepth 100000 in
theorem nL_7 : Cond.classLink RL 7 RX7 ∈ ws0 := tb1 15 rfl rfl
set_option maxRecDepth 100000 in
theorem nL_18 : Cond.classLink RL 18 RX8 ∈ ws0 := tb3 171 rfl rfl
end
section
set_option maxRecDepth 100000 in
theorem pdX0_init : Cond.code (mY MX0_init) (mC MX0_init) (mN MX0_init) (mR MX0_init) ∈ ws0 ∧ Cond.initialized (mY MX0_init).cls ∈ ws0 ∧ ((mY MX0_init).cls ≠ "java/lang/invoke/MethodHandle" ∧ (mY MX0_init).cls ≠ "java/lang/invoke/VarHandle") ∧ (parseMethodDescriptor (mY MX0_init).desc).map (fun d => d.parameters.length) = some 0 := ⟨tb1 33 rfl rfl, iiX0, neX0, (by decide +kernel)⟩
set_option maxRecDepth 100000 in
theorem imX0_init : Cond.instanceMethod yX0_init ∈ ws0 := tb1 32 rfl rfl
set_option maxRecDepth 100000 in
theorem pdX0_clear : Cond.code (mY MX0_clear) (mC MX0_clear) (mN MX0_clear) (mR MX0_clear) ∈ ws0 ∧ Cond.initialized (mY MX0_clear).cls ∈ ws0 ∧ ((mY MX0_clear).cls ≠ "java/lang/invoke/MethodHandle" ∧ (mY MX0_clear).cls ≠ "java/lang/invoke/VarHandle") ∧ (parseMethodDescriptor (mY MX0_clear).desc).map (fun d => d.parameters.length) = some 0 := ⟨tb3 25 rfl rfl, iiX0, neX0, (by decide +kernel)⟩
set_option maxRecDepth 100000 in
theorem imX0_clear : Cond.instanceMethod yX0_clear ∈ ws0 := tb3 23 rfl rfl
set_option maxRecDepth 100000 in
theorem seX0_clear : Cond.selects (mY MX0_clear).cls (mY MX0_clear) (mY MX0_clear) ∈ ws0 := tb3 24 rfl rfl
set_option maxRecDepth 100000 in
theorem pdX0_wordCount : Cond.code (mY MX0_wordCount) (mC MX0_wordCount) (mN MX0_wordCount) (mR MX0_wordCount) ∈ ws0 ∧ Cond.initialized (mY MX0_wordCount).cls ∈ ws0 ∧ ((mY MX0_wordCount).cls ≠ "java/lang/invoke/MethodHandle" ∧ (mY MX0_wordCount).cls ≠ "java/lang/invoke/VarHandle") ∧ (parseMethodDescriptor (mY MX0_wordCount).desc).map (fun d => d.parameters.length) = some 0 := ⟨tb2 65 rfl rfl, iiX0, neX0, (by decide +kernel)⟩
set_option maxRecDepth 100000 in
theorem imX0_wordCount : Cond.instanceMethod yX0_wordCount ∈ ws0 := tb2 63 rfl rfl
set_option maxRecDepth 100000 in
theorem seX0_wordCount : Cond.selects (mY MX0_wordCount).cls (mY MX0_wordCount) (mY MX0_wordCount) ∈ ws0 := tb2 64 rfl rfl
set_option maxRecDepth 100000 in
theorem pdX0_addWord : Cond.code (mY MX0_addWord) (mC MX0_addWord) (mN MX0_addWord) (mR MX0_addWord) ∈ ws0 ∧ Cond.initialized (mY MX0_addWord).cls ∈ ws0 ∧ ((mY MX0_addWord).cls ≠ "java/lang/invoke/MethodHandle" ∧ (mY MX0_addWord).cls ≠ "java/lang/invoke/VarHandle") ∧ (parseMethodDescriptor (mY MX0_addWord).desc).map (fun d => d.parameters.length) = some 1 := ⟨tb2 69 rfl rfl, iiX0, neX0, (by decide +kernel)⟩
set_option maxRecDepth 100000 in
theorem imX0_addWord : Cond.instanceMethod yX0_addWord ∈ ws0 := tb2 67 rfl rfl
set_option maxRecDepth 100000 in
theorem seX0_addWord : Cond.selects (mY MX0_addWord).cls (mY MX0_addWord) (mY MX0_addWord) ∈ ws0 := tb2 68 rfl rfl
set_option maxRecDepth 100000 in
theorem pdX0_nextByte : Cond.code (mY MX0_nextByte) (mC MX0_nextByte) (mN MX0_nextByte) (mR MX0_nextByte) ∈ ws0 ∧ Cond.initialized (mY MX0_nextByte).cls ∈ ws0 ∧ ((mY MX0_nextByte).cls ≠ "java/lang/invoke/MethodHandle" ∧ (mY MX0_nextByte).cls ≠ "java/lang/invoke/VarHandle") ∧ (parseMethodDescriptor (mY MX0_nextByte).desc).map (fun d => d.parameters.length) = some 0 := ⟨tb2 97 rfl rfl, iiX0, neX0, (by decide +kernel)⟩
set_option maxRecDepth 100000 in
theorem imX0_nextByte : Cond.instanceMethod yX0_nextByte ∈ ws0 := tb2 95 rfl rfl
set_option maxRecDepth 100000 in
theorem seX0_nextByte : Cond.selects (mY MX0_nextByte).cls (mY MX0_nextByte) (mY MX0_nextByte) ∈ ws0 := tb2 96 rfl rfl
set_option maxRecDepth 100000 in
theorem pdX0_putWord : Cond.code (mY MX0_putWord) (mC MX0_putWord) (mN MX0_putWord) (mR MX0_putWord) ∈ ws0 ∧ Cond.initialized (mY MX0_putWord).cls ∈ ws0 ∧ ((mY MX0_putWord).cls ≠ "java/lang/invoke/MethodHandle" ∧ (mY MX0_putWord).cls ≠ "java/lang/invoke/VarHandle") ∧ (parseMethodDescriptor (mY MX0_putWord).desc).map (fun d => d.parameters.length) = some 1 := ⟨tb2 73 rfl rfl, iiX0, neX0, (by decide +kernel)⟩
set_option maxRecDepth 100000 in
theorem imX0_putWord : Cond.instanceMethod yX0_putWord ∈ ws0 := tb2 72 rfl rfl
set_option maxRecDepth 100000 in
theorem seX0_putWord : Cond.selects (mY MX0_putWord).cls (mY MX0_putWord) (mY MX0_putWord) ∈ ws0 := tb0 3 rfl rfl
set_option maxRecDepth 100000 in
theorem pdX1_init : Cond.code (mY MX1_init) (mC MX1_init) (mN MX1_init) (mR MX1_init) ∈ ws0 ∧ Cond.initialized (mY MX1_init).cls ∈ ws0 ∧ ((mY MX1_init).cls ≠ "java/lang/invoke/MethodHandle" ∧ (mY MX1_init).cls ≠ "java/lang/invoke/VarHandle") ∧ (parseMethodDescriptor (mY MX1_init).desc).map (fun d => d.parameters.length) = some 4 := ⟨tb1 70 rfl rfl, iiX1, neX1, (by decide +kernel)⟩
set_option maxRecDepth 100000 in
theorem imX1_init : Cond.instanceMethod yX1_init ∈ ws0 := tb1 69 rfl rfl
set_option maxRecDepth 100000 in
theorem pdX1_clear : Cond.code (mY MX1_clear) (mC MX1_clear) (mN MX1_clear) (mR MX1_clear) ∈ ws0 ∧ Cond.initialized (mY MX1_clear).cls ∈ ws0 ∧ ((mY MX1_clear).cls ≠ "java/lang/invoke/MethodHandle" ∧ (mY MX1_clear).cls ≠ "java/lang/invoke/VarHandle") ∧ (parseMethodDescriptor (mY MX1_clear).desc).map (fun d => d.parameters.length) = some 0 := ⟨tb3 29 rfl rfl, iiX1, neX1, (by decide +kernel)⟩
set_option maxRecDepth 100000 in
theorem imX1_clear : Cond.instanceMethod yX1_clear ∈ ws0 := tb3 27 rfl rfl
set_option maxRecDepth 100000 in
theorem seX1_clear : Cond.selects (mY MX1_clear).cls (mY MX1_clear) (mY MX1_clear) ∈ ws0 := tb3 28 rfl rfl
set_option maxRecDepth 100000 in
theorem pdX1_begin : Cond.code (mY MX1_begin) (mC MX1_begin) (mN MX1_begin) (mR MX1_begin) ∈ ws0 ∧ Cond.initialized (mY MX1_begin).cls ∈ ws0 ∧ ((mY MX1_begin).cls ≠ "java/lang/invoke/MethodHandle" ∧ (mY MX1_begin).cls ≠ "java/lang/invoke/VarHandle") ∧ (parseMethodDescriptor (mY MX1_begin).desc).map (fun d => d.parameters.length) = some 0 := ⟨tb2 81 rfl rfl, iiX1, neX1, (by decide +kernel)⟩
set_option maxRecDepth 100000 in
theorem imX1_begin : Cond.instanceMethod yX1_begin ∈ ws0 := tb2 79 rfl rfl
set_option maxRecDepth 100000 in
theorem seX1_begin : Cond.selects (mY MX1_begin).cls (mY MX1_begin) (mY MX1_begin) ∈ ws0 := tb2 80 rfl rfl
set_option maxRecDepth 100000 in
theorem pdX1_hasBegun : Cond.code (mY MX1_hasBegun) (mC MX1_hasBegun) (mN MX1_hasBegun) (mR MX1_hasBegun) ∈ ws0 ∧ Cond.initialized (mY MX1_hasBegun).cls ∈ ws0 ∧ ((mY MX1_hasBegun).cls ≠ "java/lang/invoke/MethodHandle" ∧ (mY MX1_hasBegun).cls ≠ "java/lang/invoke/VarHandle") ∧ (parseMethodDescriptor (mY MX1_hasBegun).desc).map (fun d => d.parameters.length) = some 0 := ⟨tb2 61 rfl rfl, iiX1, neX1, (by decide +kernel)⟩
set_option maxRecDepth 100000 in
theorem imX1_hasBegun : Cond.instanceMethod yX1_hasBegun ∈ ws0 := tb2 59 rfl rfl
set_option maxRecDepth 100000 in
theorem seX1_hasBegun : Cond.selects (mY MX1_hasBegun).cls (mY MX1_hasBegun) (mY MX1_hasBegun) ∈ ws0 := tb2 60 rfl rfl
set_option maxRecDepth 100000 in
theorem pdX1_hasBothPrimes : Cond.code (mY MX1_hasBothPrimes) (mC MX1_hasBothPrimes) (mN MX1_hasBothPrimes) (mR MX1_hasBothPrimes) ∈ ws0 ∧ Cond.initialized (mY MX1_hasBothPrimes).cls ∈ ws0 ∧ ((mY MX1_hasBothPrimes).cls ≠ "java/lang/invoke/MethodHandle" ∧ (mY MX1_hasBothPrimes).cls ≠ "java/lang/invoke/VarHandle") ∧ (parseMethodDescriptor (mY MX1_hasBothPrimes).desc).map (fun d => d.parameters.length) = some 0 := ⟨tb2 212 rfl rfl, iiX1, neX1, (by decide +kernel)⟩
set_option maxRecDepth 100000 in
theorem imX1_hasBothPrimes : Cond.instanceMethod yX1_hasBothPrimes ∈ ws0 := tb2 210 rfl rfl
set_option maxRecDepth 100000 in
theorem seX1_hasBothPrimes : Cond.selects (mY MX1_hasBothPrimes).cls (mY MX1_hasBothPrimes) (mY MX1_hasBothPrimes) ∈ ws0 := tb2 211 rfl rfl
set_option maxRecDepth 100000 in
theorem pdX1_firstPrime : Cond.code (mY MX1_firstPrime) (mC MX1_firstPrime) (mN MX1_firstPrime) (mR MX1_firstPrime) ∈ ws0 ∧ Cond.initialized (mY MX1_firstPrime).cls ∈ ws0 ∧ ((mY MX1_firstPrime).cls ≠ "java/lang/invoke/MethodHandle" ∧ (mY MX1_firstPrime).cls ≠ "java/lang/invoke/VarHandle") ∧ (parseMethodDescriptor (mY MX1_firstPrime).desc).map (fun d => d.parameters.length) = some 0 := ⟨tb2 216 rfl rfl, iiX1, neX1, (by decide +kernel)⟩
set_option maxRecDepth 100000 in
theorem imX1_firstPrime : Cond.instanceMethod yX1_firstPrime ∈ ws0 := tb2 214 rfl rfl
set_option maxRecDepth 100000 in
theorem seX1_firstPrime : Cond.selects (mY MX1_firstPrime).cls (mY MX1_firstPrime) (mY MX1_firstPrime) ∈ ws0 := tb2 215 rfl rfl
set_option maxRecDepth 100000 in
theorem pdX1_secondPrime : Cond.code (mY MX1_secondPrime) (mC MX1_secondPrime) (mN MX1_secondPrime) (mR MX1_secondPrime) ∈ ws0 ∧ Cond.initialized (mY MX1_secondPrime).cls ∈ ws0 ∧ ((mY MX1_secondPrime).cls ≠ "java/lang/invoke/MethodHandle" ∧ (mY MX1_secondPrime).cls ≠ "java/lang/invoke/VarHandle") ∧ (parseMethodDescriptor (mY MX1_secondPrime).desc).map (fun d => d.parameters.length) = some 0 := ⟨tb2 220 rfl rfl, iiX1, neX1, (by decide +kernel)⟩
set_option maxRecDepth 100000 in
theorem imX1_secondPrime : Cond.instanceMethod yX1_secondPrime ∈ ws0 := tb2 218 rfl rfl
set_option maxRecDepth 100000 in
theorem seX1_secondPrime : Cond.selects (mY MX1_secondPrime).cls (mY MX1_secondPrime) (mY MX1_secondPrime) ∈ ws0 := tb2 219 rfl rfl
set_option maxRecDepth 100000 in
theorem pdX1_examinedCount : Cond.code (mY MX1_examinedCount) (mC MX1_examinedCount) (mN MX1_examinedCount) (mR MX1_examinedCount) ∈ ws0 ∧ Cond.initialized (mY MX1_examinedCount).cls ∈ ws0 ∧ ((mY MX1_examinedCount).cls ≠ "java/lang/invoke/MethodHandle" ∧ (mY MX1_examinedCount).cls ≠ "java/lang/invoke/VarHandle") ∧ (parseMethodDescriptor (mY MX1_examinedCount).desc).map (fun d => d.parameters.length) = some 0 := ⟨tb3 21 rfl rfl, iiX1, neX1, (by decide +kernel)⟩
set_option maxRecDepth 100000 in
theorem imX1_examinedCount : Cond.instanceMethod yX1_examinedCount ∈ ws0 := tb3 19 rfl rfl
set_option maxRecDepth 100000 in
theorem seX1_examinedCount : Cond.selects (mY MX1_examinedCount).cls (mY MX1_examinedCount) (mY MX1_examinedCount) ∈ ws0 := tb3 20 rfl rfl
set_option maxRecDepth 100000 in
theorem pdX1_undividedCount : Cond.code (mY MX1_undividedCount) (mC MX1_undividedCount) (mN MX1_undividedCount) (mR MX1_undividedCount) ∈ ws0 ∧ Cond.initialized (mY MX1_undividedCount).cls ∈ ws0 ∧ ((mY MX1_undividedCount).cls ≠ "java/lang/invoke/MethodHandle" ∧ (mY MX1_undividedCount).cls ≠ "java/lang/invoke/VarHandle") ∧ (parseMethodDescriptor (mY MX1_undividedCount).desc).map (fun d => d.parameters.length) = some 0 := ⟨tb3 60 rfl rfl, iiX1, neX1, (by decide +kernel)⟩
set_option maxRecDepth 100000 in
theorem imX1_undividedCount : Cond.instanceMethod yX1_undividedCount ∈ ws0 := tb3 58 rfl rfl
set_option maxRecDepth 100000 in
theorem seX1_undividedCount : Cond.selects (mY MX1_undividedCount).cls (mY MX1_undividedCount) (mY MX1_undividedCount) ∈ ws0 := tb3 59 rfl rfl
set_option maxRecDepth 100000 in
theorem pdX1_examineNext : Cond.code (mY MX1_examineNext) (mC MX1_examineNext) (mN MX1_examineNext) (mR MX1_examineNext) ∈ ws0 ∧ Cond.initialized (mY MX1_examineNext).cls ∈ ws0 ∧ ((mY MX1_examineNext).cls ≠ "java/lang/invoke/MethodHandle" ∧ (mY MX1_examineNext).cls ≠ "java/lang/invoke/VarHandle") ∧ (parseMethodDescriptor (mY MX1_examineNext).desc).map (fun d => d.parameters.length) = some 0 := ⟨tb2 89 rfl rfl, iiX1, neX1, (by decide +kernel)⟩
set_option maxRecDepth 100000 in
theorem imX1_examineNext : Cond.instanceMethod yX1_examineNext ∈ ws0 := tb2 87 rfl rfl
set_option maxRecDepth 100000 in
theorem seX1_examineNext : Cond.selects (mY MX1_examineNext).cls (mY MX1_examineNext) (mY MX1_examineNext) ∈ ws0 := tb2 88 rfl rfl
set_option maxRecDepth 100000 in
theorem pdX1_drawCandidate : Cond.code (mY MX1_drawCandidate) (mC MX1_drawCandidate) (mN MX1_drawCandidate) (mR MX1_drawCandidate) ∈ ws0 ∧ Cond.initialized (mY MX1_drawCandidate).cls ∈ ws0 ∧ ((mY MX1_drawCandidate).cls ≠ "java/lang/invoke/MethodHandle" ∧ (mY MX1_drawCandidate).cls ≠ "java/lang/invoke/VarHandle") ∧ (parseMethodDescriptor (mY MX1_drawCandidate).desc).map (fun d => d.parameters.length) = some 0 := ⟨tb2 93 rfl rfl, iiX1, neX1, (by decide +kernel)⟩
set_option maxRecDepth 100000 in
theorem imX1_drawCandidate : Cond.instanceMethod yX1_drawCandidate ∈ ws0 := tb2 92 rfl rfl
set_option maxRecDepth 100000 in
theorem seX1_drawCandidate : Cond.selects (mY MX1_drawCandidate).cls (mY MX1_drawCandidate) (mY MX1_drawCandidate) ∈ ws0 := tb0 4 rfl rfl
set_option maxRecDepth 100000 in
theorem pdX1_hasSmallDivisor : Cond.code (mY MX1_hasSmallDivisor) (mC MX1_hasSmallDivisor) (mN MX1_hasSmallDivisor) (mR MX1_hasSmallDivisor) ∈ ws0 ∧ Cond.initialized (mY MX1_hasSmallDivisor).cls ∈ ws0 ∧ ((mY MX1_hasSmallDivisor).cls ≠ "java/lang/invoke/MethodHandle" ∧ (mY MX1_hasSmallDivisor).cls ≠ "java/lang/invoke/VarHandle") ∧ (parseMethodDescriptor (mY MX1_hasSmallDivisor).desc).map (fun d => d.parameters.length) = some 0 := ⟨tb2 111 rfl rfl, iiX1, neX1, (by decide +kernel)⟩
set_option maxRecDepth 100000 in
theorem imX1_hasSmallDivisor : Cond.instanceMethod yX1_hasSmallDivisor ∈ ws0 := tb2 110 rfl rfl
set_option maxRecDepth 100000 in
theorem seX1_hasSmallDivisor : Cond.selects (mY MX1_hasSmallDivisor).cls (mY MX1_hasSmallDivisor) (mY MX1_hasSmallDivisor) ∈ ws0 := tb0 5 rfl rfl
set_option maxRecDepth 100000 in
theorem pdX1_isGood : Cond.code (mY MX1_isGood) (mC MX1_isGood) (mN MX1_isGood) (mR MX1_isGood) ∈ ws0 ∧ Cond.initialized (mY MX1_isGood).cls ∈ ws0 ∧ ((mY MX1_isGood).cls ≠ "java/lang/invoke/MethodHandle" ∧ (mY MX1_isGood).cls ≠ "java/lang/invoke/VarHandle") ∧ (parseMethodDescriptor (mY MX1_isGood).desc).map (fun d => d.parameters.length) = some 0 := ⟨tb2 120 rfl rfl, iiX1, neX1, (by decide +kernel)⟩
set_option maxRecDepth 100000 in
theorem imX1_isGood : Cond.instanceMethod yX1_isGood ∈ ws0 := tb2 119 rfl rfl
set_option maxRecDepth 100000 in
theorem seX1_isGood : Cond.selects (mY MX1_isGood).cls (mY MX1_isGood) (mY MX1_isGood) ∈ ws0 := tb0 6 rfl rfl
set_option maxRecDepth 100000 in
theorem pdX1_passes : Cond.code (mY MX1_passes) (mC MX1_passes) (mN MX1_passes) (mR MX1_passes) ∈ ws0 ∧ Cond.initialized (mY MX1_passes).cls ∈ ws0 ∧ ((mY MX1_passes).cls ≠ "java/lang/invoke/MethodHandle" ∧ (mY MX1_passes).cls ≠ "java/lang/invoke/VarHandle") ∧ (parseMethodDescriptor (mY MX1_passes).desc).map (fun d => d.parameters.length) = some 2 := ⟨tb2 169 rfl rfl, iiX1, neX1, (by decide +kernel)⟩
set_option maxRecDepth 100000 in
theorem imX1_passes : Cond.instanceMethod yX1_passes ∈ ws0 := tb2 168 rfl rfl
set_option maxRecDepth 100000 in
theorem seX1_passes : Cond.selects (mY MX1_passes).cls (mY MX1_passes) (mY MX1_passes) ∈ ws0 := tb0 9 rfl rfl
set_option maxRecDepth 100000 in
theorem pdX2_init : Cond.code (mY MX2_init) (mC MX2_init) (mN MX2_init) (mR MX2_init) ∈ ws0 ∧ Cond.initialized (mY MX2_init).cls ∈ ws0 ∧ ((mY MX2_init).cls ≠ "java/lang/invoke/MethodHandle" ∧ (mY MX2_init).cls ≠ "java/lang/invoke/VarHandle") ∧ (parseMethodDescriptor (mY MX2_init).desc).map (fun d => d.parameters.length) = some 1 := ⟨tb1 156 rfl rfl, iiX2, neX2, (by decide +kernel)⟩
set_option maxRecDepth 100000 in
theorem imX2_init : Cond.instanceMethod yX2_init ∈ ws0 := tb1 155 rfl rfl
set_option maxRecDepth 100000 in
theorem pdX2_clear : Cond.code (mY MX2_clear) (mC MX2_clear) (mN MX2_clear) (mR MX2_clear) ∈ ws0 ∧ Cond.initialized (mY MX2_clear).cls ∈ ws0 ∧ ((mY MX2_clear).cls ≠ "java/lang/invoke/MethodHandle" ∧ (mY MX2_clear).cls ≠ "java/lang/invoke/VarHandle") ∧ (parseMethodDescriptor (mY MX2_clear).desc).map (fun d => d.parameters.length) = some 0 := ⟨tb3 33 rfl rfl, iiX2, neX2, (by decide +kernel)⟩
set_option maxRecDepth 100000 in
theorem imX2_clear : Cond.instanceMethod yX2_clear ∈ ws0 := tb3 31 rfl rfl
set_option maxRecDepth 100000 in
theorem seX2_clear : Cond.selects (mY MX2_clear).cls (mY MX2_clear) (mY MX2_clear) ∈ ws0 := tb3 32 rfl rfl
set_option maxRecDepth 100000 in
theorem pdX2_stand : Cond.code (mY MX2_stand) (mC MX2_stand) (mN MX2_stand) (mR MX2_stand) ∈ ws0 ∧ Cond.initialized (mY MX2_stand).cls ∈ ws0 ∧ ((mY MX2_stand).cls ≠ "java/lang/invoke/MethodHandle" ∧ (mY MX2_stand).cls ≠ "java/lang/invoke/VarHandle") ∧ (parseMethodDescriptor (mY MX2_stand).desc).map (fun d => d.parameters.length) = some 0 := ⟨tb2 85 rfl rfl, iiX2, neX2, (by decide +kernel)⟩
set_option maxRecDepth 100000 in
theorem imX2_stand : Cond.instanceMethod yX2_stand ∈ ws0 := tb2 83 rfl rfl
set_option maxRecDepth 100000 in
theorem seX2_stand : Cond.selects (mY MX2_stand).cls (mY MX2_stand) (mY MX2_stand) ∈ ws0 := tb2 84 rfl rfl
set_option maxRecDepth 100000 in
theorem pdX2_part : Cond.code (mY MX2_part) (mC MX2_part) (mN MX2_part) (mR MX2_part) ∈ ws0 ∧ Cond.initialized (mY MX2_part).cls ∈ ws0 ∧ ((mY MX2_part).cls ≠ "java/lang/invoke/MethodHandle" ∧ (mY MX2_part).cls ≠ "java/lang/invoke/VarHandle") ∧ (parseMethodDescriptor (mY MX2_part).desc).map (fun d => d.parameters.length) = some 1 := ⟨tb3 49 rfl rfl, iiX2, neX2, (by decide +kernel)⟩
set_option maxRecDepth 100000 in
theorem imX2_part : Cond.instanceMethod yX2_part ∈ ws0 := tb3 47 rfl rfl
set_option maxRecDepth 100000 in
theorem seX2_part : Cond.selects (mY MX2_part).cls (mY MX2_part) (mY MX2_part) ∈ ws0 := tb3 48 rfl rfl
set_option maxRecDepth 100000 in
theorem pdX2_make : Cond.code (mY MX2_make) (mC MX2_make) (mN MX2_make) (mR MX2_make) ∈ ws0 ∧ Cond.initialized (mY MX2_make).cls ∈ ws0 ∧ ((mY MX2_make).cls ≠ "java/lang/invoke/MethodHandle" ∧ (mY MX2_make).cls ≠ "java/lang/invoke/VarHandle") ∧ (parseMethodDescriptor (mY MX2_make).desc).map (fun d => d.parameters.length) = some 2 := ⟨tb2 224 rfl rfl, iiX2, neX2, (by decide +kernel)⟩
set_option maxRecDepth 100000 in
theorem imX2_make : Cond.instanceMethod yX2_make ∈ ws0 := tb2 222 rfl rfl
set_option maxRecDepth 100000 in
theorem seX2_make : Cond.selects (mY MX2_make).cls (mY MX2_make) (mY MX2_make) ∈ ws0 := tb2 223 rfl rfl
set_option maxRecDepth 100000 in
theorem pdX2_findPrivateNumbers : Cond.code (mY MX2_findPrivateNumbers) (mC MX2_findPrivateNumbers) (mN MX2_findPrivateNumbers) (mR MX2_findPrivateNumbers) ∈ ws0 ∧ Cond.initialized (mY MX2_findPrivateNumbers).cls ∈ ws0 ∧ ((mY MX2_findPrivateNumbers).cls ≠ "java/lang/invoke/MethodHandle" ∧ (mY MX2_findPrivateNumbers).cls ≠ "java/lang/invoke/VarHandle") ∧ (parseMethodDescriptor (mY MX2_findPrivateNumbers).desc).map (fun d => d.parameters.length) = some 0 := ⟨tb2 235 rfl rfl, iiX2, neX2, (by decide +kernel)⟩
set_option maxRecDepth 100000 in
theorem imX2_findPrivateNumbers : Cond.instanceMethod yX2_findPrivateNumbers ∈ ws0 := tb2 234 rfl rfl
set_option maxRecDepth 100000 in
theorem seX2_findPrivateNumbers : Cond.selects (mY MX2_findPrivateNumbers).cls (mY MX2_findPrivateNumbers) (mY MX2_findPrivateNumbers) ∈ ws0 := tb0 13 rfl rfl
set_option maxRecDepth 100000 in
theorem pdX2_findInverseOfQ : Cond.code (mY MX2_findInverseOfQ) (mC MX2_findInverseOfQ) (mN MX2_findInverseOfQ) (mR MX2_findInverseOfQ) ∈ ws0 ∧ Cond.initialized (mY MX2_findInverseOfQ).cls ∈ ws0 ∧ ((mY MX2_findInverseOfQ).cls ≠ "java/lang/invoke/MethodHandle" ∧ (mY MX2_findInverseOfQ).cls ≠ "java/lang/invoke/VarHandle") ∧ (parseMethodDescriptor (mY MX2_findInverseOfQ).desc).map (fun d => d.parameters.length) = some 0 := ⟨tb3 11 rfl rfl, iiX2, neX2, (by decide +kernel)⟩
set_option maxRecDepth 100000 in
theorem imX2_findInverseOfQ : Cond.instanceMethod yX2_findInverseOfQ ∈ ws0 := tb3 10 rfl rfl
set_option maxRecDepth 100000 in
theorem seX2_findInverseOfQ : Cond.selects (mY MX2_findInverseOfQ).cls (mY MX2_findInverseOfQ) (mY MX2_findInverseOfQ) ∈ ws0 := tb0 15 rfl rfl
set_option maxRecDepth 100000 in
theorem pdX2_invertE : Cond.code (mY MX2_invertE) (mC MX2_invertE) (mN MX2_invertE) (mR MX2_invertE) ∈ ws0 ∧ Cond.initialized (mY MX2_invertE).cls ∈ ws0 ∧ ((mY MX2_invertE).cls ≠ "java/lang/invoke/MethodHandle" ∧ (mY MX2_invertE).cls ≠ "java/lang/invoke/VarHandle") ∧ (parseMethodDescriptor (mY MX2_invertE).desc).map (fun d => d.parameters.length) = some 2 := ⟨tb3 0 rfl rfl, iiX2, neX2, (by decide +kernel)⟩
set_option maxRecDepth 100000 in
theorem imX2_invertE : Cond.instanceMethod yX2_invertE ∈ ws0 := tb2 239 rfl rfl
set_option maxRecDepth 100000 in
theorem seX2_invertE : Cond.selects (mY MX2_invertE).cls (mY MX2_invertE) (mY MX2_invertE) ∈ ws0 := tb0 14 rfl rfl
set_option maxRecDepth 100000 in
theorem pdX2_inverseByE : Cond.code (mY MX2_inverseByE) (mC MX2_inverseByE) (mN MX2_inverseByE) (mR MX2_inverseByE) ∈ ws0 ∧ Cond.initialized (mY MX2_inverseByE).cls ∈ ws0 ∧ ((mY MX2_inverseByE).cls ≠ "java/lang/invoke/MethodHandle" ∧ (mY MX2_inverseByE).cls ≠ "java/lang/invoke/VarHandle") ∧ (parseMethodDescriptor (mY MX2_inverseByE).desc).map (fun d => d.parameters.length) = some 1 := ⟨tb3 6 rfl rfl, iiX2, neX2, (by decide +kernel)⟩
set_option maxRecDepth 100000 in
theorem imX2_inverseByE : Cond.static yX2_inverseByE ∈ ws0 := tb3 5 rfl rfl
set_option maxRecDepth 100000 in
theorem pdX2_isBelowN : Cond.code (mY MX2_isBelowN) (mC MX2_isBelowN) (mN MX2_isBelowN) (mR MX2_isBelowN) ∈ ws0 ∧ Cond.initialized (mY MX2_isBelowN).cls ∈ ws0 ∧ ((mY MX2_isBelowN).cls ≠ "java/lang/invoke/MethodHandle" ∧ (mY MX2_isBelowN).cls ≠ "java/lang/invoke/VarHandle") ∧ (parseMethodDescriptor (mY MX2_isBelowN).desc).map (fun d => d.parameters.length) = some 1 := ⟨tb3 129 rfl rfl, iiX2, neX2, (by decide +kernel)⟩
set_option maxRecDepth 100000 in
theorem imX2_isBelowN : Cond.instanceMethod yX2_isBelowN ∈ ws0 := tb3 127 rfl rfl
set_option maxRecDepth 100000 in
theorem seX2_isBelowN : Cond.selects (mY MX2_isBelowN).cls (mY MX2_isBelowN) (mY MX2_isBelowN) ∈ ws0 := tb3 128 rfl rfl
set_option maxRecDepth 100000 in
theorem pdX2_raisePublic : Cond.code (mY MX2_raisePublic) (mC MX2_raisePublic) (mN MX2_raisePublic) (mR MX2_raisePublic) ∈ ws0 ∧ Cond.initialized (mY MX2_raisePublic).cls ∈ ws0 ∧ ((mY MX2_raisePublic).cls ≠ "java/lang/invoke/MethodHandle" ∧ (mY MX2_raisePublic).cls ≠ "java/lang/invoke/VarHandle") ∧ (parseMethodDescriptor (mY MX2_raisePublic).desc).map (fun d => d.parameters.length) = some 2 := ⟨tb3 133 rfl rfl, iiX2, neX2, (by decide +kernel)⟩
set_option maxRecDepth 100000 in
theorem imX2_raisePublic : Cond.instanceMethod yX2_raisePublic ∈ ws0 := tb3 131 rfl rfl
set_option maxRecDepth 100000 in
theorem seX2_raisePublic : Cond.selects (mY MX2_raisePublic).cls (mY MX2_raisePublic) (mY MX2_raisePublic) ∈ ws0 := tb3 132 rfl rfl
set_option maxRecDepth 100000 in
theorem pdX2_raisePrivate : Cond.code (mY MX2_raisePrivate) (mC MX2_raisePrivate) (mN MX2_raisePrivate) (mR MX2_raisePrivate) ∈ ws0 ∧ Cond.initialized (mY MX2_raisePrivate).cls ∈ ws0 ∧ ((mY MX2_raisePrivate).cls ≠ "java/lang/invoke/MethodHandle" ∧ (mY MX2_raisePrivate).cls ≠ "java/lang/invoke/VarHandle") ∧ (parseMethodDescriptor (mY MX2_raisePrivate).desc).map (fun d => d.parameters.length) = some 2 := ⟨tb3 144 rfl rfl, iiX2, neX2, (by decide +kernel)⟩
set_option maxRecDepth 100000 in
theorem imX2_raisePrivate : Cond.instanceMethod yX2_raisePrivate ∈ ws0 := tb3 142 rfl rfl
set_option maxRecDepth 100000 in
theorem seX2_raisePrivate : Cond.selects (mY MX2_raisePrivate).cls (mY MX2_raisePrivate) (mY MX2_raisePrivate) ∈ ws0 := tb3 143 rfl rfl
set_option maxRecDepth 100000 in
theorem pdX2_makeSignature : Cond.code (mY MX2_makeSignature) (mC MX2_makeSignature) (mN MX2_makeSignature) (mR MX2_makeSignature) ∈ ws0 ∧ Cond.initialized (mY MX2_makeSignature).cls ∈ ws0 ∧ ((mY MX2_makeSignature).cls ≠ "java/lang/invoke/MethodHandle" ∧ (mY MX2_makeSignature).cls ≠ "java/lang/invoke/VarHandle") ∧ (parseMethodDescriptor (mY MX2_makeSignature).desc).map (fun d => d.parameters.length) = some 2 := ⟨tb3 112 rfl rfl, iiX2, neX2, (by decide +kernel)⟩
set_option maxRecDepth 100000 in
theorem imX2_makeSignature : Cond.instanceMethod yX2_makeSignature ∈ ws0 := tb3 110 rfl rfl
set_option maxRecDepth 100000 in
theorem seX2_makeSignature : Cond.selects (mY MX2_makeSignature).cls (mY MX2_makeSignature) (mY MX2_makeSignature) ∈ ws0 := tb3 111 rfl rfl
set_option maxRecDepth 100000 in
theorem pdX3_init : Cond.code (mY MX3_init) (mC MX3_init) (mN MX3_init) (mR MX3_init) ∈ ws0 ∧ Cond.initialized (mY MX3_init).cls ∈ ws0 ∧ ((mY MX3_init).cls ≠ "java/lang/invoke/MethodHandle" ∧ (mY MX3_init).cls ≠ "java/lang/invoke/VarHandle") ∧ (parseMethodDescriptor (mY MX3_init).desc).map (fun d => d.parameters.length) = some 0 := ⟨tb1 217 rfl rfl, iiX3, neX3, (by decide +kernel)⟩
set_option maxRecDepth 100000 in
theorem imX3_init : Cond.instanceMethod yX3_init ∈ ws0 := tb1 216 rfl rfl
set_option maxRecDepth 100000 in
theorem pdX3_byteCount : Cond.code (mY MX3_byteCount) (mC MX3_byteCount) (mN MX3_byteCount) (mR MX3_byteCount) ∈ ws0 ∧ Cond.initialized (mY MX3_byteCount).cls ∈ ws0 ∧ ((mY MX3_byteCount).cls ≠ "java/lang/invoke/MethodHandle" ∧ (mY MX3_byteCount).cls ≠ "java/lang/invoke/VarHandle") ∧ (parseMethodDescriptor (mY MX3_byteCount).desc).map (fun d => d.parameters.length) = some 0 := ⟨tb3 64 rfl rfl, iiX3, neX3, (by decide +kernel)⟩
set_option maxRecDepth 100000 in
theorem imX3_byteCount : Cond.instanceMethod yX3_byteCount ∈ ws0 := tb3 62 rfl rfl
set_option maxRecDepth 100000 in
theorem seX3_byteCount : Cond.selects (mY MX3_byteCount).cls (mY MX3_byteCount) (mY MX3_byteCount) ∈ ws0 := tb3 63 rfl rfl
set_option maxRecDepth 100000 in
theorem pdX3_append : Cond.code (mY MX3_append) (mC MX3_append) (mN MX3_append) (mR MX3_append) ∈ ws0 ∧ Cond.initialized (mY MX3_append).cls ∈ ws0 ∧ ((mY MX3_append).cls ≠ "java/lang/invoke/MethodHandle" ∧ (mY MX3_append).cls ≠ "java/lang/invoke/VarHandle") ∧ (parseMethodDescriptor (mY MX3_append).desc).map (fun d => d.parameters.length) = some 2 := ⟨tb3 72 rfl rfl, iiX3, neX3, (by decide +kernel)⟩
set_option maxRecDepth 100000 in
theorem imX3_append : Cond.instanceMethod yX3_append ∈ ws0 := tb3 70 rfl rfl
set_option maxRecDepth 100000 in
theorem seX3_append : Cond.selects (mY MX3_append).cls (mY MX3_append) (mY MX3_append) ∈ ws0 := tb3 71 rfl rfl
set_option maxRecDepth 100000 in
theorem pdX3_keepFirst : Cond.code (mY MX3_keepFirst) (mC MX3_keepFirst) (mN MX3_keepFirst) (mR MX3_keepFirst) ∈ ws0 ∧ Cond.initialized (mY MX3_keepFirst).cls ∈ ws0 ∧ ((mY MX3_keepFirst).cls ≠ "java/lang/invoke/MethodHandle" ∧ (mY MX3_keepFirst).cls ≠ "java/lang/invoke/VarHandle") ∧ (parseMethodDescriptor (mY MX3_keepFirst).desc).map (fun d => d.parameters.length) = some 1 := ⟨tb3 80 rfl rfl, iiX3, neX3, (by decide +kernel)⟩
set_option maxRecDepth 100000 in
theorem imX3_keepFirst : Cond.instanceMethod yX3_keepFirst ∈ ws0 := tb3 78 rfl rfl
set_option maxRecDepth 100000 in
theorem seX3_keepFirst : Cond.selects (mY MX3_keepFirst).cls (mY MX3_keepFirst) (mY MX3_keepFirst) ∈ ws0 := tb3 79 rfl rfl
set_option maxRecDepth 100000 in
theorem pdX3_hashByte : Cond.code (mY MX3_hashByte) (mC MX3_hashByte) (mN MX3_hashByte) (mR MX3_hashByte) ∈ ws0 ∧ Cond.initialized (mY MX3_hashByte).cls ∈ ws0 ∧ ((mY MX3_hashByte).cls ≠ "java/lang/invoke/MethodHandle" ∧ (mY MX3_hashByte).cls ≠ "java/lang/invoke/VarHandle") ∧ (parseMethodDescriptor (mY MX3_hashByte).desc).map (fun d => d.parameters.length) = some 1 := ⟨tb3 88 rfl rfl, iiX3, neX3, (by decide +kernel)⟩
set_option maxRecDepth 100000 in
theorem imX3_hashByte : Cond.instanceMethod yX3_hashByte ∈ ws0 := tb3 86 rfl rfl
set_option maxRecDepth 100000 in
theorem seX3_hashByte : Cond.selects (mY MX3_hashByte).cls (mY MX3_hashByte) (mY MX3_hashByte) ∈ ws0 := tb3 87 rfl rfl
set_option maxRecDepth 100000 in
theorem pdX3_makeHash : Cond.code (mY MX3_makeHash) (mC MX3_makeHash) (mN MX3_makeHash) (mR MX3_makeHash) ∈ ws0 ∧ Cond.initialized (mY MX3_makeHash).cls ∈ ws0 ∧ ((mY MX3_makeHash).cls ≠ "java/lang/invoke/MethodHandle" ∧ (mY MX3_makeHash).cls ≠ "java/lang/invoke/VarHandle") ∧ (parseMethodDescriptor (mY MX3_makeHash).desc).map (fun d => d.parameters.length) = some 0 := ⟨tb1 224 rfl rfl, iiX3, neX3, (by decide +kernel)⟩
set_option maxRecDepth 100000 in
theorem imX3_makeHash : Cond.instanceMethod yX3_makeHash ∈ ws0 := tb1 223 rfl rfl
set_option maxRecDepth 100000 in
theorem seX3_makeHash : Cond.selects (mY MX3_makeHash).cls (mY MX3_makeHash) (mY MX3_makeHash) ∈ ws0 := tb0 0 rfl rfl
set_option maxRecDepth 100000 in
theorem pdX4_init : Cond.code (mY MX4_init) (mC MX4_init) (mN MX4_init) (mR MX4_init) ∈ ws0 ∧ Cond.initialized (mY MX4_init).cls ∈ ws0 ∧ ((mY MX4_init).cls ≠ "java/lang/invoke/MethodHandle" ∧ (mY MX4_init).cls ≠ "java/lang/invoke/VarHandle") ∧ (parseMethodDescriptor (mY MX4_init).desc).map (fun d => d.parameters.length) = some 1 := ⟨tb1 77 rfl rfl, iiX4, neX4, (by decide +kernel)⟩
set_option maxRecDepth 100000 in
theorem imX4_init : Cond.instanceMethod yX4_init ∈ ws0 := tb1 76 rfl rfl
set_option maxRecDepth 100000 in
theorem pdX4_choose : Cond.code (mY MX4_choose) (mC MX4_choose) (mN MX4_choose) (mR MX4_choose) ∈ ws0 ∧ Cond.initialized (mY MX4_choose).cls ∈ ws0 ∧ ((mY MX4_choose).cls ≠ "java/lang/invoke/MethodHandle" ∧ (mY MX4_choose).cls ≠ "java/lang/invoke/VarHandle") ∧ (parseMethodDescriptor (mY MX4_choose).desc).map (fun d => d.parameters.length) = some 1 := ⟨tb2 145 rfl rfl, iiX4, neX4, (by decide +kernel)⟩
set_option maxRecDepth 100000 in
theorem imX4_choose : Cond.instanceMethod yX4_choose ∈ ws0 := tb2 143 rfl rfl
set_option maxRecDepth 100000 in
theorem seX4_choose : Cond.selects (mY MX4_choose).cls (mY MX4_choose) (mY MX4_choose) ∈ ws0 := tb2 144 rfl rfl
set_option maxRecDepth 100000 in
theorem pdX4_inverseOfLowLimb : Cond.code (mY MX4_inverseOfLowLimb) (mC MX4_inverseOfLowLimb) (mN MX4_inverseOfLowLimb) (mR MX4_inverseOfLowLimb) ∈ ws0 ∧ Cond.initialized (mY MX4_inverseOfLowLimb).cls ∈ ws0 ∧ ((mY MX4_inverseOfLowLimb).cls ≠ "java/lang/invoke/MethodHandle" ∧ (mY MX4_inverseOfLowLimb).cls ≠ "java/lang/invoke/VarHandle") ∧ (parseMethodDescriptor (mY MX4_inverseOfLowLimb).desc).map (fun d => d.parameters.length) = some 0 := ⟨tb2 150 rfl rfl, iiX4, neX4, (by decide +kernel)⟩
set_option maxRecDepth 100000 in
theorem imX4_inverseOfLowLimb : Cond.instanceMethod yX4_inverseOfLowLimb ∈ ws0 := tb2 149 rfl rfl
set_option maxRecDepth 100000 in
theorem seX4_inverseOfLowLimb : Cond.selects (mY MX4_inverseOfLowLimb).cls (mY MX4_inverseOfLowLimb) (mY MX4_inverseOfLowLimb) ∈ ws0 := tb0 7 rfl rfl
set_option maxRecDepth 100000 in
theorem pdX4_reduce : Cond.code (mY MX4_reduce) (mC MX4_reduce) (mN MX4_reduce) (mR MX4_reduce) ∈ ws0 ∧ Cond.initialized (mY MX4_reduce).cls ∈ ws0 ∧ ((mY MX4_reduce).cls ≠ "java/lang/invoke/MethodHandle" ∧ (mY MX4_reduce).cls ≠ "java/lang/invoke/VarHandle") ∧ (parseMethodDescriptor (mY MX4_reduce).desc).map (fun d => d.parameters.length) = some 2 := ⟨tb3 116 rfl rfl, iiX4, neX4, (by decide +kernel)⟩
set_option maxRecDepth 100000 in
theorem imX4_reduce : Cond.instanceMethod yX4_reduce ∈ ws0 := tb3 114 rfl rfl
set_option maxRecDepth 100000 in
theorem seX4_reduce : Cond.selects (mY MX4_reduce).cls (mY MX4_reduce) (mY MX4_reduce) ∈ ws0 := tb3 115 rfl rfl
set_option maxRecDepth 100000 in
theorem pdX4_raise : Cond.code (mY MX4_raise) (mC MX4_raise) (mN MX4_raise) (mR MX4_raise) ∈ ws0 ∧ Cond.initialized (mY MX4_raise).cls ∈ ws0 ∧ ((mY MX4_raise).cls ≠ "java/lang/invoke/MethodHandle" ∧ (mY MX4_raise).cls ≠ "java/lang/invoke/VarHandle") ∧ (parseMethodDescriptor (mY MX4_raise).desc).map (fun d => d.parameters.length) = some 3 := ⟨tb2 174 rfl rfl, iiX4, neX4, (by decide +kernel)⟩
set_option maxRecDepth 100000 in
theorem imX4_raise : Cond.instanceMethod yX4_raise ∈ ws0 := tb2 172 rfl rfl
set_option maxRecDepth 100000 in
theorem seX4_raise : Cond.selects (mY MX4_raise).cls (mY MX4_raise) (mY MX4_raise) ∈ ws0 := tb2 173 rfl rfl
set_option maxRecDepth 100000 in
theorem pdX4_times : Cond.code (mY MX4_times) (mC MX4_times) (mN MX4_times) (mR MX4_times) ∈ ws0 ∧ Cond.initialized (mY MX4_times).cls ∈ ws0 ∧ ((mY MX4_times).cls ≠ "java/lang/invoke/MethodHandle" ∧ (mY MX4_times).cls ≠ "java/lang/invoke/VarHandle") ∧ (parseMethodDescriptor (mY MX4_times).desc).map (fun d => d.parameters.length) = some 3 := ⟨tb2 208 rfl rfl, iiX4, neX4, (by decide +kernel)⟩
set_option maxRecDepth 100000 in
theorem imX4_times : Cond.instanceMethod yX4_times ∈ ws0 := tb2 206 rfl rfl
set_option maxRecDepth 100000 in
theorem seX4_times : Cond.selects (mY MX4_times).cls (mY MX4_times) (mY MX4_times) ∈ ws0 := tb2 207 rfl rfl
set_option maxRecDepth 100000 in
theorem pdX4_twice : Cond.code (mY MX4_twice) (mC MX4_twice) (mN MX4_twice) (mR MX4_twice) ∈ ws0 ∧ Cond.initialized (mY MX4_twice).cls ∈ ws0 ∧ ((mY MX4_twice).cls ≠ "java/lang/invoke/MethodHandle" ∧ (mY MX4_twice).cls ≠ "java/lang/invoke/VarHandle") ∧ (parseMethodDescriptor (mY MX4_twice).desc).map (fun d => d.parameters.length) = some 2 := ⟨tb2 159 rfl rfl, iiX4, neX4, (by decide +kernel)⟩
set_option maxRecDepth 100000 in
theorem imX4_twice : Cond.instanceMethod yX4_twice ∈ ws0 := tb2 158 rfl rfl
set_option maxRecDepth 100000 in
theorem seX4_twice : Cond.selects (mY MX4_twice).cls (mY MX4_twice) (mY MX4_twice) ∈ ws0 := tb0 8 rfl rfl
set_option maxRecDepth 100000 in
theorem pdX4_multiplyCarried : Cond.code (mY MX4_multiplyCarried) (mC MX4_multiplyCarried) (mN MX4_multiplyCarried) (mR MX4_multiplyCarried) ∈ ws0 ∧ Cond.initialized (mY MX4_multiplyCarried).cls ∈ ws0 ∧ ((mY MX4_multiplyCarried).cls ≠ "java/lang/invoke/MethodHandle" ∧ (mY MX4_multiplyCarried).cls ≠ "java/lang/invoke/VarHandle") ∧ (parseMethodDescriptor (mY MX4_multiplyCarried).desc).map (fun d => d.parameters.length) = some 3 := ⟨tb2 178 rfl rfl, iiX4, neX4, (by decide +kernel)⟩
set_option maxRecDepth 100000 in
theorem imX4_multiplyCarried : Cond.instanceMethod yX4_multiplyCarried ∈ ws0 := tb2 177 rfl rfl
set_option maxRecDepth 100000 in
theorem seX4_multiplyCarried : Cond.selects (mY MX4_multiplyCarried).cls (mY MX4_multiplyCarried) (mY MX4_multiplyCarried) ∈ ws0 := tb0 10 rfl rfl
set_option maxRecDepth 100000 in
theorem pdX4_addProduct : Cond.code (mY MX4_addProduct) (mC MX4_addProduct) (mN MX4_addProduct) (mR MX4_addProduct) ∈ ws0 ∧ Cond.initialized (mY MX4_addProduct).cls ∈ ws0 ∧ ((mY MX4_addProduct).cls ≠ "java/lang/invoke/MethodHandle" ∧ (mY MX4_addProduct).cls ≠ "java/lang/invoke/VarHandle") ∧ (parseMethodDescriptor (mY MX4_addProduct).desc).map (fun d => d.parameters.length) = some 2 := ⟨tb2 185 rfl rfl, iiX4, neX4, (by decide +kernel)⟩
set_option maxRecDepth 100000 in
theorem imX4_addProduct : Cond.instanceMethod yX4_addProduct ∈ ws0 := tb2 184 rfl rfl
set_option maxRecDepth 100000 in
theorem seX4_addProduct : Cond.selects (mY MX4_addProduct).cls (mY MX4_addProduct) (mY MX4_addProduct) ∈ ws0 := tb0 11 rfl rfl
set_option maxRecDepth 100000 in
theorem pdX4_dropLowLimb : Cond.code (mY MX4_dropLowLimb) (mC MX4_dropLowLimb) (mN MX4_dropLowLimb) (mR MX4_dropLowLimb) ∈ ws0 ∧ Cond.initialized (mY MX4_dropLowLimb).cls ∈ ws0 ∧ ((mY MX4_dropLowLimb).cls ≠ "java/lang/invoke/MethodHandle" ∧ (mY MX4_dropLowLimb).cls ≠ "java/lang/invoke/VarHandle") ∧ (parseMethodDescriptor (mY MX4_dropLowLimb).desc).map (fun d => d.parameters.length) = some 0 := ⟨tb2 189 rfl rfl, iiX4, neX4, (by decide +kernel)⟩
set_option maxRecDepth 100000 in
theorem imX4_dropLowLimb : Cond.instanceMethod yX4_dropLowLimb ∈ ws0 := tb2 188 rfl rfl
set_option maxRecDepth 100000 in
theorem seX4_dropLowLimb : Cond.selects (mY MX4_dropLowLimb).cls (mY MX4_dropLowLimb) (mY MX4_dropLowLimb) ∈ ws0 := tb0 12 rfl rfl
set_option maxRecDepth 100000 in
theorem pdX5_byteAt : Cond.code (mY MX5_byteAt) (mC MX5_byteAt) (mN MX5_byteAt) (mR MX5_byteAt) ∈ ws0 ∧ Cond.initialized (mY MX5_byteAt).cls ∈ ws0 ∧ ((mY MX5_byteAt).cls ≠ "java/lang/invoke/MethodHandle" ∧ (mY MX5_byteAt).cls ≠ "java/lang/invoke/VarHandle") ∧ (parseMethodDescriptor (mY MX5_byteAt).desc).map (fun d => d.parameters.length) = some 2 := ⟨tb3 52 rfl rfl, iiX5, neX5, (by decide +kernel)⟩
set_option maxRecDepth 100000 in
theorem imX5_byteAt : Cond.static yX5_byteAt ∈ ws0 := tb3 51 rfl rfl
set_option maxRecDepth 100000 in
theorem pdX5_putByte : Cond.code (mY MX5_putByte) (mC MX5_putByte) (mN MX5_putByte) (mR MX5_putByte) ∈ ws0 ∧ Cond.initialized (mY MX5_putByte).cls ∈ ws0 ∧ ((mY MX5_putByte).cls ≠ "java/lang/invoke/MethodHandle" ∧ (mY MX5_putByte).cls ≠ "java/lang/invoke/VarHandle") ∧ (parseMethodDescriptor (mY MX5_putByte).desc).map (fun d => d.parameters.length) = some 3 := ⟨tb2 105 rfl rfl, iiX5, neX5, (by decide +kernel)⟩
set_option maxRecDepth 100000 in
theorem imX5_putByte : Cond.static yX5_putByte ∈ ws0 := tb2 104 rfl rfl
set_option maxRecDepth 100000 in
theorem pdX5_bitAt : Cond.code (mY MX5_bitAt) (mC MX5_bitAt) (mN MX5_bitAt) (mR MX5_bitAt) ∈ ws0 ∧ Cond.initialized (mY MX5_bitAt).cls ∈ ws0 ∧ ((mY MX5_bitAt).cls ≠ "java/lang/invoke/MethodHandle" ∧ (mY MX5_bitAt).cls ≠ "java/lang/invoke/VarHandle") ∧ (parseMethodDescriptor (mY MX5_bitAt).desc).map (fun d => d.parameters.length) = some 2 := ⟨tb2 138 rfl rfl, iiX5, neX5, (by decide +kernel)⟩
set_option maxRecDepth 100000 in
theorem imX5_bitAt : Cond.static yX5_bitAt ∈ ws0 := tb2 137 rfl rfl
set_option maxRecDepth 100000 in
theorem pdX5_bitCount : Cond.code (mY MX5_bitCount) (mC MX5_bitCount) (mN MX5_bitCount) (mR MX5_bitCount) ∈ ws0 ∧ Cond.initialized (mY MX5_bitCount).cls ∈ ws0 ∧ ((mY MX5_bitCount).cls ≠ "java/lang/invoke/MethodHandle" ∧ (mY MX5_bitCount).cls ≠ "java/lang/invoke/VarHandle") ∧ (parseMethodDescriptor (mY MX5_bitCount).desc).map (fun d => d.parameters.length) = some 1 := ⟨tb2 192 rfl rfl, iiX5, neX5, (by decide +kernel)⟩
set_option maxRecDepth 100000 in
theorem imX5_bitCount : Cond.static yX5_bitCount ∈ ws0 := tb2 191 rfl rfl
set_option maxRecDepth 100000 in
theorem pdX5_copy : Cond.code (mY MX5_copy) (mC MX5_copy) (mN MX5_copy) (mR MX5_copy) ∈ ws0 ∧ Cond.initialized (mY MX5_copy).cls ∈ ws0 ∧ ((mY MX5_copy).cls ≠ "java/lang/invoke/MethodHandle" ∧ (mY MX5_copy).cls ≠ "java/lang/invoke/VarHandle") ∧ (parseMethodDescriptor (mY MX5_copy).desc).map (fun d => d.parameters.length) = some 2 := ⟨tb2 128 rfl rfl, iiX5, neX5, (by decide +kernel)⟩
set_option maxRecDepth 100000 in
theorem imX5_copy : Cond.static yX5_copy ∈ ws0 := tb2 127 rfl rfl
set_option maxRecDepth 100000 in
theorem pdX5_putSmall : Cond.code (mY MX5_putSmall) (mC MX5_putSmall) (mN MX5_putSmall) (mR MX5_putSmall) ∈ ws0 ∧ Cond.initialized (mY MX5_putSmall).cls ∈ ws0 ∧ ((mY MX5_putSmall).cls ≠ "java/lang/invoke/MethodHandle" ∧ (mY MX5_putSmall).cls ≠ "java/lang/invoke/VarHandle") ∧ (parseMethodDescriptor (mY MX5_putSmall).desc).map (fun d => d.parameters.length) = some 2 := ⟨tb2 155 rfl rfl, iiX5, neX5, (by decide +kernel)⟩
set_option maxRecDepth 100000 in
theorem imX5_putSmall : Cond.static yX5_putSmall ∈ ws0 := tb2 154 rfl rfl
set_option maxRecDepth 100000 in
theorem pdX5_isOne : Cond.code (mY MX5_isOne) (mC MX5_isOne) (mN MX5_isOne) (mR MX5_isOne) ∈ ws0 ∧ Cond.initialized (mY MX5_isOne).cls ∈ ws0 ∧ ((mY MX5_isOne).cls ≠ "java/lang/invoke/MethodHandle" ∧ (mY MX5_isOne).cls ≠ "java/lang/invoke/VarHandle") ∧ (parseMethodDescriptor (mY MX5_isOne).desc).map (fun d => d.parameters.length) = some 1 := ⟨tb2 203 rfl rfl, iiX5, neX5, (by decide +kernel)⟩
set_option maxRecDepth 100000 in
theorem imX5_isOne : Cond.static yX5_isOne ∈ ws0 := tb2 202 rfl rfl
set_option maxRecDepth 100000 in
theorem pdX5_order : Cond.code (mY MX5_order) (mC MX5_order) (mN MX5_order) (mR MX5_order) ∈ ws0 ∧ Cond.initialized (mY MX5_order).cls ∈ ws0 ∧ ((mY MX5_order).cls ≠ "java/lang/invoke/MethodHandle" ∧ (mY MX5_order).cls ≠ "java/lang/invoke/VarHandle") ∧ (parseMethodDescriptor (mY MX5_order).desc).map (fun d => d.parameters.length) = some 2 := ⟨tb2 124 rfl rfl, iiX5, neX5, (by decide +kernel)⟩
set_option maxRecDepth 100000 in
theorem imX5_order : Cond.static yX5_order ∈ ws0 := tb2 123 rfl rfl
set_option maxRecDepth 100000 in
theorem pdX5_add : Cond.code (mY MX5_add) (mC MX5_add) (mN MX5_add) (mR MX5_add) ∈ ws0 ∧ Cond.initialized (mY MX5_add).cls ∈ ws0 ∧ ((mY MX5_add).cls ≠ "java/lang/invoke/MethodHandle" ∧ (mY MX5_add).cls ≠ "java/lang/invoke/VarHandle") ∧ (parseMethodDescriptor (mY MX5_add).desc).map (fun d => d.parameters.length) = some 2 := ⟨tb3 120 rfl rfl, iiX5, neX5, (by decide +kernel)⟩
set_option maxRecDepth 100000 in
theorem imX5_add : Cond.static yX5_add ∈ ws0 := tb3 119 rfl rfl
set_option maxRecDepth 100000 in
theorem pdX5_subtract : Cond.code (mY MX5_subtract) (mC MX5_subtract) (mN MX5_subtract) (mR MX5_subtract) ∈ ws0 ∧ Cond.initialized (mY MX5_subtract).cls ∈ ws0 ∧ ((mY MX5_subtract).cls ≠ "java/lang/invoke/MethodHandle" ∧ (mY MX5_subtract).cls ≠ "java/lang/invoke/VarHandle") ∧ (parseMethodDescriptor (mY MX5_subtract).desc).map (fun d => d.parameters.length) = some 3 := ⟨tb2 163 rfl rfl, iiX5, neX5, (by decide +kernel)⟩
set_option maxRecDepth 100000 in
theorem imX5_subtract : Cond.static yX5_subtract ∈ ws0 := tb2 162 rfl rfl
set_option maxRecDepth 100000 in
theorem pdX5_lessen : Cond.code (mY MX5_lessen) (mC MX5_lessen) (mN MX5_lessen) (mR MX5_lessen) ∈ ws0 ∧ Cond.initialized (mY MX5_lessen).cls ∈ ws0 ∧ ((mY MX5_lessen).cls ≠ "java/lang/invoke/MethodHandle" ∧ (mY MX5_lessen).cls ≠ "java/lang/invoke/VarHandle") ∧ (parseMethodDescriptor (mY MX5_lessen).desc).map (fun d => d.parameters.length) = some 2 := ⟨tb2 131 rfl rfl, iiX5, neX5, (by decide +kernel)⟩
set_option maxRecDepth 100000 in
theorem imX5_lessen : Cond.static yX5_lessen ∈ ws0 := tb2 130 rfl rfl
set_option maxRecDepth 100000 in
theorem pdX5_halveUntilOdd : Cond.code (mY MX5_halveUntilOdd) (mC MX5_halveUntilOdd) (mN MX5_halveUntilOdd) (mR MX5_halveUntilOdd) ∈ ws0 ∧ Cond.initialized (mY MX5_halveUntilOdd).cls ∈ ws0 ∧ ((mY MX5_halveUntilOdd).cls ≠ "java/lang/invoke/MethodHandle" ∧ (mY MX5_halveUntilOdd).cls ≠ "java/lang/invoke/VarHandle") ∧ (parseMethodDescriptor (mY MX5_halveUntilOdd).desc).map (fun d => d.parameters.length) = some 1 := ⟨tb2 135 rfl rfl, iiX5, neX5, (by decide +kernel)⟩
set_option maxRecDepth 100000 in
theorem imX5_halveUntilOdd : Cond.static yX5_halveUntilOdd ∈ ws0 := tb2 134 rfl rfl
set_option maxRecDepth 100000 in
theorem pdX5_halve : Cond.code (mY MX5_halve) (mC MX5_halve) (mN MX5_halve) (mR MX5_halve) ∈ ws0 ∧ Cond.initialized (mY MX5_halve).cls ∈ ws0 ∧ ((mY MX5_halve).cls ≠ "java/lang/invoke/MethodHandle" ∧ (mY MX5_halve).cls ≠ "java/lang/invoke/VarHandle") ∧ (parseMethodDescriptor (mY MX5_halve).desc).map (fun d => d.parameters.length) = some 1 := ⟨tb2 141 rfl rfl, iiX5, neX5, (by decide +kernel)⟩
set_option maxRecDepth 100000 in
theorem imX5_halve : Cond.static yX5_halve ∈ ws0 := tb2 140 rfl rfl
set_option maxRecDepth 100000 in
theorem pdX5_multiply : Cond.code (mY MX5_multiply) (mC MX5_multiply) (mN MX5_multiply) (mR MX5_multiply) ∈ ws0 ∧ Cond.initialized (mY MX5_multiply).cls ∈ ws0 ∧ ((mY MX5_multiply).cls ≠ "java/lang/invoke/MethodHandle" ∧ (mY MX5_multiply).cls ≠ "java/lang/invoke/VarHandle") ∧ (parseMethodDescriptor (mY MX5_multiply).desc).map (fun d => d.parameters.length) = some 3 := ⟨tb2 229 rfl rfl, iiX5, neX5, (by decide +kernel)⟩
set_option maxRecDepth 100000 in
theorem imX5_multiply : Cond.static yX5_multiply ∈ ws0 := tb2 228 rfl rfl
set_option maxRecDepth 100000 in
theorem pdX5_remainder : Cond.code (mY MX5_remainder) (mC MX5_remainder) (mN MX5_remainder) (mR MX5_remainder) ∈ ws0 ∧ Cond.initialized (mY MX5_remainder).cls ∈ ws0 ∧ ((mY MX5_remainder).cls ≠ "java/lang/invoke/MethodHandle" ∧ (mY MX5_remainder).cls ≠ "java/lang/invoke/VarHandle") ∧ (parseMethodDescriptor (mY MX5_remainder).desc).map (fun d => d.parameters.length) = some 2 := ⟨tb2 116 rfl rfl, iiX5, neX5, (by decide +kernel)⟩
set_option maxRecDepth 100000 in
theorem imX5_remainder : Cond.static yX5_remainder ∈ ws0 := tb2 115 rfl rfl
set_option maxRecDepth 100000 in
theorem pdX6_init : Cond.code (mY MX6_init) (mC MX6_init) (mN MX6_init) (mR MX6_init) ∈ ws0 ∧ Cond.initialized (mY MX6_init).cls ∈ ws0 ∧ ((mY MX6_init).cls ≠ "java/lang/invoke/MethodHandle" ∧ (mY MX6_init).cls ≠ "java/lang/invoke/VarHandle") ∧ (parseMethodDescriptor (mY MX6_init).desc).map (fun d => d.parameters.length) = some 0 := ⟨tb1 39 rfl rfl, iiX6, neX6, (by decide +kernel)⟩
set_option maxRecDepth 100000 in
theorem imX6_init : Cond.instanceMethod yX6_init ∈ ws0 := tb1 38 rfl rfl
set_option maxRecDepth 100000 in
theorem pdX6_hashFirst : Cond.code (mY MX6_hashFirst) (mC MX6_hashFirst) (mN MX6_hashFirst) (mR MX6_hashFirst) ∈ ws0 ∧ Cond.initialized (mY MX6_hashFirst).cls ∈ ws0 ∧ ((mY MX6_hashFirst).cls ≠ "java/lang/invoke/MethodHandle" ∧ (mY MX6_hashFirst).cls ≠ "java/lang/invoke/VarHandle") ∧ (parseMethodDescriptor (mY MX6_hashFirst).desc).map (fun d => d.parameters.length) = some 2 := ⟨tb1 228 rfl rfl, iiX6, neX6, (by decide +kernel)⟩
set_option maxRecDepth 100000 in
theorem imX6_hashFirst : Cond.instanceMethod yX6_hashFirst ∈ ws0 := tb1 226 rfl rfl
set_option maxRecDepth 100000 in
theorem seX6_hashFirst : Cond.selects (mY MX6_hashFirst).cls (mY MX6_hashFirst) (mY MX6_hashFirst) ∈ ws0 := tb1 227 rfl rfl
set_option maxRecDepth 100000 in
theorem pdX6_byteAt : Cond.code (mY MX6_byteAt) (mC MX6_byteAt) (mN MX6_byteAt) (mR MX6_byteAt) ∈ ws0 ∧ Cond.initialized (mY MX6_byteAt).cls ∈ ws0 ∧ ((mY MX6_byteAt).cls ≠ "java/lang/invoke/MethodHandle" ∧ (mY MX6_byteAt).cls ≠ "java/lang/invoke/VarHandle") ∧ (parseMethodDescriptor (mY MX6_byteAt).desc).map (fun d => d.parameters.length) = some 1 := ⟨tb2 102 rfl rfl, iiX6, neX6, (by decide +kernel)⟩
set_option maxRecDepth 100000 in
theorem imX6_byteAt : Cond.instanceMethod yX6_byteAt ∈ ws0 := tb2 100 rfl rfl
set_option maxRecDepth 100000 in
theorem seX6_byteAt : Cond.selects (mY MX6_byteAt).cls (mY MX6_byteAt) (mY MX6_byteAt) ∈ ws0 := tb2 101 rfl rfl
set_option maxRecDepth 100000 in
theorem pdX6_paddedWord : Cond.code (mY MX6_paddedWord) (mC MX6_paddedWord) (mN MX6_paddedWord) (mR MX6_paddedWord) ∈ ws0 ∧ Cond.initialized (mY MX6_paddedWord).cls ∈ ws0 ∧ ((mY MX6_paddedWord).cls ≠ "java/lang/invoke/MethodHandle" ∧ (mY MX6_paddedWord).cls ≠ "java/lang/invoke/VarHandle") ∧ (parseMethodDescriptor (mY MX6_paddedWord).desc).map (fun d => d.parameters.length) = some 4 := ⟨tb1 233 rfl rfl, iiX6, neX6, (by decide +kernel)⟩
set_option maxRecDepth 100000 in
theorem imX6_paddedWord : Cond.static yX6_paddedWord ∈ ws0 := tb1 232 rfl rfl
set_option maxRecDepth 100000 in
theorem pdX6_extendSchedule : Cond.code (mY MX6_extendSchedule) (mC MX6_extendSchedule) (mN MX6_extendSchedule) (mR MX6_extendSchedule) ∈ ws0 ∧ Cond.initialized (mY MX6_extendSchedule).cls ∈ ws0 ∧ ((mY MX6_extendSchedule).cls ≠ "java/lang/invoke/MethodHandle" ∧ (mY MX6_extendSchedule).cls ≠ "java/lang/invoke/VarHandle") ∧ (parseMethodDescriptor (mY MX6_extendSchedule).desc).map (fun d => d.parameters.length) = some 0 := ⟨tb1 237 rfl rfl, iiX6, neX6, (by decide +kernel)⟩
set_option maxRecDepth 100000 in
theorem imX6_extendSchedule : Cond.instanceMethod yX6_extendSchedule ∈ ws0 := tb1 236 rfl rfl
set_option maxRecDepth 100000 in
theorem seX6_extendSchedule : Cond.selects (mY MX6_extendSchedule).cls (mY MX6_extendSchedule) (mY MX6_extendSchedule) ∈ ws0 := tb0 1 rfl rfl
set_option maxRecDepth 100000 in
theorem pdX6_mixBlock : Cond.code (mY MX6_mixBlock) (mC MX6_mixBlock) (mN MX6_mixBlock) (mR MX6_mixBlock) ∈ ws0 ∧ Cond.initialized (mY MX6_mixBlock).cls ∈ ws0 ∧ ((mY MX6_mixBlock).cls ≠ "java/lang/invoke/MethodHandle" ∧ (mY MX6_mixBlock).cls ≠ "java/lang/invoke/VarHandle") ∧ (parseMethodDescriptor (mY MX6_mixBlock).desc).map (fun d => d.parameters.length) = some 0 := ⟨tb2 4 rfl rfl, iiX6, neX6, (by decide +kernel)⟩
set_option maxRecDepth 100000 in
theorem imX6_mixBlock : Cond.instanceMethod yX6_mixBlock ∈ ws0 := tb2 3 rfl rfl
set_option maxRecDepth 100000 in
theorem seX6_mixBlock : Cond.selects (mY MX6_mixBlock).cls (mY MX6_mixBlock) (mY MX6_mixBlock) ∈ ws0 := tb0 2 rfl rfl
set_option maxRecDepth 100000 in
theorem pdX7_init : Cond.code (mY MX7_init) (mC MX7_init) (mN MX7_init) (mR MX7_init) ∈ ws0 ∧ Cond.initialized (mY MX7_init).cls ∈ ws0 ∧ ((mY MX7_init).cls ≠ "java/lang/invoke/MethodHandle" ∧ (mY MX7_init).cls ≠ "java/lang/invoke/VarHandle") ∧ (parseMethodDescriptor (mY MX7_init).desc).map (fun d => d.parameters.length) = some 2 := ⟨tb1 19 rfl rfl, iiX7, neX7, (by decide +kernel)⟩
set_option maxRecDepth 100000 in
theorem imX7_init : Cond.instanceMethod yX7_init ∈ ws0 := tb1 18 rfl rfl
set_option maxRecDepth 100000 in
theorem pdX7_seed : Cond.code (mY MX7_seed) (mC MX7_seed) (mN MX7_seed) (mR MX7_seed) ∈ ws0 ∧ Cond.initialized (mY MX7_seed).cls ∈ ws0 ∧ ((mY MX7_seed).cls ≠ "java/lang/invoke/MethodHandle" ∧ (mY MX7_seed).cls ≠ "java/lang/invoke/VarHandle") ∧ (parseMethodDescriptor (mY MX7_seed).desc).map (fun d => d.parameters.length) = some 1 := ⟨tb2 57 rfl rfl, iiX7, neX7, (by decide +kernel)⟩
set_option maxRecDepth 100000 in
theorem imX7_seed : Cond.instanceMethod yX7_seed ∈ ws0 := tb2 55 rfl rfl
set_option maxRecDepth 100000 in
theorem seX7_seed : Cond.selects (mY MX7_seed).cls (mY MX7_seed) (mY MX7_seed) ∈ ws0 := tb2 56 rfl rfl
set_option maxRecDepth 100000 in
theorem pdX7_search : Cond.code (mY MX7_search) (mC MX7_search) (mN MX7_search) (mR MX7_search) ∈ ws0 ∧ Cond.initialized (mY MX7_search).cls ∈ ws0 ∧ ((mY MX7_search).cls ≠ "java/lang/invoke/MethodHandle" ∧ (mY MX7_search).cls ≠ "java/lang/invoke/VarHandle") ∧ (parseMethodDescriptor (mY MX7_search).desc).map (fun d => d.parameters.length) = some 1 := ⟨tb2 77 rfl rfl, iiX7, neX7, (by decide +kernel)⟩
set_option maxRecDepth 100000 in
theorem imX7_search : Cond.instanceMethod yX7_search ∈ ws0 := tb2 75 rfl rfl
set_option maxRecDepth 100000 in
theorem seX7_search : Cond.selects (mY MX7_search).cls (mY MX7_search) (mY MX7_search) ∈ ws0 := tb2 76 rfl rfl
set_option maxRecDepth 100000 in
theorem pdX7_forget : Cond.code (mY MX7_forget) (mC MX7_forget) (mN MX7_forget) (mR MX7_forget) ∈ ws0 ∧ Cond.initialized (mY MX7_forget).cls ∈ ws0 ∧ ((mY MX7_forget).cls ≠ "java/lang/invoke/MethodHandle" ∧ (mY MX7_forget).cls ≠ "java/lang/invoke/VarHandle") ∧ (parseMethodDescriptor (mY MX7_forget).desc).map (fun d => d.parameters.length) = some 0 := ⟨tb3 17 rfl rfl, iiX7, neX7, (by decide +kernel)⟩
set_option maxRecDepth 100000 in
theorem imX7_forget : Cond.instanceMethod yX7_forget ∈ ws0 := tb3 15 rfl rfl
set_option maxRecDepth 100000 in
theorem seX7_forget : Cond.selects (mY MX7_forget).cls (mY MX7_forget) (mY MX7_forget) ∈ ws0 := tb3 16 rfl rfl
set_option maxRecDepth 100000 in
theorem pdX7_key : Cond.code (mY MX7_key) (mC MX7_key) (mN MX7_key) (mR MX7_key) ∈ ws0 ∧ Cond.initialized (mY MX7_key).cls ∈ ws0 ∧ ((mY MX7_key).cls ≠ "java/lang/invoke/MethodHandle" ∧ (mY MX7_key).cls ≠ "java/lang/invoke/VarHandle") ∧ (parseMethodDescriptor (mY MX7_key).desc).map (fun d => d.parameters.length) = some 2 := ⟨tb3 37 rfl rfl, iiX7, neX7, (by decide +kernel)⟩
set_option maxRecDepth 100000 in
theorem imX7_key : Cond.instanceMethod yX7_key ∈ ws0 := tb3 35 rfl rfl
set_option maxRecDepth 100000 in
theorem seX7_key : Cond.selects (mY MX7_key).cls (mY MX7_key) (mY MX7_key) ∈ ws0 := tb3 36 rfl rfl
set_option maxRecDepth 100000 in
theorem pdX7_count : Cond.code (mY MX7_count) (mC MX7_count) (mN MX7_count) (mR MX7_count) ∈ ws0 ∧ Cond.initialized (mY MX7_count).cls ∈ ws0 ∧ ((mY MX7_count).cls ≠ "java/lang/invoke/MethodHandle" ∧ (mY MX7_count).cls ≠ "java/lang/invoke/VarHandle") ∧ (parseMethodDescriptor (mY MX7_count).desc).map (fun d => d.parameters.length) = some 1 := ⟨tb3 56 rfl rfl, iiX7, neX7, (by decide +kernel)⟩
set_option maxRecDepth 100000 in
theorem imX7_count : Cond.instanceMethod yX7_count ∈ ws0 := tb3 54 rfl rfl
set_option maxRecDepth 100000 in
theorem seX7_count : Cond.selects (mY MX7_count).cls (mY MX7_count) (mY MX7_count) ∈ ws0 := tb3 55 rfl rfl
set_option maxRecDepth 100000 in
theorem pdX7_feed : Cond.code (mY MX7_feed) (mC MX7_feed) (mN MX7_feed) (mR MX7_feed) ∈ ws0 ∧ Cond.initialized (mY MX7_feed).cls ∈ ws0 ∧ ((mY MX7_feed).cls ≠ "java/lang/invoke/MethodHandle" ∧ (mY MX7_feed).cls ≠ "java/lang/invoke/VarHandle") ∧ (parseMethodDescriptor (mY MX7_feed).desc).map (fun d => d.parameters.length) = some 2 := ⟨tb3 68 rfl rfl, iiX7, neX7, (by decide +kernel)⟩
set_option maxRecDepth 100000 in
theorem imX7_feed : Cond.instanceMethod yX7_feed ∈ ws0 := tb3 66 rfl rfl
set_option maxRecDepth 100000 in
theorem seX7_feed : Cond.selects (mY MX7_feed).cls (mY MX7_feed) (mY MX7_feed) ∈ ws0 := tb3 67 rfl rfl
set_option maxRecDepth 100000 in
theorem pdX7_cut : Cond.code (mY MX7_cut) (mC MX7_cut) (mN MX7_cut) (mR MX7_cut) ∈ ws0 ∧ Cond.initialized (mY MX7_cut).cls ∈ ws0 ∧ ((mY MX7_cut).cls ≠ "java/lang/invoke/MethodHandle" ∧ (mY MX7_cut).cls ≠ "java/lang/invoke/VarHandle") ∧ (parseMethodDescriptor (mY MX7_cut).desc).map (fun d => d.parameters.length) = some 1 := ⟨tb3 76 rfl rfl, iiX7, neX7, (by decide +kernel)⟩
set_option maxRecDepth 100000 in
theorem imX7_cut : Cond.instanceMethod yX7_cut ∈ ws0 := tb3 74 rfl rfl
set_option maxRecDepth 100000 in
theorem seX7_cut : Cond.selects (mY MX7_cut).cls (mY MX7_cut) (mY MX7_cut) ∈ ws0 := tb3 75 rfl rfl
set_option maxRecDepth 100000 in
theorem pdX7_hash : Cond.code (mY MX7_hash) (mC MX7_hash) (mN MX7_hash) (mR MX7_hash) ∈ ws0 ∧ Cond.initialized (mY MX7_hash).cls ∈ ws0 ∧ ((mY MX7_hash).cls ≠ "java/lang/invoke/MethodHandle" ∧ (mY MX7_hash).cls ≠ "java/lang/invoke/VarHandle") ∧ (parseMethodDescriptor (mY MX7_hash).desc).map (fun d => d.parameters.length) = some 1 := ⟨tb3 84 rfl rfl, iiX7, neX7, (by decide +kernel)⟩
set_option maxRecDepth 100000 in
theorem imX7_hash : Cond.instanceMethod yX7_hash ∈ ws0 := tb3 82 rfl rfl
set_option maxRecDepth 100000 in
theorem seX7_hash : Cond.selects (mY MX7_hash).cls (mY MX7_hash) (mY MX7_hash) ∈ ws0 := tb3 83 rfl rfl
set_option maxRecDepth 100000 in
theorem pdX7_encoded : Cond.code (mY MX7_encoded) (mC MX7_encoded) (mN MX7_encoded) (mR MX7_encoded) ∈ ws0 ∧ Cond.initialized (mY MX7_encoded).cls ∈ ws0 ∧ ((mY MX7_encoded).cls ≠ "java/lang/invoke/MethodHandle" ∧ (mY MX7_encoded).cls ≠ "java/lang/invoke/VarHandle") ∧ (parseMethodDescriptor (mY MX7_encoded).desc).map (fun d => d.parameters.length) = some 1 := ⟨tb3 93 rfl rfl, iiX7, neX7, (by decide +kernel)⟩
set_option maxRecDepth 100000 in
theorem imX7_encoded : Cond.instanceMethod yX7_encoded ∈ ws0 := tb3 91 rfl rfl
set_option maxRecDepth 100000 in
theorem seX7_encoded : Cond.selects (mY MX7_encoded).cls (mY MX7_encoded) (mY MX7_encoded) ∈ ws0 := tb3 92 rfl rfl
set_option maxRecDepth 100000 in
theorem pdX7_sign : Cond.code (mY MX7_sign) (mC MX7_sign) (mN MX7_sign) (mR MX7_sign) ∈ ws0 ∧ Cond.initialized (mY MX7_sign).cls ∈ ws0 ∧ ((mY MX7_sign).cls ≠ "java/lang/invoke/MethodHandle" ∧ (mY MX7_sign).cls ≠ "java/lang/invoke/VarHandle") ∧ (parseMethodDescriptor (mY MX7_sign).desc).map (fun d => d.parameters.length) = some 0 := ⟨tb3 103 rfl rfl, iiX7, neX7, (by decide +kernel)⟩
set_option maxRecDepth 100000 in
theorem imX7_sign : Cond.instanceMethod yX7_sign ∈ ws0 := tb3 101 rfl rfl
set_option maxRecDepth 100000 in
theorem seX7_sign : Cond.selects (mY MX7_sign).cls (mY MX7_sign) (mY MX7_sign) ∈ ws0 := tb3 102 rfl rfl
set_option maxRecDepth 100000 in
theorem pdX7_verify : Cond.code (mY MX7_verify) (mC MX7_verify) (mN MX7_verify) (mR MX7_verify) ∈ ws0 ∧ Cond.initialized (mY MX7_verify).cls ∈ ws0 ∧ ((mY MX7_verify).cls ≠ "java/lang/invoke/MethodHandle" ∧ (mY MX7_verify).cls ≠ "java/lang/invoke/VarHandle") ∧ (parseMethodDescriptor (mY MX7_verify).desc).map (fun d => d.parameters.length) = some 0 := ⟨tb3 125 rfl rfl, iiX7, neX7, (by decide +kernel)⟩
set_option maxRecDepth 100000 in
theorem imX7_verify : Cond.instanceMethod yX7_verify ∈ ws0 := tb3 123 rfl rfl
set_option maxRecDepth 100000 in
theorem seX7_verify : Cond.selects (mY MX7_verify).cls (mY MX7_verify) (mY MX7_verify) ∈ ws0 := tb3 124 rfl rfl
set_option maxRecDepth 100000 in
theorem pdX7_power : Cond.code (mY MX7_power) (mC MX7_power) (mN MX7_power) (mR MX7_power) ∈ ws0 ∧ Cond.initialized (mY MX7_power).cls ∈ ws0 ∧ ((mY MX7_power).cls ≠ "java/lang/invoke/MethodHandle" ∧ (mY MX7_power).cls ≠ "java/lang/invoke/VarHandle") ∧ (parseMethodDescriptor (mY MX7_power).desc).map (fun d => d.parameters.length) = some 1 := ⟨tb3 140 rfl rfl, iiX7, neX7, (by decide +kernel)⟩
set_option maxRecDepth 100000 in
theorem imX7_power : Cond.instanceMethod yX7_power ∈ ws0 := tb3 138 rfl rfl
set_option maxRecDepth 100000 in
theorem seX7_power : Cond.selects (mY MX7_power).cls (mY MX7_power) (mY MX7_power) ∈ ws0 := tb3 139 rfl rfl
set_option maxRecDepth 100000 in
theorem pdX7_encode : Cond.code (mY MX7_encode) (mC MX7_encode) (mN MX7_encode) (mR MX7_encode) ∈ ws0 ∧ Cond.initialized (mY MX7_encode).cls ∈ ws0 ∧ ((mY MX7_encode).cls ≠ "java/lang/invoke/MethodHandle" ∧ (mY MX7_encode).cls ≠ "java/lang/invoke/VarHandle") ∧ (parseMethodDescriptor (mY MX7_encode).desc).map (fun d => d.parameters.length) = some 0 := ⟨tb3 148 rfl rfl, iiX7, neX7, (by decide +kernel)⟩
set_option maxRecDepth 100000 in
theorem imX7_encode : Cond.instanceMethod yX7_encode ∈ ws0 := tb3 146 rfl rfl
set_option maxRecDepth 100000 in
theorem seX7_encode : Cond.selects (mY MX7_encode).cls (mY MX7_encode) (mY MX7_encode) ∈ ws0 := tb3 147 rfl rfl
set_option maxRecDepth 100000 in
theorem pdX7_set : Cond.code (mY MX7_set) (mC MX7_set) (mN MX7_set) (mR MX7_set) ∈ ws0 ∧ Cond.initialized (mY MX7_set).cls ∈ ws0 ∧ ((mY MX7_set).cls ≠ "java/lang/invoke/MethodHandle" ∧ (mY MX7_set).cls ≠ "java/lang/invoke/VarHandle") ∧ (parseMethodDescriptor (mY MX7_set).desc).map (fun d => d.parameters.length) = some 2 := ⟨tb3 152 rfl rfl, iiX7, neX7, (by decide +kernel)⟩
set_option maxRecDepth 100000 in
theorem imX7_set : Cond.instanceMethod yX7_set ∈ ws0 := tb3 150 rfl rfl
set_option maxRecDepth 100000 in
theorem seX7_set : Cond.selects (mY MX7_set).cls (mY MX7_set) (mY MX7_set) ∈ ws0 := tb3 151 rfl rfl
set_option maxRecDepth 100000 in
theorem pdX7_get : Cond.code (mY MX7_get) (mC MX7_get) (mN MX7_get) (mR MX7_get) ∈ ws0 ∧ Cond.initialized (mY MX7_get).cls ∈ ws0 ∧ ((mY MX7_get).cls ≠ "java/lang/invoke/MethodHandle" ∧ (mY MX7_get).cls ≠ "java/lang/invoke/VarHandle") ∧ (parseMethodDescriptor (mY MX7_get).desc).map (fun d => d.parameters.length) = some 1 := ⟨tb3 156 rfl rfl, iiX7, neX7, (by decide +kernel)⟩
set_option maxRecDepth 100000 in
theorem imX7_get : Cond.instanceMethod yX7_get ∈ ws0 := tb3 154 rfl rfl
set_option maxRecDepth 100000 in
theorem seX7_get : Cond.selects (mY MX7_get).cls (mY MX7_get) (mY MX7_get) ∈ ws0 := tb3 155 rfl rfl
set_option maxRecDepth 100000 in
theorem pdX7_digest : Cond.code (mY MX7_digest) (mC MX7_digest) (mN MX7_digest) (mR MX7_digest) ∈ ws0 ∧ Cond.initialized (mY MX7_digest).cls ∈ ws0 ∧ ((mY MX7_digest).cls ≠ "java/lang/invoke/MethodHandle" ∧ (mY MX7_digest).cls ≠ "java/lang/invoke/VarHandle") ∧ (parseMethodDescriptor (mY MX7_digest).desc).map (fun d => d.parameters.length) = some 0 := ⟨tb3 160 rfl rfl, iiX7, neX7, (by decide +kernel)⟩
set_option maxRecDepth 100000 in
theorem imX7_digest : Cond.instanceMethod yX7_digest ∈ ws0 := tb3 158 rfl rfl
set_option maxRecDepth 100000 in
theorem seX7_digest : Cond.selects (mY MX7_digest).cls (mY MX7_digest) (mY MX7_digest) ∈ ws0 := tb3 159 rfl rfl
set_option maxRecDepth 100000 in
theorem pdX7_digestKey : Cond.code (mY MX7_digestKey) (mC MX7_digestKey) (mN MX7_digestKey) (mR MX7_digestKey) ∈ ws0 ∧ Cond.initialized (mY MX7_digestKey).cls ∈ ws0 ∧ ((mY MX7_digestKey).cls ≠ "java/lang/invoke/MethodHandle" ∧ (mY MX7_digestKey).cls ≠ "java/lang/invoke/VarHandle") ∧ (parseMethodDescriptor (mY MX7_digestKey).desc).map (fun d => d.parameters.length) = some 1 := ⟨tb3 166 rfl rfl, iiX7, neX7, (by decide +kernel)⟩
set_option maxRecDepth 100000 in
theorem imX7_digestKey : Cond.instanceMethod yX7_digestKey ∈ ws0 := tb3 165 rfl rfl
set_option maxRecDepth 100000 in
theorem seX7_digestKey : Cond.selects (mY MX7_digestKey).cls (mY MX7_digestKey) (mY MX7_digestKey) ∈ ws0 := tb0 20 rfl rfl
set_option maxRecDepth 100000 in
theorem pdX7_bytesOfKeyPart : Cond.code (mY MX7_bytesOfKeyPart) (mC MX7_bytesOfKeyPart) (mN MX7_bytesOfKeyPart) (mR MX7_bytesOfKeyPart) ∈ ws0 ∧ Cond.initialized (mY MX7_bytesOfKeyPart).cls ∈ ws0 ∧ ((mY MX7_bytesOfKeyPart).cls ≠ "java/lang/invoke/MethodHandle" ∧ (mY MX7_bytesOfKeyPart).cls ≠ "java/lang/invoke/VarHandle") ∧ (parseMethodDescriptor (mY MX7_bytesOfKeyPart).desc).map (fun d => d.parameters.length) = some 1 := ⟨tb3 41 rfl rfl, iiX7, neX7, (by decide +kernel)⟩
set_option maxRecDepth 100000 in
theorem imX7_bytesOfKeyPart : Cond.instanceMethod yX7_bytesOfKeyPart ∈ ws0 := tb3 40 rfl rfl
set_option maxRecDepth 100000 in
theorem seX7_bytesOfKeyPart : Cond.selects (mY MX7_bytesOfKeyPart).cls (mY MX7_bytesOfKeyPart) (mY MX7_bytesOfKeyPart) ∈ ws0 := tb0 16 rfl rfl
set_option maxRecDepth 100000 in
theorem pdX7_byteOfKeyPart : Cond.code (mY MX7_byteOfKeyPart) (mC MX7_byteOfKeyPart) (mN MX7_byteOfKeyPart) (mR MX7_byteOfKeyPart) ∈ ws0 ∧ Cond.initialized (mY MX7_byteOfKeyPart).cls ∈ ws0 ∧ ((mY MX7_byteOfKeyPart).cls ≠ "java/lang/invoke/MethodHandle" ∧ (mY MX7_byteOfKeyPart).cls ≠ "java/lang/invoke/VarHandle") ∧ (parseMethodDescriptor (mY MX7_byteOfKeyPart).desc).map (fun d => d.parameters.length) = some 2 := ⟨tb3 45 rfl rfl, iiX7, neX7, (by decide +kernel)⟩
set_option maxRecDepth 100000 in
theorem imX7_byteOfKeyPart : Cond.instanceMethod yX7_byteOfKeyPart ∈ ws0 := tb3 44 rfl rfl
set_option maxRecDepth 100000 in
theorem seX7_byteOfKeyPart : Cond.selects (mY MX7_byteOfKeyPart).cls (mY MX7_byteOfKeyPart) (mY MX7_byteOfKeyPart) ∈ ws0 := tb0 17 rfl rfl
set_option maxRecDepth 100000 in
theorem pdX7_encodedByte : Cond.code (mY MX7_encodedByte) (mC MX7_encodedByte) (mN MX7_encodedByte) (mR MX7_encodedByte) ∈ ws0 ∧ Cond.initialized (mY MX7_encodedByte).cls ∈ ws0 ∧ ((mY MX7_encodedByte).cls ≠ "java/lang/invoke/MethodHandle" ∧ (mY MX7_encodedByte).cls ≠ "java/lang/invoke/VarHandle") ∧ (parseMethodDescriptor (mY MX7_encodedByte).desc).map (fun d => d.parameters.length) = some 1 := ⟨tb3 97 rfl rfl, iiX7, neX7, (by decide +kernel)⟩
set_option maxRecDepth 100000 in
theorem imX7_encodedByte : Cond.instanceMethod yX7_encodedByte ∈ ws0 := tb3 96 rfl rfl
set_option maxRecDepth 100000 in
theorem seX7_encodedByte : Cond.selects (mY MX7_encodedByte).cls (mY MX7_encodedByte) (mY MX7_encodedByte) ∈ ws0 := tb0 18 rfl rfl
set_option maxRecDepth 100000 in
theorem pdX7_writeEncoded : Cond.code (mY MX7_writeEncoded) (mC MX7_writeEncoded) (mN MX7_writeEncoded) (mR MX7_writeEncoded) ∈ ws0 ∧ Cond.initialized (mY MX7_writeEncoded).cls ∈ ws0 ∧ ((mY MX7_writeEncoded).cls ≠ "java/lang/invoke/MethodHandle" ∧ (mY MX7_writeEncoded).cls ≠ "java/lang/invoke/VarHandle") ∧ (parseMethodDescriptor (mY MX7_writeEncoded).desc).map (fun d => d.parameters.length) = some 1 := ⟨tb3 107 rfl rfl, iiX7, neX7, (by decide +kernel)⟩
set_option maxRecDepth 100000 in
theorem imX7_writeEncoded : Cond.instanceMethod yX7_writeEncoded ∈ ws0 := tb3 106 rfl rfl
set_option maxRecDepth 100000 in
theorem seX7_writeEncoded : Cond.selects (mY MX7_writeEncoded).cls (mY MX7_writeEncoded) (mY MX7_writeEncoded) ∈ ws0 := tb0 19 rfl rfl
set_option maxRecDepth 100000 in
theorem pdX8_in : Cond.code (mY MX8_in) (mC MX8_in) (mN MX8_in) (mR MX8_in) ∈ ws0 ∧ Cond.initialized (mY MX8_in).cls ∈ ws0 ∧ ((mY MX8_in).cls ≠ "java/lang/invoke/MethodHandle" ∧ (mY MX8_in).cls ≠ "java/lang/invoke/VarHandle") ∧ (parseMethodDescriptor (mY MX8_in).desc).map (fun d => d.parameters.length) = some 3 := ⟨tb4 89 rfl rfl, iiX8, neX8, (by decide +kernel)⟩
set_option maxRecDepth 100000 in
theorem imX8_in : Cond.static yX8_in ∈ ws0 := tb4 88 rfl rfl
set_option maxRecDepth 100000 in
theorem pdX8_init : Cond.code (mY MX8_init) (mC MX8_init) (mN MX8_init) (mR MX8_init) ∈ ws0 ∧ Cond.initialized (mY MX8_init).cls ∈ ws0 ∧ ((mY MX8_init).cls ≠ "java/lang/invoke/MethodHandle" ∧ (mY MX8_init).cls ≠ "java/lang/invoke/VarHandle") ∧ (parseMethodDescriptor (mY MX8_init).desc).map (fun d => d.parameters.length) = some 2 := ⟨tb3 175 rfl rfl, iiX8, neX8, (by decide +kernel)⟩
set_option maxRecDepth 100000 in
theorem imX8_init : Cond.instanceMethod yX8_init ∈ ws0 := tb3 174 rfl rfl
set_option maxRecDepth 100000 in
theorem pdX8_clear : Cond.code (mY MX8_clear) (mC MX8_clear) (mN MX8_clear) (mR MX8_clear) ∈ ws0 ∧ Cond.initialized (mY MX8_clear).cls ∈ ws0 ∧ ((mY MX8_clear).cls ≠ "java/lang/invoke/MethodHandle" ∧ (mY MX8_clear).cls ≠ "java/lang/invoke/VarHandle") ∧ (parseMethodDescriptor (mY MX8_clear).desc).map (fun d => d.parameters.length) = some 1 := ⟨tb4 97 rfl rfl, iiX8, neX8, (by decide +kernel)⟩
set_option maxRecDepth 100000 in
theorem imX8_clear : Cond.instanceMethod yX8_clear ∈ ws0 := tb4 96 rfl rfl
set_option maxRecDepth 100000 in
theorem seX8_clear : Cond.selects (mY MX8_clear).cls (mY MX8_clear) (mY MX8_clear) ∈ ws0 := tb0 22 rfl rfl
set_option maxRecDepth 100000 in
theorem pdX8_copy : Cond.code (mY MX8_copy) (mC MX8_copy) (mN MX8_copy) (mR MX8_copy) ∈ ws0 ∧ Cond.initialized (mY MX8_copy).cls ∈ ws0 ∧ ((mY MX8_copy).cls ≠ "java/lang/invoke/MethodHandle" ∧ (mY MX8_copy).cls ≠ "java/lang/invoke/VarHandle") ∧ (parseMethodDescriptor (mY MX8_copy).desc).map (fun d => d.parameters.length) = some 2 := ⟨tb4 154 rfl rfl, iiX8, neX8, (by decide +kernel)⟩
set_option maxRecDepth 100000 in
theorem imX8_copy : Cond.instanceMethod yX8_copy ∈ ws0 := tb4 153 rfl rfl
set_option maxRecDepth 100000 in
theorem seX8_copy : Cond.selects (mY MX8_copy).cls (mY MX8_copy) (mY MX8_copy) ∈ ws0 := tb0 35 rfl rfl
set_option maxRecDepth 100000 in
theorem pdX8_small : Cond.code (mY MX8_small) (mC MX8_small) (mN MX8_small) (mR MX8_small) ∈ ws0 ∧ Cond.initialized (mY MX8_small).cls ∈ ws0 ∧ ((mY MX8_small).cls ≠ "java/lang/invoke/MethodHandle" ∧ (mY MX8_small).cls ≠ "java/lang/invoke/VarHandle") ∧ (parseMethodDescriptor (mY MX8_small).desc).map (fun d => d.parameters.length) = some 2 := ⟨tb4 178 rfl rfl, iiX8, neX8, (by decide +kernel)⟩
set_option maxRecDepth 100000 in
theorem imX8_small : Cond.instanceMethod yX8_small ∈ ws0 := tb4 177 rfl rfl
set_option maxRecDepth 100000 in
theorem seX8_small : Cond.selects (mY MX8_small).cls (mY MX8_small) (mY MX8_small) ∈ ws0 := tb0 40 rfl rfl
set_option maxRecDepth 100000 in
theorem pdX8_longOf : Cond.code (mY MX8_longOf) (mC MX8_longOf) (mN MX8_longOf) (mR MX8_longOf) ∈ ws0 ∧ Cond.initialized (mY MX8_longOf).cls ∈ ws0 ∧ ((mY MX8_longOf).cls ≠ "java/lang/invoke/MethodHandle" ∧ (mY MX8_longOf).cls ≠ "java/lang/invoke/VarHandle") ∧ (parseMethodDescriptor (mY MX8_longOf).desc).map (fun d => d.parameters.length) = some 1 := ⟨tb4 190 rfl rfl, iiX8, neX8, (by decide +kernel)⟩
set_option maxRecDepth 100000 in
theorem imX8_longOf : Cond.instanceMethod yX8_longOf ∈ ws0 := tb4 189 rfl rfl
set_option maxRecDepth 100000 in
theorem seX8_longOf : Cond.selects (mY MX8_longOf).cls (mY MX8_longOf) (mY MX8_longOf) ∈ ws0 := tb0 43 rfl rfl
set_option maxRecDepth 100000 in
theorem pdX8_compare : Cond.code (mY MX8_compare) (mC MX8_compare) (mN MX8_compare) (mR MX8_compare) ∈ ws0 ∧ Cond.initialized (mY MX8_compare).cls ∈ ws0 ∧ ((mY MX8_compare).cls ≠ "java/lang/invoke/MethodHandle" ∧ (mY MX8_compare).cls ≠ "java/lang/invoke/VarHandle") ∧ (parseMethodDescriptor (mY MX8_compare).desc).map (fun d => d.parameters.length) = some 2 := ⟨tb4 146 rfl rfl, iiX8, neX8, (by decide +kernel)⟩
set_option maxRecDepth 100000 in
theorem imX8_compare : Cond.instanceMethod yX8_compare ∈ ws0 := tb4 145 rfl rfl
set_option maxRecDepth 100000 in
theorem seX8_compare : Cond.selects (mY MX8_compare).cls (mY MX8_compare) (mY MX8_compare) ∈ ws0 := tb0 33 rfl rfl
set_option maxRecDepth 100000 in
theorem pdX8_isSmall : Cond.code (mY MX8_isSmall) (mC MX8_isSmall) (mN MX8_isSmall) (mR MX8_isSmall) ∈ ws0 ∧ Cond.initialized (mY MX8_isSmall).cls ∈ ws0 ∧ ((mY MX8_isSmall).cls ≠ "java/lang/invoke/MethodHandle" ∧ (mY MX8_isSmall).cls ≠ "java/lang/invoke/VarHandle") ∧ (parseMethodDescriptor (mY MX8_isSmall).desc).map (fun d => d.parameters.length) = some 2 := ⟨tb4 208 rfl rfl, iiX8, neX8, (by decide +kernel)⟩
set_option maxRecDepth 100000 in
theorem imX8_isSmall : Cond.instanceMethod yX8_isSmall ∈ ws0 := tb4 207 rfl rfl
set_option maxRecDepth 100000 in
theorem seX8_isSmall : Cond.selects (mY MX8_isSmall).cls (mY MX8_isSmall) (mY MX8_isSmall) ∈ ws0 := tb0 47 rfl rfl
set_option maxRecDepth 100000 in
theorem pdX8_adds : Cond.code (mY MX8_adds) (mC MX8_adds) (mN MX8_adds) (mR MX8_adds) ∈ ws0 ∧ Cond.initialized (mY MX8_adds).cls ∈ ws0 ∧ ((mY MX8_adds).cls ≠ "java/lang/invoke/MethodHandle" ∧ (mY MX8_adds).cls ≠ "java/lang/invoke/VarHandle") ∧ (parseMethodDescriptor (mY MX8_adds).desc).map (fun d => d.parameters.length) = some 2 := ⟨tb5 37 rfl rfl, iiX8, neX8, (by decide +kernel)⟩
set_option maxRecDepth 100000 in
theorem imX8_adds : Cond.instanceMethod yX8_adds ∈ ws0 := tb5 36 rfl rfl
set_option maxRecDepth 100000 in
theorem seX8_adds : Cond.selects (mY MX8_adds).cls (mY MX8_adds) (mY MX8_adds) ∈ ws0 := tb0 56 rfl rfl
set_option maxRecDepth 100000 in
theorem pdX8_takes : Cond.code (mY MX8_takes) (mC MX8_takes) (mN MX8_takes) (mR MX8_takes) ∈ ws0 ∧ Cond.initialized (mY MX8_takes).cls ∈ ws0 ∧ ((mY MX8_takes).cls ≠ "java/lang/invoke/MethodHandle" ∧ (mY MX8_takes).cls ≠ "java/lang/invoke/VarHandle") ∧ (parseMethodDescriptor (mY MX8_takes).desc).map (fun d => d.parameters.length) = some 2 := ⟨tb5 41 rfl rfl, iiX8, neX8, (by decide +kernel)⟩
set_option maxRecDepth 100000 in
theorem imX8_takes : Cond.instanceMethod yX8_takes ∈ ws0 := tb5 40 rfl rfl
set_option maxRecDepth 100000 in
theorem seX8_takes : Cond.selects (mY MX8_takes).cls (mY MX8_takes) (mY MX8_takes) ∈ ws0 := tb0 57 rfl rfl
set_option maxRecDepth 100000 in
theorem pdX8_takesSmall : Cond.code (mY MX8_takesSmall) (mC MX8_takesSmall) (mN MX8_takesSmall) (mR MX8_takesSmall) ∈ ws0 ∧ Cond.initialized (mY MX8_takesSmall).cls ∈ ws0 ∧ ((mY MX8_takesSmall).cls ≠ "java/lang/invoke/MethodHandle" ∧ (mY MX8_takesSmall).cls ≠ "java/lang/invoke/VarHandle") ∧ (parseMethodDescriptor (mY MX8_takesSmall).desc).map (fun d => d.parameters.length) = some 2 := ⟨tb4 158 rfl rfl, iiX8, neX8, (by decide +kernel)⟩
set_option maxRecDepth 100000 in
theorem imX8_takesSmall : Cond.instanceMethod yX8_takesSmall ∈ ws0 := tb4 157 rfl rfl
set_option maxRecDepth 100000 in
theorem seX8_takesSmall : Cond.selects (mY MX8_takesSmall).cls (mY MX8_takesSmall) (mY MX8_takesSmall) ∈ ws0 := tb0 36 rfl rfl
set_option maxRecDepth 100000 in
theorem pdX8_growsSmall : Cond.code (mY MX8_growsSmall) (mC MX8_growsSmall) (mN MX8_growsSmall) (mR MX8_growsSmall) ∈ ws0 ∧ Cond.initialized (mY MX8_growsSmall).cls ∈ ws0 ∧ ((mY MX8_growsSmall).cls ≠ "java/lang/invoke/MethodHandle" ∧ (mY MX8_growsSmall).cls ≠ "java/lang/invoke/VarHandle") ∧ (parseMethodDescriptor (mY MX8_growsSmall).desc).map (fun d => d.parameters.length) = some 3 := ⟨tb4 221 rfl rfl, iiX8, neX8, (by decide +kernel)⟩
set_option maxRecDepth 100000 in
theorem imX8_growsSmall : Cond.instanceMethod yX8_growsSmall ∈ ws0 := tb4 220 rfl rfl
set_option maxRecDepth 100000 in
theorem seX8_growsSmall : Cond.selects (mY MX8_growsSmall).cls (mY MX8_growsSmall) (mY MX8_growsSmall) ∈ ws0 := tb0 50 rfl rfl
set_option maxRecDepth 100000 in
theorem pdX8_restSmall : Cond.code (mY MX8_restSmall) (mC MX8_restSmall) (mN MX8_restSmall) (mR MX8_restSmall) ∈ ws0 ∧ Cond.initialized (mY MX8_restSmall).cls ∈ ws0 ∧ ((mY MX8_restSmall).cls ≠ "java/lang/invoke/MethodHandle" ∧ (mY MX8_restSmall).cls ≠ "java/lang/invoke/VarHandle") ∧ (parseMethodDescriptor (mY MX8_restSmall).desc).map (fun d => d.parameters.length) = some 2 := ⟨tb4 141 rfl rfl, iiX8, neX8, (by decide +kernel)⟩
set_option maxRecDepth 100000 in
theorem imX8_restSmall : Cond.instanceMethod yX8_restSmall ∈ ws0 := tb4 140 rfl rfl
set_option maxRecDepth 100000 in
theorem seX8_restSmall : Cond.selects (mY MX8_restSmall).cls (mY MX8_restSmall) (mY MX8_restSmall) ∈ ws0 := tb0 32 rfl rfl
set_option maxRecDepth 100000 in
theorem pdX8_shareSmall : Cond.code (mY MX8_shareSmall) (mC MX8_shareSmall) (mN MX8_shareSmall) (mR MX8_shareSmall) ∈ ws0 ∧ Cond.initialized (mY MX8_shareSmall).cls ∈ ws0 ∧ ((mY MX8_shareSmall).cls ≠ "java/lang/invoke/MethodHandle" ∧ (mY MX8_shareSmall).cls ≠ "java/lang/invoke/VarHandle") ∧ (parseMethodDescriptor (mY MX8_shareSmall).desc).map (fun d => d.parameters.length) = some 2 := ⟨tb4 225 rfl rfl, iiX8, neX8, (by decide +kernel)⟩
set_option maxRecDepth 100000 in
theorem imX8_shareSmall : Cond.instanceMethod yX8_shareSmall ∈ ws0 := tb4 224 rfl rfl
set_option maxRecDepth 100000 in
theorem seX8_shareSmall : Cond.selects (mY MX8_shareSmall).cls (mY MX8_shareSmall) (mY MX8_shareSmall) ∈ ws0 := tb0 51 rfl rfl
set_option maxRecDepth 100000 in
theorem pdX8_moveLeft : Cond.code (mY MX8_moveLeft) (mC MX8_moveLeft) (mN MX8_moveLeft) (mR MX8_moveLeft) ∈ ws0 ∧ Cond.initialized (mY MX8_moveLeft).cls ∈ ws0 ∧ ((mY MX8_moveLeft).cls ≠ "java/lang/invoke/MethodHandle" ∧ (mY MX8_moveLeft).cls ≠ "java/lang/invoke/VarHandle") ∧ (parseMethodDescriptor (mY MX8_moveLeft).desc).map (fun d => d.parameters.length) = some 3 := ⟨tb4 195 rfl rfl, iiX8, neX8, (by decide +kernel)⟩
set_option maxRecDepth 100000 in
theorem imX8_moveLeft : Cond.instanceMethod yX8_moveLeft ∈ ws0 := tb4 194 rfl rfl
set_option maxRecDepth 100000 in
theorem seX8_moveLeft : Cond.selects (mY MX8_moveLeft).cls (mY MX8_moveLeft) (mY MX8_moveLeft) ∈ ws0 := tb0 44 rfl rfl
set_option maxRecDepth 100000 in
theorem pdX8_moveRight : Cond.code (mY MX8_moveRight) (mC MX8_moveRight) (mN MX8_moveRight) (mR MX8_moveRight) ∈ ws0 ∧ Cond.initialized (mY MX8_moveRight).cls ∈ ws0 ∧ ((mY MX8_moveRight).cls ≠ "java/lang/invoke/MethodHandle" ∧ (mY MX8_moveRight).cls ≠ "java/lang/invoke/VarHandle") ∧ (parseMethodDescriptor (mY MX8_moveRight).desc).map (fun d => d.parameters.length) = some 2 := ⟨tb4 167 rfl rfl, iiX8, neX8, (by decide +kernel)⟩
set_option maxRecDepth 100000 in
theorem imX8_moveRight : Cond.instanceMethod yX8_moveRight ∈ ws0 := tb4 166 rfl rfl
set_option maxRecDepth 100000 in
theorem seX8_moveRight : Cond.selects (mY MX8_moveRight).cls (mY MX8_moveRight) (mY MX8_moveRight) ∈ ws0 := tb0 38 rfl rfl
set_option maxRecDepth 100000 in
theorem pdX8_times : Cond.code (mY MX8_times) (mC MX8_times) (mN MX8_times) (mR MX8_times) ∈ ws0 ∧ Cond.initialized (mY MX8_times).cls ∈ ws0 ∧ ((mY MX8_times).cls ≠ "java/lang/invoke/MethodHandle" ∧ (mY MX8_times).cls ≠ "java/lang/invoke/VarHandle") ∧ (parseMethodDescriptor (mY MX8_times).desc).map (fun d => d.parameters.length) = some 3 := ⟨tb4 204 rfl rfl, iiX8, neX8, (by decide +kernel)⟩
set_option maxRecDepth 100000 in
theorem imX8_times : Cond.instanceMethod yX8_times ∈ ws0 := tb4 203 rfl rfl
set_option maxRecDepth 100000 in
theorem seX8_times : Cond.selects (mY MX8_times).cls (mY MX8_times) (mY MX8_times) ∈ ws0 := tb0 46 rfl rfl
set_option maxRecDepth 100000 in
theorem pdX8_dividesAt : Cond.code (mY MX8_dividesAt) (mC MX8_dividesAt) (mN MX8_dividesAt) (mR MX8_dividesAt) ∈ ws0 ∧ Cond.initialized (mY MX8_dividesAt).cls ∈ ws0 ∧ ((mY MX8_dividesAt).cls ≠ "java/lang/invoke/MethodHandle" ∧ (mY MX8_dividesAt).cls ≠ "java/lang/invoke/VarHandle") ∧ (parseMethodDescriptor (mY MX8_dividesAt).desc).map (fun d => d.parameters.length) = some 3 := ⟨tb4 199 rfl rfl, iiX8, neX8, (by decide +kernel)⟩
set_option maxRecDepth 100000 in
theorem imX8_dividesAt : Cond.instanceMethod yX8_dividesAt ∈ ws0 := tb4 198 rfl rfl
set_option maxRecDepth 100000 in
theorem seX8_dividesAt : Cond.selects (mY MX8_dividesAt).cls (mY MX8_dividesAt) (mY MX8_dividesAt) ∈ ws0 := tb0 45 rfl rfl
set_option maxRecDepth 100000 in
theorem pdX8_leaves : Cond.code (mY MX8_leaves) (mC MX8_leaves) (mN MX8_leaves) (mR MX8_leaves) ∈ ws0 ∧ Cond.initialized (mY MX8_leaves).cls ∈ ws0 ∧ ((mY MX8_leaves).cls ≠ "java/lang/invoke/MethodHandle" ∧ (mY MX8_leaves).cls ≠ "java/lang/invoke/VarHandle") ∧ (parseMethodDescriptor (mY MX8_leaves).desc).map (fun d => d.parameters.length) = some 2 := ⟨tb4 186 rfl rfl, iiX8, neX8, (by decide +kernel)⟩
set_option maxRecDepth 100000 in
theorem imX8_leaves : Cond.instanceMethod yX8_leaves ∈ ws0 := tb4 185 rfl rfl
set_option maxRecDepth 100000 in
theorem seX8_leaves : Cond.selects (mY MX8_leaves).cls (mY MX8_leaves) (mY MX8_leaves) ∈ ws0 := tb0 42 rfl rfl
set_option maxRecDepth 100000 in
theorem pdX8_bit : Cond.code (mY MX8_bit) (mC MX8_bit) (mN MX8_bit) (mR MX8_bit) ∈ ws0 ∧ Cond.initialized (mY MX8_bit).cls ∈ ws0 ∧ ((mY MX8_bit).cls ≠ "java/lang/invoke/MethodHandle" ∧ (mY MX8_bit).cls ≠ "java/lang/invoke/VarHandle") ∧ (parseMethodDescriptor (mY MX8_bit).desc).map (fun d => d.parameters.length) = some 2 := ⟨tb4 163 rfl rfl, iiX8, neX8, (by decide +kernel)⟩
set_option maxRecDepth 100000 in
theorem imX8_bit : Cond.instanceMethod yX8_bit ∈ ws0 := tb4 162 rfl rfl
set_option maxRecDepth 100000 in
theorem seX8_bit : Cond.selects (mY MX8_bit).cls (mY MX8_bit) (mY MX8_bit) ∈ ws0 := tb0 37 rfl rfl
set_option maxRecDepth 100000 in
theorem pdX8_powers : Cond.code (mY MX8_powers) (mC MX8_powers) (mN MX8_powers) (mR MX8_powers) ∈ ws0 ∧ Cond.initialized (mY MX8_powers).cls ∈ ws0 ∧ ((mY MX8_powers).cls ≠ "java/lang/invoke/MethodHandle" ∧ (mY MX8_powers).cls ≠ "java/lang/invoke/VarHandle") ∧ (parseMethodDescriptor (mY MX8_powers).desc).map (fun d => d.parameters.length) = some 3 := ⟨tb4 182 rfl rfl, iiX8, neX8, (by decide +kernel)⟩
set_option maxRecDepth 100000 in
theorem imX8_powers : Cond.instanceMethod yX8_powers ∈ ws0 := tb4 181 rfl rfl
set_option maxRecDepth 100000 in
theorem seX8_powers : Cond.selects (mY MX8_powers).cls (mY MX8_powers) (mY MX8_powers) ∈ ws0 := tb0 41 rfl rfl
set_option maxRecDepth 100000 in
theorem pdX8_byteAt : Cond.code (mY MX8_byteAt) (mC MX8_byteAt) (mN MX8_byteAt) (mR MX8_byteAt) ∈ ws0 ∧ Cond.initialized (mY MX8_byteAt).cls ∈ ws0 ∧ ((mY MX8_byteAt).cls ≠ "java/lang/invoke/MethodHandle" ∧ (mY MX8_byteAt).cls ≠ "java/lang/invoke/VarHandle") ∧ (parseMethodDescriptor (mY MX8_byteAt).desc).map (fun d => d.parameters.length) = some 3 := ⟨tb5 1 rfl rfl, iiX8, neX8, (by decide +kernel)⟩
set_option maxRecDepth 100000 in
theorem imX8_byteAt : Cond.instanceMethod yX8_byteAt ∈ ws0 := tb5 0 rfl rfl
set_option maxRecDepth 100000 in
theorem seX8_byteAt : Cond.selects (mY MX8_byteAt).cls (mY MX8_byteAt) (mY MX8_byteAt) ∈ ws0 := tb0 53 rfl rfl
set_option maxRecDepth 100000 in
theorem pdX8_byteTo : Cond.code (mY MX8_byteTo) (mC MX8_byteTo) (mN MX8_byteTo) (mR MX8_byteTo) ∈ ws0 ∧ Cond.initialized (mY MX8_byteTo).cls ∈ ws0 ∧ ((mY MX8_byteTo).cls ≠ "java/lang/invoke/MethodHandle" ∧ (mY MX8_byteTo).cls ≠ "java/lang/invoke/VarHandle") ∧ (parseMethodDescriptor (mY MX8_byteTo).desc).map (fun d => d.parameters.length) = some 4 := ⟨tb4 128 rfl rfl, iiX8, neX8, (by decide +kernel)⟩
set_option maxRecDepth 100000 in
theorem imX8_byteTo : Cond.instanceMethod yX8_byteTo ∈ ws0 := tb4 127 rfl rfl
set_option maxRecDepth 100000 in
theorem seX8_byteTo : Cond.selects (mY MX8_byteTo).cls (mY MX8_byteTo) (mY MX8_byteTo) ∈ ws0 := tb0 29 rfl rfl
set_option maxRecDepth 100000 in
theorem pdX8_padded : Cond.code (mY MX8_padded) (mC MX8_padded) (mN MX8_padded) (mR MX8_padded) ∈ ws0 ∧ Cond.initialized (mY MX8_padded).cls ∈ ws0 ∧ ((mY MX8_padded).cls ≠ "java/lang/invoke/MethodHandle" ∧ (mY MX8_padded).cls ≠ "java/lang/invoke/VarHandle") ∧ (parseMethodDescriptor (mY MX8_padded).desc).map (fun d => d.parameters.length) = some 2 := ⟨tb4 117 rfl rfl, iiX8, neX8, (by decide +kernel)⟩
set_option maxRecDepth 100000 in
theorem imX8_padded : Cond.instanceMethod yX8_padded ∈ ws0 := tb4 116 rfl rfl
set_option maxRecDepth 100000 in
theorem seX8_padded : Cond.selects (mY MX8_padded).cls (mY MX8_padded) (mY MX8_padded) ∈ ws0 := tb0 27 rfl rfl
set_option maxRecDepth 100000 in
theorem pdX8_turned : Cond.code (mY MX8_turned) (mC MX8_turned) (mN MX8_turned) (mR MX8_turned) ∈ ws0 ∧ Cond.initialized (mY MX8_turned).cls ∈ ws0 ∧ ((mY MX8_turned).cls ≠ "java/lang/invoke/MethodHandle" ∧ (mY MX8_turned).cls ≠ "java/lang/invoke/VarHandle") ∧ (parseMethodDescriptor (mY MX8_turned).desc).map (fun d => d.parameters.length) = some 2 := ⟨tb4 120 rfl rfl, iiX8, neX8, (by decide +kernel)⟩
set_option maxRecDepth 100000 in
theorem imX8_turned : Cond.static yX8_turned ∈ ws0 := tb4 119 rfl rfl
set_option maxRecDepth 100000 in
theorem pdX8_block : Cond.code (mY MX8_block) (mC MX8_block) (mN MX8_block) (mR MX8_block) ∈ ws0 ∧ Cond.initialized (mY MX8_block).cls ∈ ws0 ∧ ((mY MX8_block).cls ≠ "java/lang/invoke/MethodHandle" ∧ (mY MX8_block).cls ≠ "java/lang/invoke/VarHandle") ∧ (parseMethodDescriptor (mY MX8_block).desc).map (fun d => d.parameters.length) = some 2 := ⟨tb4 113 rfl rfl, iiX8, neX8, (by decide +kernel)⟩
set_option maxRecDepth 100000 in
theorem imX8_block : Cond.instanceMethod yX8_block ∈ ws0 := tb4 112 rfl rfl
set_option maxRecDepth 100000 in
theorem seX8_block : Cond.selects (mY MX8_block).cls (mY MX8_block) (mY MX8_block) ∈ ws0 := tb0 26 rfl rfl
set_option maxRecDepth 100000 in
theorem pdX8_hashes : Cond.code (mY MX8_hashes) (mC MX8_hashes) (mN MX8_hashes) (mR MX8_hashes) ∈ ws0 ∧ Cond.initialized (mY MX8_hashes).cls ∈ ws0 ∧ ((mY MX8_hashes).cls ≠ "java/lang/invoke/MethodHandle" ∧ (mY MX8_hashes).cls ≠ "java/lang/invoke/VarHandle") ∧ (parseMethodDescriptor (mY MX8_hashes).desc).map (fun d => d.parameters.length) = some 0 := ⟨tb4 109 rfl rfl, iiX8, neX8, (by decide +kernel)⟩
set_option maxRecDepth 100000 in
theorem imX8_hashes : Cond.instanceMethod yX8_hashes ∈ ws0 := tb4 108 rfl rfl
set_option maxRecDepth 100000 in
theorem seX8_hashes : Cond.selects (mY MX8_hashes).cls (mY MX8_hashes) (mY MX8_hashes) ∈ ws0 := tb0 25 rfl rfl
set_option maxRecDepth 100000 in
theorem pdX8_hashByte : Cond.code (mY MX8_hashByte) (mC MX8_hashByte) (mN MX8_hashByte) (mR MX8_hashByte) ∈ ws0 ∧ Cond.initialized (mY MX8_hashByte).cls ∈ ws0 ∧ ((mY MX8_hashByte).cls ≠ "java/lang/invoke/MethodHandle" ∧ (mY MX8_hashByte).cls ≠ "java/lang/invoke/VarHandle") ∧ (parseMethodDescriptor (mY MX8_hashByte).desc).map (fun d => d.parameters.length) = some 1 := ⟨tb4 124 rfl rfl, iiX8, neX8, (by decide +kernel)⟩
set_option maxRecDepth 100000 in
theorem imX8_hashByte : Cond.instanceMethod yX8_hashByte ∈ ws0 := tb4 123 rfl rfl
set_option maxRecDepth 100000 in
theorem seX8_hashByte : Cond.selects (mY MX8_hashByte).cls (mY MX8_hashByte) (mY MX8_hashByte) ∈ ws0 := tb0 28 rfl rfl
set_option maxRecDepth 100000 in
theorem pdX8_seed : Cond.code (mY MX8_seed) (mC MX8_seed) (mN MX8_seed) (mR MX8_seed) ∈ ws0 ∧ Cond.initialized (mY MX8_seed).cls ∈ ws0 ∧ ((mY MX8_seed).cls ≠ "java/lang/invoke/MethodHandle" ∧ (mY MX8_seed).cls ≠ "java/lang/invoke/VarHandle") ∧ (parseMethodDescriptor (mY MX8_seed).desc).map (fun d => d.parameters.length) = some 1 := ⟨tb4 82 rfl rfl, iiX8, neX8, (by decide +kernel)⟩
set_option maxRecDepth 100000 in
theorem imX8_seed : Cond.instanceMethod yX8_seed ∈ ws0 := tb4 80 rfl rfl
set_option maxRecDepth 100000 in
theorem seX8_seed : Cond.selects (mY MX8_seed).cls (mY MX8_seed) (mY MX8_seed) ∈ ws0 := tb4 81 rfl rfl
set_option maxRecDepth 100000 in
theorem pdX8_lay : Cond.code (mY MX8_lay) (mC MX8_lay) (mN MX8_lay) (mR MX8_lay) ∈ ws0 ∧ Cond.initialized (mY MX8_lay).cls ∈ ws0 ∧ ((mY MX8_lay).cls ≠ "java/lang/invoke/MethodHandle" ∧ (mY MX8_lay).cls ≠ "java/lang/invoke/VarHandle") ∧ (parseMethodDescriptor (mY MX8_lay).desc).map (fun d => d.parameters.length) = some 1 := ⟨tb4 105 rfl rfl, iiX8, neX8, (by decide +kernel)⟩
set_option maxRecDepth 100000 in
theorem imX8_lay : Cond.instanceMethod yX8_lay ∈ ws0 := tb4 104 rfl rfl
set_option maxRecDepth 100000 in
theorem seX8_lay : Cond.selects (mY MX8_lay).cls (mY MX8_lay) (mY MX8_lay) ∈ ws0 := tb0 24 rfl rfl
set_option maxRecDepth 100000 in
theorem pdX8_draws : Cond.code (mY MX8_draws) (mC MX8_draws) (mN MX8_draws) (mR MX8_draws) ∈ ws0 ∧ Cond.initialized (mY MX8_draws).cls ∈ ws0 ∧ ((mY MX8_draws).cls ≠ "java/lang/invoke/MethodHandle" ∧ (mY MX8_draws).cls ≠ "java/lang/invoke/VarHandle") ∧ (parseMethodDescriptor (mY MX8_draws).desc).map (fun d => d.parameters.length) = some 0 := ⟨tb4 101 rfl rfl, iiX8, neX8, (by decide +kernel)⟩
set_option maxRecDepth 100000 in
theorem imX8_draws : Cond.instanceMethod yX8_draws ∈ ws0 := tb4 100 rfl rfl
set_option maxRecDepth 100000 in
theorem seX8_draws : Cond.selects (mY MX8_draws).cls (mY MX8_draws) (mY MX8_draws) ∈ ws0 := tb0 23 rfl rfl
set_option maxRecDepth 100000 in
theorem pdX8_isDivided : Cond.code (mY MX8_isDivided) (mC MX8_isDivided) (mN MX8_isDivided) (mR MX8_isDivided) ∈ ws0 ∧ Cond.initialized (mY MX8_isDivided).cls ∈ ws0 ∧ ((mY MX8_isDivided).cls ≠ "java/lang/invoke/MethodHandle" ∧ (mY MX8_isDivided).cls ≠ "java/lang/invoke/VarHandle") ∧ (parseMethodDescriptor (mY MX8_isDivided).desc).map (fun d => d.parameters.length) = some 0 := ⟨tb4 137 rfl rfl, iiX8, neX8, (by decide +kernel)⟩
set_option maxRecDepth 100000 in
theorem imX8_isDivided : Cond.instanceMethod yX8_isDivided ∈ ws0 := tb4 136 rfl rfl
set_option maxRecDepth 100000 in
theorem seX8_isDivided : Cond.selects (mY MX8_isDivided).cls (mY MX8_isDivided) (mY MX8_isDivided) ∈ ws0 := tb0 31 rfl rfl
set_option maxRecDepth 100000 in
theorem pdX8_base : Cond.code (mY MX8_base) (mC MX8_base) (mN MX8_base) (mR MX8_base) ∈ ws0 ∧ Cond.initialized (mY MX8_base).cls ∈ ws0 ∧ ((mY MX8_base).cls ≠ "java/lang/invoke/MethodHandle" ∧ (mY MX8_base).cls ≠ "java/lang/invoke/VarHandle") ∧ (parseMethodDescriptor (mY MX8_base).desc).map (fun d => d.parameters.length) = some 1 := ⟨tb4 170 rfl rfl, iiX8, neX8, (by decide +kernel)⟩
set_option maxRecDepth 100000 in
theorem imX8_base : Cond.static yX8_base ∈ ws0 := tb4 169 rfl rfl
set_option maxRecDepth 100000 in
theorem pdX8_passesBy : Cond.code (mY MX8_passesBy) (mC MX8_passesBy) (mN MX8_passesBy) (mR MX8_passesBy) ∈ ws0 ∧ Cond.initialized (mY MX8_passesBy).cls ∈ ws0 ∧ ((mY MX8_passesBy).cls ≠ "java/lang/invoke/MethodHandle" ∧ (mY MX8_passesBy).cls ≠ "java/lang/invoke/VarHandle") ∧ (parseMethodDescriptor (mY MX8_passesBy).desc).map (fun d => d.parameters.length) = some 2 := ⟨tb4 174 rfl rfl, iiX8, neX8, (by decide +kernel)⟩
set_option maxRecDepth 100000 in
theorem imX8_passesBy : Cond.instanceMethod yX8_passesBy ∈ ws0 := tb4 173 rfl rfl
set_option maxRecDepth 100000 in
theorem seX8_passesBy : Cond.selects (mY MX8_passesBy).cls (mY MX8_passesBy) (mY MX8_passesBy) ∈ ws0 := tb0 39 rfl rfl
set_option maxRecDepth 100000 in
theorem pdX8_passes : Cond.code (mY MX8_passes) (mC MX8_passes) (mN MX8_passes) (mR MX8_passes) ∈ ws0 ∧ Cond.initialized (mY MX8_passes).cls ∈ ws0 ∧ ((mY MX8_passes).cls ≠ "java/lang/invoke/MethodHandle" ∧ (mY MX8_passes).cls ≠ "java/lang/invoke/VarHandle") ∧ (parseMethodDescriptor (mY MX8_passes).desc).map (fun d => d.parameters.length) = some 0 := ⟨tb4 150 rfl rfl, iiX8, neX8, (by decide +kernel)⟩
set_option maxRecDepth 100000 in
theorem imX8_passes : Cond.instanceMethod yX8_passes ∈ ws0 := tb4 149 rfl rfl
set_option maxRecDepth 100000 in
theorem seX8_passes : Cond.selects (mY MX8_passes).cls (mY MX8_passes) (mY MX8_passes) ∈ ws0 := tb0 34 rfl rfl
set_option maxRecDepth 100000 in
theorem pdX8_isGood : Cond.code (mY MX8_isGood) (mC MX8_isGood) (mN MX8_isGood) (mR MX8_isGood) ∈ ws0 ∧ Cond.initialized (mY MX8_isGood).cls ∈ ws0 ∧ ((mY MX8_isGood).cls ≠ "java/lang/invoke/MethodHandle" ∧ (mY MX8_isGood).cls ≠ "java/lang/invoke/VarHandle") ∧ (parseMethodDescriptor (mY MX8_isGood).desc).map (fun d => d.parameters.length) = some 0 := ⟨tb4 133 rfl rfl, iiX8, neX8, (by decide +kernel)⟩
set_option maxRecDepth 100000 in
theorem imX8_isGood : Cond.instanceMethod yX8_isGood ∈ ws0 := tb4 132 rfl rfl
set_option maxRecDepth 100000 in
theorem seX8_isGood : Cond.selects (mY MX8_isGood).cls (mY MX8_isGood) (mY MX8_isGood) ∈ ws0 := tb0 30 rfl rfl
set_option maxRecDepth 100000 in
theorem pdX8_inverse : Cond.code (mY MX8_inverse) (mC MX8_inverse) (mN MX8_inverse) (mR MX8_inverse) ∈ ws0 ∧ Cond.initialized (mY MX8_inverse).cls ∈ ws0 ∧ ((mY MX8_inverse).cls ≠ "java/lang/invoke/MethodHandle" ∧ (mY MX8_inverse).cls ≠ "java/lang/invoke/VarHandle") ∧ (parseMethodDescriptor (mY MX8_inverse).desc).map (fun d => d.parameters.length) = some 2 := ⟨tb4 216 rfl rfl, iiX8, neX8, (by decide +kernel)⟩
set_option maxRecDepth 100000 in
theorem imX8_inverse : Cond.instanceMethod yX8_inverse ∈ ws0 := tb4 215 rfl rfl
set_option maxRecDepth 100000 in
theorem seX8_inverse : Cond.selects (mY MX8_inverse).cls (mY MX8_inverse) (mY MX8_inverse) ∈ ws0 := tb0 49 rfl rfl
set_option maxRecDepth 100000 in
theorem pdX8_makesKey : Cond.code (mY MX8_makesKey) (mC MX8_makesKey) (mN MX8_makesKey) (mR MX8_makesKey) ∈ ws0 ∧ Cond.initialized (mY MX8_makesKey).cls ∈ ws0 ∧ ((mY MX8_makesKey).cls ≠ "java/lang/invoke/MethodHandle" ∧ (mY MX8_makesKey).cls ≠ "java/lang/invoke/VarHandle") ∧ (parseMethodDescriptor (mY MX8_makesKey).desc).map (fun d => d.parameters.length) = some 0 := ⟨tb4 212 rfl rfl, iiX8, neX8, (by decide +kernel)⟩
set_option maxRecDepth 100000 in
theorem imX8_makesKey : Cond.instanceMethod yX8_makesKey ∈ ws0 := tb4 211 rfl rfl
set_option maxRecDepth 100000 in
theorem seX8_makesKey : Cond.selects (mY MX8_makesKey).cls (mY MX8_makesKey) (mY MX8_makesKey) ∈ ws0 := tb0 48 rfl rfl
set_option maxRecDepth 100000 in
theorem pdX8_examines : Cond.code (mY MX8_examines) (mC MX8_examines) (mN MX8_examines) (mR MX8_examines) ∈ ws0 ∧ Cond.initialized (mY MX8_examines).cls ∈ ws0 ∧ ((mY MX8_examines).cls ≠ "java/lang/invoke/MethodHandle" ∧ (mY MX8_examines).cls ≠ "java/lang/invoke/VarHandle") ∧ (parseMethodDescriptor (mY MX8_examines).desc).map (fun d => d.parameters.length) = some 0 := ⟨tb4 93 rfl rfl, iiX8, neX8, (by decide +kernel)⟩
set_option maxRecDepth 100000 in
theorem imX8_examines : Cond.instanceMethod yX8_examines ∈ ws0 := tb4 92 rfl rfl
set_option maxRecDepth 100000 in
theorem seX8_examines : Cond.selects (mY MX8_examines).cls (mY MX8_examines) (mY MX8_examines) ∈ ws0 := tb0 21 rfl rfl
set_option maxRecDepth 100000 in
theorem pdX8_search : Cond.code (mY MX8_search) (mC MX8_search) (mN MX8_search) (mR MX8_search) ∈ ws0 ∧ Cond.initialized (mY MX8_search).cls ∈ ws0 ∧ ((mY MX8_search).cls ≠ "java/lang/invoke/MethodHandle" ∧ (mY MX8_search).cls ≠ "java/lang/invoke/VarHandle") ∧ (parseMethodDescriptor (mY MX8_search).desc).map (fun d => d.parameters.length) = some 1 := ⟨tb4 86 rfl rfl, iiX8, neX8, (by decide +kernel)⟩
set_option maxRecDepth 100000 in
theorem imX8_search : Cond.instanceMethod yX8_search ∈ ws0 := tb4 84 rfl rfl
set_option maxRecDepth 100000 in
theorem seX8_search : Cond.selects (mY MX8_search).cls (mY MX8_search) (mY MX8_search) ∈ ws0 := tb4 85 rfl rfl
set_option maxRecDepth 100000 in
theorem pdX8_forget : Cond.code (mY MX8_forget) (mC MX8_forget) (mN MX8_forget) (mR MX8_forget) ∈ ws0 ∧ Cond.initialized (mY MX8_forget).cls ∈ ws0 ∧ ((mY MX8_forget).cls ≠ "java/lang/invoke/MethodHandle" ∧ (mY MX8_forget).cls ≠ "java/lang/invoke/VarHandle") ∧ (parseMethodDescriptor (mY MX8_forget).desc).map (fun d => d.parameters.length) = some 0 := ⟨tb4 229 rfl rfl, iiX8, neX8, (by decide +kernel)⟩
set_option maxRecDepth 100000 in
theorem imX8_forget : Cond.instanceMethod yX8_forget ∈ ws0 := tb4 227 rfl rfl
set_option maxRecDepth 100000 in
theorem seX8_forget : Cond.selects (mY MX8_forget).cls (mY MX8_forget) (mY MX8_forget) ∈ ws0 := tb4 228 rfl rfl
set_option maxRecDepth 100000 in
theorem pdX8_sizeOf : Cond.code (mY MX8_sizeOf) (mC MX8_sizeOf) (mN MX8_sizeOf) (mR MX8_sizeOf) ∈ ws0 ∧ Cond.initialized (mY MX8_sizeOf).cls ∈ ws0 ∧ ((mY MX8_sizeOf).cls ≠ "java/lang/invoke/MethodHandle" ∧ (mY MX8_sizeOf).cls ≠ "java/lang/invoke/VarHandle") ∧ (parseMethodDescriptor (mY MX8_sizeOf).desc).map (fun d => d.parameters.length) = some 1 := ⟨tb4 237 rfl rfl, iiX8, neX8, (by decide +kernel)⟩
set_option maxRecDepth 100000 in
theorem imX8_sizeOf : Cond.instanceMethod yX8_sizeOf ∈ ws0 := tb4 236 rfl rfl
set_option maxRecDepth 100000 in
theorem seX8_sizeOf : Cond.selects (mY MX8_sizeOf).cls (mY MX8_sizeOf) (mY MX8_sizeOf) ∈ ws0 := tb0 52 rfl rfl
set_option maxRecDepth 100000 in
theorem pdX8_key : Cond.code (mY MX8_key) (mC MX8_key) (mN MX8_key) (mR MX8_key) ∈ ws0 ∧ Cond.initialized (mY MX8_key).cls ∈ ws0 ∧ ((mY MX8_key).cls ≠ "java/lang/invoke/MethodHandle" ∧ (mY MX8_key).cls ≠ "java/lang/invoke/VarHandle") ∧ (parseMethodDescriptor (mY MX8_key).desc).map (fun d => d.parameters.length) = some 2 := ⟨tb4 233 rfl rfl, iiX8, neX8, (by decide +kernel)⟩
set_option maxRecDepth 100000 in
theorem imX8_key : Cond.instanceMethod yX8_key ∈ ws0 := tb4 231 rfl rfl
set_option maxRecDepth 100000 in
theorem seX8_key : Cond.selects (mY MX8_key).cls (mY MX8_key) (mY MX8_key) ∈ ws0 := tb4 232 rfl rfl
set_option maxRecDepth 100000 in
theorem pdX8_count : Cond.code (mY MX8_count) (mC MX8_count) (mN MX8_count) (mR MX8_count) ∈ ws0 ∧ Cond.initialized (mY MX8_count).cls ∈ ws0 ∧ ((mY MX8_count).cls ≠ "java/lang/invoke/MethodHandle" ∧ (mY MX8_count).cls ≠ "java/lang/invoke/VarHandle") ∧ (parseMethodDescriptor (mY MX8_count).desc).map (fun d => d.parameters.length) = some 1 := ⟨tb5 5 rfl rfl, iiX8, neX8, (by decide +kernel)⟩
set_option maxRecDepth 100000 in
theorem imX8_count : Cond.instanceMethod yX8_count ∈ ws0 := tb5 3 rfl rfl
set_option maxRecDepth 100000 in
theorem seX8_count : Cond.selects (mY MX8_count).cls (mY MX8_count) (mY MX8_count) ∈ ws0 := tb5 4 rfl rfl
set_option maxRecDepth 100000 in
theorem pdX8_feed : Cond.code (mY MX8_feed) (mC MX8_feed) (mN MX8_feed) (mR MX8_feed) ∈ ws0 ∧ Cond.initialized (mY MX8_feed).cls ∈ ws0 ∧ ((mY MX8_feed).cls ≠ "java/lang/invoke/MethodHandle" ∧ (mY MX8_feed).cls ≠ "java/lang/invoke/VarHandle") ∧ (parseMethodDescriptor (mY MX8_feed).desc).map (fun d => d.parameters.length) = some 2 := ⟨tb5 9 rfl rfl, iiX8, neX8, (by decide +kernel)⟩
set_option maxRecDepth 100000 in
theorem imX8_feed : Cond.instanceMethod yX8_feed ∈ ws0 := tb5 7 rfl rfl
set_option maxRecDepth 100000 in
theorem seX8_feed : Cond.selects (mY MX8_feed).cls (mY MX8_feed) (mY MX8_feed) ∈ ws0 := tb5 8 rfl rfl
set_option maxRecDepth 100000 in
theorem pdX8_cut : Cond.code (mY MX8_cut) (mC MX8_cut) (mN MX8_cut) (mR MX8_cut) ∈ ws0 ∧ Cond.initialized (mY MX8_cut).cls ∈ ws0 ∧ ((mY MX8_cut).cls ≠ "java/lang/invoke/MethodHandle" ∧ (mY MX8_cut).cls ≠ "java/lang/invoke/VarHandle") ∧ (parseMethodDescriptor (mY MX8_cut).desc).map (fun d => d.parameters.length) = some 1 := ⟨tb5 13 rfl rfl, iiX8, neX8, (by decide +kernel)⟩
set_option maxRecDepth 100000 in
theorem imX8_cut : Cond.instanceMethod yX8_cut ∈ ws0 := tb5 11 rfl rfl
set_option maxRecDepth 100000 in
theorem seX8_cut : Cond.selects (mY MX8_cut).cls (mY MX8_cut) (mY MX8_cut) ∈ ws0 := tb5 12 rfl rfl
set_option maxRecDepth 100000 in
theorem pdX8_hashesMessage : Cond.code (mY MX8_hashesMessage) (mC MX8_hashesMessage) (mN MX8_hashesMessage) (mR MX8_hashesMessage) ∈ ws0 ∧ Cond.initialized (mY MX8_hashesMessage).cls ∈ ws0 ∧ ((mY MX8_hashesMessage).cls ≠ "java/lang/invoke/MethodHandle" ∧ (mY MX8_hashesMessage).cls ≠ "java/lang/invoke/VarHandle") ∧ (parseMethodDescriptor (mY MX8_hashesMessage).desc).map (fun d => d.parameters.length) = some 0 := ⟨tb5 21 rfl rfl, iiX8, neX8, (by decide +kernel)⟩
set_option maxRecDepth 100000 in
theorem imX8_hashesMessage : Cond.instanceMethod yX8_hashesMessage ∈ ws0 := tb5 20 rfl rfl
set_option maxRecDepth 100000 in
theorem seX8_hashesMessage : Cond.selects (mY MX8_hashesMessage).cls (mY MX8_hashesMessage) (mY MX8_hashesMessage) ∈ ws0 := tb0 54 rfl rfl
set_option maxRecDepth 100000 in
theorem pdX8_hash : Cond.code (mY MX8_hash) (mC MX8_hash) (mN MX8_hash) (mR MX8_hash) ∈ ws0 ∧ Cond.initialized (mY MX8_hash).cls ∈ ws0 ∧ ((mY MX8_hash).cls ≠ "java/lang/invoke/MethodHandle" ∧ (mY MX8_hash).cls ≠ "java/lang/invoke/VarHandle") ∧ (parseMethodDescriptor (mY MX8_hash).desc).map (fun d => d.parameters.length) = some 1 := ⟨tb5 17 rfl rfl, iiX8, neX8, (by decide +kernel)⟩
set_option maxRecDepth 100000 in
theorem imX8_hash : Cond.instanceMethod yX8_hash ∈ ws0 := tb5 15 rfl rfl
set_option maxRecDepth 100000 in
theorem seX8_hash : Cond.selects (mY MX8_hash).cls (mY MX8_hash) (mY MX8_hash) ∈ ws0 := tb5 16 rfl rfl
set_option maxRecDepth 100000 in
theorem pdX8_encodes : Cond.code (mY MX8_encodes) (mC MX8_encodes) (mN MX8_encodes) (mR MX8_encodes) ∈ ws0 ∧ Cond.initialized (mY MX8_encodes).cls ∈ ws0 ∧ ((mY MX8_encodes).cls ≠ "java/lang/invoke/MethodHandle" ∧ (mY MX8_encodes).cls ≠ "java/lang/invoke/VarHandle") ∧ (parseMethodDescriptor (mY MX8_encodes).desc).map (fun d => d.parameters.length) = some 0 := ⟨tb5 29 rfl rfl, iiX8, neX8, (by decide +kernel)⟩
set_option maxRecDepth 100000 in
theorem imX8_encodes : Cond.instanceMethod yX8_encodes ∈ ws0 := tb5 28 rfl rfl
set_option maxRecDepth 100000 in
theorem seX8_encodes : Cond.selects (mY MX8_encodes).cls (mY MX8_encodes) (mY MX8_encodes) ∈ ws0 := tb0 55 rfl rfl
set_option maxRecDepth 100000 in
theorem pdX8_encoded : Cond.code (mY MX8_encoded) (mC MX8_encoded) (mN MX8_encoded) (mR MX8_encoded) ∈ ws0 ∧ Cond.initialized (mY MX8_encoded).cls ∈ ws0 ∧ ((mY MX8_encoded).cls ≠ "java/lang/invoke/MethodHandle" ∧ (mY MX8_encoded).cls ≠ "java/lang/invoke/VarHandle") ∧ (parseMethodDescriptor (mY MX8_encoded).desc).map (fun d => d.parameters.length) = some 1 := ⟨tb5 25 rfl rfl, iiX8, neX8, (by decide +kernel)⟩
set_option maxRecDepth 100000 in
theorem imX8_encoded : Cond.instanceMethod yX8_encoded ∈ ws0 := tb5 23 rfl rfl
set_option maxRecDepth 100000 in
theorem seX8_encoded : Cond.selects (mY MX8_encoded).cls (mY MX8_encoded) (mY MX8_encoded) ∈ ws0 := tb5 24 rfl rfl
set_option maxRecDepth 100000 in
theorem pdX8_sign : Cond.code (mY MX8_sign) (mC MX8_sign) (mN MX8_sign) (mR MX8_sign) ∈ ws0 ∧ Cond.initialized (mY MX8_sign).cls ∈ ws0 ∧ ((mY MX8_sign).cls ≠ "java/lang/invoke/MethodHandle" ∧ (mY MX8_sign).cls ≠ "java/lang/invoke/VarHandle") ∧ (parseMethodDescriptor (mY MX8_sign).desc).map (fun d => d.parameters.length) = some 0 := ⟨tb5 33 rfl rfl, iiX8, neX8, (by decide +kernel)⟩
set_option maxRecDepth 100000 in
theorem imX8_sign : Cond.instanceMethod yX8_sign ∈ ws0 := tb5 31 rfl rfl
set_option maxRecDepth 100000 in
theorem seX8_sign : Cond.selects (mY MX8_sign).cls (mY MX8_sign) (mY MX8_sign) ∈ ws0 := tb5 32 rfl rfl
set_option maxRecDepth 100000 in
theorem pdX8_exponentE : Cond.code (mY MX8_exponentE) (mC MX8_exponentE) (mN MX8_exponentE) (mR MX8_exponentE) ∈ ws0 ∧ Cond.initialized (mY MX8_exponentE).cls ∈ ws0 ∧ ((mY MX8_exponentE).cls ≠ "java/lang/invoke/MethodHandle" ∧ (mY MX8_exponentE).cls ≠ "java/lang/invoke/VarHandle") ∧ (parseMethodDescriptor (mY MX8_exponentE).desc).map (fun d => d.parameters.length) = some 0 := ⟨tb5 49 rfl rfl, iiX8, neX8, (by decide +kernel)⟩
set_option maxRecDepth 100000 in
theorem imX8_exponentE : Cond.instanceMethod yX8_exponentE ∈ ws0 := tb5 48 rfl rfl
set_option maxRecDepth 100000 in
theorem seX8_exponentE : Cond.selects (mY MX8_exponentE).cls (mY MX8_exponentE) (mY MX8_exponentE) ∈ ws0 := tb0 58 rfl rfl
set_option maxRecDepth 100000 in
theorem pdX8_verify : Cond.code (mY MX8_verify) (mC MX8_verify) (mN MX8_verify) (mR MX8_verify) ∈ ws0 ∧ Cond.initialized (mY MX8_verify).cls ∈ ws0 ∧ ((mY MX8_verify).cls ≠ "java/lang/invoke/MethodHandle" ∧ (mY MX8_verify).cls ≠ "java/lang/invoke/VarHandle") ∧ (parseMethodDescriptor (mY MX8_verify).desc).map (fun d => d.parameters.length) = some 0 := ⟨tb5 45 rfl rfl, iiX8, neX8, (by decide +kernel)⟩
set_option maxRecDepth 100000 in
theorem imX8_verify : Cond.instanceMethod yX8_verify ∈ ws0 := tb5 43 rfl rfl
set_option maxRecDepth 100000 in
theorem seX8_verify : Cond.selects (mY MX8_verify).cls (mY MX8_verify) (mY MX8_verify) ∈ ws0 := tb5 44 rfl rfl
set_option maxRecDepth 100000 in
theorem pdX8_power : Cond.code (mY MX8_power) (mC MX8_power) (mN MX8_power) (mR MX8_power) ∈ ws0 ∧ Cond.initialized (mY MX8_power).cls ∈ ws0 ∧ ((mY MX8_power).cls ≠ "java/lang/invoke/MethodHandle" ∧ (mY MX8_power).cls ≠ "java/lang/invoke/VarHandle") ∧ (parseMethodDescriptor (mY MX8_power).desc).map (fun d => d.parameters.length) = some 1 := ⟨tb5 53 rfl rfl, iiX8, neX8, (by decide +kernel)⟩
set_option maxRecDepth 100000 in
theorem imX8_power : Cond.instanceMethod yX8_power ∈ ws0 := tb5 51 rfl rfl
set_option maxRecDepth 100000 in
theorem seX8_power : Cond.selects (mY MX8_power).cls (mY MX8_power) (mY MX8_power) ∈ ws0 := tb5 52 rfl rfl
set_option maxRecDepth 100000 in
theorem pdX8_encode : Cond.code (mY MX8_encode) (mC MX8_encode) (mN MX8_encode) (mR MX8_encode) ∈ ws0 ∧ Cond.initialized (mY MX8_encode).cls ∈ ws0 ∧ ((mY MX8_encode).cls ≠ "java/lang/invoke/MethodHandle" ∧ (mY MX8_encode).cls ≠ "java/lang/invoke/VarHandle") ∧ (parseMethodDescriptor (mY MX8_encode).desc).map (fun d => d.parameters.length) = some 0 := ⟨tb5 57 rfl rfl, iiX8, neX8, (by decide +kernel)⟩
set_option maxRecDepth 100000 in
theorem imX8_encode : Cond.instanceMethod yX8_encode ∈ ws0 := tb5 55 rfl rfl
set_option maxRecDepth 100000 in
theorem seX8_encode : Cond.selects (mY MX8_encode).cls (mY MX8_encode) (mY MX8_encode) ∈ ws0 := tb5 56 rfl rfl
set_option maxRecDepth 100000 in
theorem pdX8_set : Cond.code (mY MX8_set) (mC MX8_set) (mN MX8_set) (mR MX8_set) ∈ ws0 ∧ Cond.initialized (mY MX8_set).cls ∈ ws0 ∧ ((mY MX8_set).cls ≠ "java/lang/invoke/MethodHandle" ∧ (mY MX8_set).cls ≠ "java/lang/invoke/VarHandle") ∧ (parseMethodDescriptor (mY MX8_set).desc).map (fun d => d.parameters.length) = some 2 := ⟨tb5 61 rfl rfl, iiX8, neX8, (by decide +kernel)⟩
set_option maxRecDepth 100000 in
theorem imX8_set : Cond.instanceMethod yX8_set ∈ ws0 := tb5 59 rfl rfl
set_option maxRecDepth 100000 in
theorem seX8_set : Cond.selects (mY MX8_set).cls (mY MX8_set) (mY MX8_set) ∈ ws0 := tb5 60 rfl rfl
set_option maxRecDepth 100000 in
theorem pdX8_get : Cond.code (mY MX8_get) (mC MX8_get) (mN MX8_get) (mR MX8_get) ∈ ws0 ∧ Cond.initialized (mY MX8_get).cls ∈ ws0 ∧ ((mY MX8_get).cls ≠ "java/lang/invoke/MethodHandle" ∧ (mY MX8_get).cls ≠ "java/lang/invoke/VarHandle") ∧ (parseMethodDescriptor (mY MX8_get).desc).map (fun d => d.parameters.length) = some 1 := ⟨tb5 65 rfl rfl, iiX8, neX8, (by decide +kernel)⟩
set_option maxRecDepth 100000 in
theorem imX8_get : Cond.instanceMethod yX8_get ∈ ws0 := tb5 63 rfl rfl
set_option maxRecDepth 100000 in
theorem seX8_get : Cond.selects (mY MX8_get).cls (mY MX8_get) (mY MX8_get) ∈ ws0 := tb5 64 rfl rfl
set_option maxRecDepth 100000 in
theorem pdX8_mixed : Cond.code (mY MX8_mixed) (mC MX8_mixed) (mN MX8_mixed) (mR MX8_mixed) ∈ ws0 ∧ Cond.initialized (mY MX8_mixed).cls ∈ ws0 ∧ ((mY MX8_mixed).cls ≠ "java/lang/invoke/MethodHandle" ∧ (mY MX8_mixed).cls ≠ "java/lang/invoke/VarHandle") ∧ (parseMethodDescriptor (mY MX8_mixed).desc).map (fun d => d.parameters.length) = some 3 := ⟨tb5 74 rfl rfl, iiX8, neX8, (by decide +kernel)⟩
set_option maxRecDepth 100000 in
theorem imX8_mixed : Cond.instanceMethod yX8_mixed ∈ ws0 := tb5 73 rfl rfl
set_option maxRecDepth 100000 in
theorem seX8_mixed : Cond.selects (mY MX8_mixed).cls (mY MX8_mixed) (mY MX8_mixed) ∈ ws0 := tb0 59 rfl rfl
set_option maxRecDepth 100000 in
theorem pdX8_digest : Cond.code (mY MX8_digest) (mC MX8_digest) (mN MX8_digest) (mR MX8_digest) ∈ ws0 ∧ Cond.initialized (mY MX8_digest).cls ∈ ws0 ∧ ((mY MX8_digest).cls ≠ "java/lang/invoke/MethodHandle" ∧ (mY MX8_digest).cls ≠ "java/lang/invoke/VarHandle") ∧ (parseMethodDescriptor (mY MX8_digest).desc).map (fun d => d.parameters.length) = some 0 := ⟨tb5 69 rfl rfl, iiX8, neX8, (by decide +kernel)⟩
set_option maxRecDepth 100000 in
theorem imX8_digest : Cond.instanceMethod yX8_digest ∈ ws0 := tb5 67 rfl rfl
set_option maxRecDepth 100000 in
theorem seX8_digest : Cond.selects (mY MX8_digest).cls (mY MX8_digest) (mY MX8_digest) ∈ ws0 := tb5 68 rfl rfl
set_option maxRecDepth 100000 in
theorem pdJ6_numberOfLeadingZeros_0f7a4 : Cond.code (mY MJ6_numberOfLeadingZeros_0f7a4) (mC MJ6_numberOfLeadingZeros_0f7a4) (mN MJ6_numberOfLeadingZeros_0f7a4) (mR MJ6_numberOfLeadingZeros_0f7a4) ∈ ws0 ∧ Cond.initialized (mY MJ6_numberOfLeadingZeros_0f7a4).cls ∈ ws0 ∧ ((mY MJ6_numberOfLeadingZeros_0f7a4).cls ≠ "java/lang/invoke/MethodHandle" ∧ (mY MJ6_numberOfLeadingZeros_0f7a4).cls ≠ "java/lang/invoke/VarHandle") ∧ (parseMethodDescriptor (mY MJ6_numberOfLeadingZeros_0f7a4).desc).map (fun d => d.parameters.length) = some 1 := ⟨tb2 198 rfl rfl, iiJ6, neJ6, (by decide +kernel)⟩
set_option maxRecDepth 100000 in
theorem imJ6_numberOfLeadingZeros_0f7a4 : Cond.static yJ6_numberOfLeadingZeros_0f7a4 ∈ ws0 := tb2 197 rfl rfl
set_option maxRecDepth 100000 in
theorem pdJ6_rotateRight_7cf53 : Cond.code (mY MJ6_rotateRight_7cf53) (mC MJ6_rotateRight_7cf53) (mN MJ6_rotateRight_7cf53) (mR MJ6_rotateRight_7cf53) ∈ ws0 ∧ Cond.initialized (mY MJ6_rotateRight_7cf53).cls ∈ ws0 ∧ ((mY MJ6_rotateRight_7cf53).cls ≠ "java/lang/invoke/MethodHandle" ∧ (mY MJ6_rotateRight_7cf53).cls ≠ "java/lang/invoke/VarHandle") ∧ (parseMethodDescriptor (mY MJ6_rotateRight_7cf53).desc).map (fun d => d.parameters.length) = some 2 := ⟨tb2 0 rfl rfl, iiJ6, neJ6, (by decide +kernel)⟩
set_option maxRecDepth 100000 in
theorem imJ6_rotateRight_7cf53 : Cond.static yJ6_rotateRight_7cf53 ∈ ws0 := tb1 239 rfl rfl
set_option maxRecDepth 100000 in
theorem pdJ13_numberOfLeadingZeros_95d88 : Cond.code (mY MJ13_numberOfLeadingZeros_95d88) (mC MJ13_numberOfLeadingZeros_95d88) (mN MJ13_numberOfLeadingZeros_95d88) (mR MJ13_numberOfLeadingZeros_95d88) ∈ ws0 ∧ Cond.initialized (mY MJ13_numberOfLeadingZeros_95d88).cls ∈ ws0 ∧ ((mY MJ13_numberOfLeadingZeros_95d88).cls ≠ "java/lang/invoke/MethodHandle" ∧ (mY MJ13_numberOfLeadingZeros_95d88).cls ≠ "java/lang/invoke/VarHandle") ∧ (parseMethodDescriptor (mY MJ13_numberOfLeadingZeros_95d88).desc).map (fun d => d.parameters.length) = some 1 := ⟨tb2 195 rfl rfl, iiJ13, neJ13, (by decide +kernel)⟩
set_option maxRecDepth 100000 in
theorem imJ13_numberOfLeadingZeros_95d88 : Cond.static yJ13_numberOfLeadingZeros_95d88 ∈ ws0 := tb2 194 rfl rfl
set_option maxRecDepth 100000 in
theorem pdJ9_max_7cf53 : Cond.code (mY MJ9_max_7cf53) (mC MJ9_max_7cf53) (mN MJ9_max_7cf53) (mR MJ9_max_7cf53) ∈ ws0 ∧ Cond.initialized (mY MJ9_max_7cf53).cls ∈ ws0 ∧ ((mY MJ9_max_7cf53).cls ≠ "java/lang/invoke/MethodHandle" ∧ (mY MJ9_max_7cf53).cls ≠ "java/lang/invoke/VarHandle") ∧ (parseMethodDescriptor (mY MJ9_max_7cf53).desc).map (fun d => d.parameters.length) = some 2 := ⟨tb1 28 rfl rfl, iiJ9, neJ9, (by decide +kernel)⟩
set_option maxRecDepth 100000 in
theorem imJ9_max_7cf53 : Cond.static yJ9_max_7cf53 ∈ ws0 := tb1 27 rfl rfl
set_option maxRecDepth 100000 in
theorem pdJ9_min_7cf53 : Cond.code (mY MJ9_min_7cf53) (mC MJ9_min_7cf53) (mN MJ9_min_7cf53) (mR MJ9_min_7cf53) ∈ ws0 ∧ Cond.initialized (mY MJ9_min_7cf53).cls ∈ ws0 ∧ ((mY MJ9_min_7cf53).cls ≠ "java/lang/invoke/MethodHandle" ∧ (mY MJ9_min_7cf53).cls ≠ "java/lang/invoke/VarHandle") ∧ (parseMethodDescriptor (mY MJ9_min_7cf53).desc).map (fun d => d.parameters.length) = some 2 := ⟨tb1 25 rfl rfl, iiJ9, neJ9, (by decide +kernel)⟩
set_option maxRecDepth 100000 in
theorem imJ9_min_7cf53 : Cond.static yJ9_min_7cf53 ∈ ws0 := tb1 24 rfl rfl
set_option maxRecDepth 100000 in
theorem pdJ7_fill_d0a16 : Cond.code (mY MJ7_fill_d0a16) (mC MJ7_fill_d0a16) (mN MJ7_fill_d0a16) (mR MJ7_fill_d0a16) ∈ ws0 ∧ Cond.initialized (mY MJ7_fill_d0a16).cls ∈ ws0 ∧ ((mY MJ7_fill_d0a16).cls ≠ "java/lang/invoke/MethodHandle" ∧ (mY MJ7_fill_d0a16).cls ≠ "java/lang/invoke/VarHandle") ∧ (parseMethodDescriptor (mY MJ7_fill_d0a16).desc).map (fun d => d.parameters.length) = some 2 := ⟨tb2 181 rfl rfl, iiJ7, neJ7, (by decide +kernel)⟩
set_option maxRecDepth 100000 in
theorem imJ7_fill_d0a16 : Cond.static yJ7_fill_d0a16 ∈ ws0 := tb2 180 rfl rfl
set_option maxRecDepth 100000 in
theorem pdL_cell : Cond.code (mY ML_cell) (mC ML_cell) (mN ML_cell) (mR ML_cell) ∈ ws0 ∧ Cond.initialized (mY ML_cell).cls ∈ ws0 ∧ ((mY ML_cell).cls ≠ "java/lang/invoke/MethodHandle" ∧ (mY ML_cell).cls ≠ "java/lang/invoke/VarHandle") ∧ (parseMethodDescriptor (mY ML_cell).desc).map (fun d => d.parameters.length) = some 2 := ⟨tb3 170 rfl rfl, iiL, neL, (by decide +kernel)⟩
set_option maxRecDepth 100000 in
theorem imL_cell : Cond.static yL_cell ∈ ws0 := tb3 169 rfl rfl
end
section
set_option maxRecDepth 100000 in
theorem obX0 : Cond.methodLink RX0 3 Lib.objectInit ∈ ws0 := tb1 34 rfl rfl
set_option maxRecDepth 100000 in
theorem kX0_17 : ab_N RX0 17 1 MX6_init 0 := ⟨rfl, pdX6_init.1, pdX6_init.2.1, pdX6_init.2.2.1, pdX6_init.2.2.2, rfl, imX6_init⟩
set_option maxRecDepth 100000 in
theorem kX0_32 : ab_V RX0 32 MX0_putWord 1 := ⟨⟨tb2 70 rfl rfl, pdX0_putWord⟩, imX0_putWord, seX0_putWord⟩
set_option maxRecDepth 100000 in
theorem kX0_36 : ab_V RX0 36 MX6_hashFirst 2 := ⟨⟨tb2 98 rfl rfl, pdX6_hashFirst⟩, imX6_hashFirst, seX6_hashFirst⟩
set_option maxRecDepth 100000 in
theorem kX0_40 : ab_V RX0 40 MX6_byteAt 1 := ⟨⟨tb2 99 rfl rfl, pdX6_byteAt⟩, imX6_byteAt, seX6_byteAt⟩
set_option maxRecDepth 100000 in
theorem obX1 : Cond.methodLink RX1 1 Lib.objectInit ∈ ws0 := tb1 71 rfl rfl
set_option maxRecDepth 100000 in
theorem kX1_20 : ab_T RX1 20 MJ9_max_7cf53 2 := ⟨⟨tb1 72 rfl rfl, pdJ9_max_7cf53⟩, imJ9_max_7cf53⟩
set_option maxRecDepth 100000 in
theorem kX1_28 : ab_I RX1 28 MX4_init 1 := ⟨⟨tb1 75 rfl rfl, pdX4_init⟩, rfl, imX4_init⟩
set_option maxRecDepth 100000 in
theorem kX1_67 : ab_V RX1 67 MX1_drawCandidate 0 := ⟨⟨tb2 90 rfl rfl, pdX1_drawCandidate⟩, imX1_drawCandidate, seX1_drawCandidate⟩
set_option maxRecDepth 100000 in
theorem kX1_70 : ab_V RX1 70 MX1_hasSmallDivisor 0 := ⟨⟨tb2 108 rfl rfl, pdX1_hasSmallDivisor⟩, imX1_hasSmallDivisor, seX1_hasSmallDivisor⟩
set_option maxRecDepth 100000 in
theorem kX1_74 : ab_V RX1 74 MX1_isGood 0 := ⟨⟨tb2 117 rfl rfl, pdX1_isGood⟩, imX1_isGood, seX1_isGood⟩
set_option maxRecDepth 100000 in
theorem kX1_77 : ab_T RX1 77 MX5_copy 2 := ⟨⟨tb2 126 rfl rfl, pdX5_copy⟩, imX5_copy⟩
set_option maxRecDepth 100000 in
theorem kX1_83 : ab_V RX1 83 MX0_nextByte 0 := ⟨⟨tb2 94 rfl rfl, pdX0_nextByte⟩, imX0_nextByte, seX0_nextByte⟩
set_option maxRecDepth 100000 in
theorem kX1_89 : ab_T RX1 89 MX5_putByte 3 := ⟨⟨tb2 103 rfl rfl, pdX5_putByte⟩, imX5_putByte⟩
set_option maxRecDepth 100000 in
theorem kX1_97 : ab_T RX1 97 MX5_remainder 2 := ⟨⟨tb2 114 rfl rfl, pdX5_remainder⟩, imX5_remainder⟩
set_option maxRecDepth 100000 in
theorem kX1_104 : ab_T RX1 104 MX5_order 2 := ⟨⟨tb2 122 rfl rfl, pdX5_order⟩, imX5_order⟩
set_option maxRecDepth 100000 in
theorem kX1_108 : ab_T RX1 108 MX5_lessen 2 := ⟨⟨tb2 129 rfl rfl, pdX5_lessen⟩, imX5_lessen⟩
set_option maxRecDepth 100000 in
theorem kX1_112 : ab_T RX1 112 MX5_halveUntilOdd 1 := ⟨⟨tb2 133 rfl rfl, pdX5_halveUntilOdd⟩, imX5_halveUntilOdd⟩
set_option maxRecDepth 100000 in
theorem kX1_116 : ab_V RX1 116 MX4_choose 1 := ⟨⟨tb2 142 rfl rfl, pdX4_choose⟩, imX4_choose, seX4_choose⟩
set_option maxRecDepth 100000 in
theorem kX1_123 : ab_V RX1 123 MX1_passes 2 := ⟨⟨tb2 166 rfl rfl, pdX1_passes⟩, imX1_passes, seX1_passes⟩
set_option maxRecDepth 100000 in
theorem kX1_127 : ab_T RX1 127 MX5_putSmall 2 := ⟨⟨tb2 170 rfl rfl, pdX5_putSmall⟩, imX5_putSmall⟩
set_option maxRecDepth 100000 in
theorem kX1_130 : ab_V RX1 130 MX4_raise 3 := ⟨⟨tb2 171 rfl rfl, pdX4_raise⟩, imX4_raise, seX4_raise⟩
set_option maxRecDepth 100000 in
theorem kX1_134 : ab_T RX1 134 MX5_isOne 1 := ⟨⟨tb2 201 rfl rfl, pdX5_isOne⟩, imX5_isOne⟩
set_option maxRecDepth 100000 in
theorem kX1_138 : ab_V RX1 138 MX4_times 3 := ⟨⟨tb2 205 rfl rfl, pdX4_times⟩, imX4_times, seX4_times⟩
set_option maxRecDepth 100000 in
theorem obX2 : Cond.methodLink RX2 1 Lib.objectInit ∈ ws0 := tb1 157 rfl rfl
set_option maxRecDepth 100000 in
theorem kX2_7 : ab_T RX2 7 MJ9_max_7cf53 2 := ⟨⟨tb1 158 rfl rfl, pdJ9_max_7cf53⟩, imJ9_max_7cf53⟩
set_option maxRecDepth 100000 in
theorem kX2_15 : ab_I RX2 15 MX4_init 1 := ⟨⟨tb1 160 rfl rfl, pdX4_init⟩, rfl, imX4_init⟩
set_option maxRecDepth 100000 in
theorem kX2_74 : ab_T RX2 74 MX5_order 2 := ⟨⟨tb2 225 rfl rfl, pdX5_order⟩, imX5_order⟩
set_option maxRecDepth 100000 in
theorem kX2_80 : ab_T RX2 80 MX5_copy 2 := ⟨⟨tb2 226 rfl rfl, pdX5_copy⟩, imX5_copy⟩
set_option maxRecDepth 100000 in
theorem kX2_84 : ab_T RX2 84 MX5_multiply 3 := ⟨⟨tb2 227 rfl rfl, pdX5_multiply⟩, imX5_multiply⟩
set_option maxRecDepth 100000 in
theorem kX2_88 : ab_V RX2 88 MX4_choose 1 := ⟨⟨tb2 231 rfl rfl, pdX4_choose⟩, imX4_choose, seX4_choose⟩
set_option maxRecDepth 100000 in
theorem kX2_92 : ab_V RX2 92 MX2_findPrivateNumbers 0 := ⟨⟨tb2 232 rfl rfl, pdX2_findPrivateNumbers⟩, imX2_findPrivateNumbers, seX2_findPrivateNumbers⟩
set_option maxRecDepth 100000 in
theorem kX2_95 : ab_V RX2 95 MX2_findInverseOfQ 0 := ⟨⟨tb3 8 rfl rfl, pdX2_findInverseOfQ⟩, imX2_findInverseOfQ, seX2_findInverseOfQ⟩
set_option maxRecDepth 100000 in
theorem kX2_98 : ab_T RX2 98 MX5_lessen 2 := ⟨⟨tb2 236 rfl rfl, pdX5_lessen⟩, imX5_lessen⟩
set_option maxRecDepth 100000 in
theorem kX2_102 : ab_V RX2 102 MX2_invertE 2 := ⟨⟨tb2 237 rfl rfl, pdX2_invertE⟩, imX2_invertE, seX2_invertE⟩
set_option maxRecDepth 100000 in
theorem kX2_107 : ab_V RX2 107 MX4_raise 3 := ⟨⟨tb3 13 rfl rfl, pdX4_raise⟩, imX4_raise, seX4_raise⟩
set_option maxRecDepth 100000 in
theorem kX2_113 : ab_T RX2 113 MX5_remainder 2 := ⟨⟨tb3 3 rfl rfl, pdX5_remainder⟩, imX5_remainder⟩
set_option maxRecDepth 100000 in
theorem kX2_117 : ab_T RX2 117 MX2_inverseByE 1 := ⟨⟨tb3 4 rfl rfl, pdX2_inverseByE⟩, imX2_inverseByE⟩
set_option maxRecDepth 100000 in
theorem kX2_126 : ab_V RX2 126 MX4_reduce 2 := ⟨⟨tb3 113 rfl rfl, pdX4_reduce⟩, imX4_reduce, seX4_reduce⟩
set_option maxRecDepth 100000 in
theorem kX2_129 : ab_T RX2 129 MX5_subtract 3 := ⟨⟨tb3 117 rfl rfl, pdX5_subtract⟩, imX5_subtract⟩
set_option maxRecDepth 100000 in
theorem kX2_133 : ab_T RX2 133 MX5_add 2 := ⟨⟨tb3 118 rfl rfl, pdX5_add⟩, imX5_add⟩
set_option maxRecDepth 100000 in
theorem kX2_136 : ab_V RX2 136 MX4_times 3 := ⟨⟨tb3 121 rfl rfl, pdX4_times⟩, imX4_times, seX4_times⟩
set_option maxRecDepth 100000 in
theorem obX3 : Cond.methodLink RX3 1 Lib.objectInit ∈ ws0 := tb1 218 rfl rfl
set_option maxRecDepth 100000 in
theorem kX3_15 : ab_N RX3 15 2 MX6_init 0 := ⟨rfl, pdX6_init.1, pdX6_init.2.1, pdX6_init.2.2.1, pdX6_init.2.2.2, rfl, imX6_init⟩
set_option maxRecDepth 100000 in
theorem kX3_20 : ab_V RX3 20 MX3_makeHash 0 := ⟨⟨tb1 221 rfl rfl, pdX3_makeHash⟩, imX3_makeHash, seX3_makeHash⟩
set_option maxRecDepth 100000 in
theorem kX3_27 : ab_V RX3 27 MX6_byteAt 1 := ⟨⟨tb3 89 rfl rfl, pdX6_byteAt⟩, imX6_byteAt, seX6_byteAt⟩
set_option maxRecDepth 100000 in
theorem kX3_31 : ab_V RX3 31 MX6_hashFirst 2 := ⟨⟨tb1 225 rfl rfl, pdX6_hashFirst⟩, imX6_hashFirst, seX6_hashFirst⟩
set_option maxRecDepth 100000 in
theorem obX4 : Cond.methodLink RX4 1 Lib.objectInit ∈ ws0 := tb1 78 rfl rfl
set_option maxRecDepth 100000 in
theorem kX4_7 : ab_T RX4 7 MJ9_max_7cf53 2 := ⟨⟨tb1 79 rfl rfl, pdJ9_max_7cf53⟩, imJ9_max_7cf53⟩
set_option maxRecDepth 100000 in
theorem kX4_41 : ab_T RX4 41 MX5_copy 2 := ⟨⟨tb2 146 rfl rfl, pdX5_copy⟩, imX5_copy⟩
set_option maxRecDepth 100000 in
theorem kX4_47 : ab_V RX4 47 MX4_inverseOfLowLimb 0 := ⟨⟨tb2 147 rfl rfl, pdX4_inverseOfLowLimb⟩, imX4_inverseOfLowLimb, seX4_inverseOfLowLimb⟩
set_option maxRecDepth 100000 in
theorem kX4_57 : ab_T RX4 57 MX5_putSmall 2 := ⟨⟨tb2 153 rfl rfl, pdX5_putSmall⟩, imX5_putSmall⟩
set_option maxRecDepth 100000 in
theorem kX4_61 : ab_V RX4 61 MX4_twice 2 := ⟨⟨tb2 156 rfl rfl, pdX4_twice⟩, imX4_twice, seX4_twice⟩
set_option maxRecDepth 100000 in
theorem kX4_67 : ab_T RX4 67 MJ7_fill_d0a16 2 := ⟨⟨tb2 179 rfl rfl, pdJ7_fill_d0a16⟩, imJ7_fill_d0a16⟩
set_option maxRecDepth 100000 in
theorem kX4_72 : ab_T RX4 72 MX5_bitCount 1 := ⟨⟨tb2 190 rfl rfl, pdX5_bitCount⟩, imX5_bitCount⟩
set_option maxRecDepth 100000 in
theorem kX4_76 : ab_T RX4 76 MX5_bitAt 2 := ⟨⟨tb2 200 rfl rfl, pdX5_bitAt⟩, imX5_bitAt⟩
set_option maxRecDepth 100000 in
theorem kX4_80 : ab_V RX4 80 MX4_multiplyCarried 3 := ⟨⟨tb2 175 rfl rfl, pdX4_multiplyCarried⟩, imX4_multiplyCarried, seX4_multiplyCarried⟩
set_option maxRecDepth 100000 in
theorem kX4_84 : ab_T RX4 84 MX5_order 2 := ⟨⟨tb2 160 rfl rfl, pdX5_order⟩, imX5_order⟩
set_option maxRecDepth 100000 in
theorem kX4_88 : ab_T RX4 88 MX5_subtract 3 := ⟨⟨tb2 161 rfl rfl, pdX5_subtract⟩, imX5_subtract⟩
set_option maxRecDepth 100000 in
theorem kX4_92 : ab_V RX4 92 MX4_addProduct 2 := ⟨⟨tb2 182 rfl rfl, pdX4_addProduct⟩, imX4_addProduct, seX4_addProduct⟩
set_option maxRecDepth 100000 in
theorem kX4_95 : ab_V RX4 95 MX4_dropLowLimb 0 := ⟨⟨tb2 186 rfl rfl, pdX4_dropLowLimb⟩, imX4_dropLowLimb, seX4_dropLowLimb⟩
set_option maxRecDepth 100000 in
theorem kX5_13 : ab_T RX5 13 MJ13_numberOfLeadingZeros_95d88 1 := ⟨⟨tb2 193 rfl rfl, pdJ13_numberOfLeadingZeros_95d88⟩, imJ13_numberOfLeadingZeros_95d88⟩
set_option maxRecDepth 100000 in
theorem kX5_21 : ab_T RX5 21 MX5_bitCount 1 := ⟨⟨tb2 204 rfl rfl, pdX5_bitCount⟩, imX5_bitCount⟩
set_option maxRecDepth 100000 in
theorem kX5_25 : ab_T RX5 25 MJ9_min_7cf53 2 := ⟨⟨tb2 125 rfl rfl, pdJ9_min_7cf53⟩, imJ9_min_7cf53⟩
set_option maxRecDepth 100000 in
theorem kX5_31 : ab_T RX5 31 MX5_bitAt 2 := ⟨⟨tb2 136 rfl rfl, pdX5_bitAt⟩, imX5_bitAt⟩
set_option maxRecDepth 100000 in
theorem kX5_35 : ab_T RX5 35 MX5_halve 1 := ⟨⟨tb2 139 rfl rfl, pdX5_halve⟩, imX5_halve⟩
set_option maxRecDepth 100000 in
theorem kX5_39 : ab_T RX5 39 MJ7_fill_d0a16 2 := ⟨⟨tb2 230 rfl rfl, pdJ7_fill_d0a16⟩, imJ7_fill_d0a16⟩
set_option maxRecDepth 100000 in
theorem obX6 : Cond.methodLink RX6 1 Lib.objectInit ∈ ws0 := tb1 40 rfl rfl
set_option maxRecDepth 100000 in
theorem kX6_19 : ab_T RX6 19 MX6_paddedWord 4 := ⟨⟨tb1 231 rfl rfl, pdX6_paddedWord⟩, imX6_paddedWord⟩
set_option maxRecDepth 100000 in
theorem kX6_23 : ab_V RX6 23 MX6_extendSchedule 0 := ⟨⟨tb1 234 rfl rfl, pdX6_extendSchedule⟩, imX6_extendSchedule, seX6_extendSchedule⟩
set_option maxRecDepth 100000 in
theorem kX6_26 : ab_V RX6 26 MX6_mixBlock 0 := ⟨⟨tb2 1 rfl rfl, pdX6_mixBlock⟩, imX6_mixBlock, seX6_mixBlock⟩
set_option maxRecDepth 100000 in
theorem kX6_29 : ab_T RX6 29 MJ6_rotateRight_7cf53 2 := ⟨⟨tb1 238 rfl rfl, pdJ6_rotateRight_7cf53⟩, imJ6_rotateRight_7cf53⟩
set_option maxRecDepth 100000 in
theorem obX7 : Cond.methodLink RX7 1 Lib.objectInit ∈ ws0 := tb1 20 rfl rfl
set_option maxRecDepth 100000 in
theorem kX7_9 : ab_T RX7 9 MJ9_min_7cf53 2 := ⟨⟨tb1 23 rfl rfl, pdJ9_min_7cf53⟩, imJ9_min_7cf53⟩
set_option maxRecDepth 100000 in
theorem kX7_15 : ab_T RX7 15 MJ9_max_7cf53 2 := ⟨⟨tb1 26 rfl rfl, pdJ9_max_7cf53⟩, imJ9_max_7cf53⟩
set_option maxRecDepth 100000 in
theorem kX7_30 : ab_N RX7 30 0 MX0_init 0 := ⟨rfl, pdX0_init.1, pdX0_init.2.1, pdX0_init.2.2.1, pdX0_init.2.2.2, rfl, imX0_init⟩
set_option maxRecDepth 100000 in
theorem kX7_37 : ab_I RX7 37 MX1_init 4 := ⟨⟨tb1 68 rfl rfl, pdX1_init⟩, rfl, imX1_init⟩
set_option maxRecDepth 100000 in
theorem kX7_46 : ab_I RX7 46 MX2_init 1 := ⟨⟨tb1 154 rfl rfl, pdX2_init⟩, rfl, imX2_init⟩
set_option maxRecDepth 100000 in
theorem kX7_55 : ab_I RX7 55 MX3_init 0 := ⟨⟨tb1 215 rfl rfl, pdX3_init⟩, rfl, imX3_init⟩
set_option maxRecDepth 100000 in
theorem kX7_70 : ab_V RX7 70 MX1_hasBegun 0 := ⟨⟨tb2 58 rfl rfl, pdX1_hasBegun⟩, imX1_hasBegun, seX1_hasBegun⟩
set_option maxRecDepth 100000 in
theorem kX7_74 : ab_V RX7 74 MX0_wordCount 0 := ⟨⟨tb2 62 rfl rfl, pdX0_wordCount⟩, imX0_wordCount, seX0_wordCount⟩
set_option maxRecDepth 100000 in
theorem kX7_78 : ab_V RX7 78 MX0_addWord 1 := ⟨⟨tb2 66 rfl rfl, pdX0_addWord⟩, imX0_addWord, seX0_addWord⟩
set_option maxRecDepth 100000 in
theorem kX7_81 : ab_V RX7 81 MX1_begin 0 := ⟨⟨tb2 78 rfl rfl, pdX1_begin⟩, imX1_begin, seX1_begin⟩
set_option maxRecDepth 100000 in
theorem kX7_84 : ab_V RX7 84 MX2_stand 0 := ⟨⟨tb2 82 rfl rfl, pdX2_stand⟩, imX2_stand, seX2_stand⟩
set_option maxRecDepth 100000 in
theorem kX7_87 : ab_V RX7 87 MX1_examineNext 0 := ⟨⟨tb2 86 rfl rfl, pdX1_examineNext⟩, imX1_examineNext, seX1_examineNext⟩
set_option maxRecDepth 100000 in
theorem kX7_90 : ab_V RX7 90 MX1_hasBothPrimes 0 := ⟨⟨tb2 209 rfl rfl, pdX1_hasBothPrimes⟩, imX1_hasBothPrimes, seX1_hasBothPrimes⟩
set_option maxRecDepth 100000 in
theorem kX7_93 : ab_V RX7 93 MX1_firstPrime 0 := ⟨⟨tb2 213 rfl rfl, pdX1_firstPrime⟩, imX1_firstPrime, seX1_firstPrime⟩
set_option maxRecDepth 100000 in
theorem kX7_97 : ab_V RX7 97 MX1_secondPrime 0 := ⟨⟨tb2 217 rfl rfl, pdX1_secondPrime⟩, imX1_secondPrime, seX1_secondPrime⟩
set_option maxRecDepth 100000 in
theorem kX7_100 : ab_V RX7 100 MX2_make 2 := ⟨⟨tb2 221 rfl rfl, pdX2_make⟩, imX2_make, seX2_make⟩
set_option maxRecDepth 100000 in
theorem kX7_104 : ab_V RX7 104 MX1_examinedCount 0 := ⟨⟨tb3 18 rfl rfl, pdX1_examinedCount⟩, imX1_examinedCount, seX1_examinedCount⟩
set_option maxRecDepth 100000 in
theorem kX7_107 : ab_V RX7 107 MX0_clear 0 := ⟨⟨tb3 22 rfl rfl, pdX0_clear⟩, imX0_clear, seX0_clear⟩
set_option maxRecDepth 100000 in
theorem kX7_110 : ab_V RX7 110 MX1_clear 0 := ⟨⟨tb3 26 rfl rfl, pdX1_clear⟩, imX1_clear, seX1_clear⟩
set_option maxRecDepth 100000 in
theorem kX7_111 : ab_V RX7 111 MX2_clear 0 := ⟨⟨tb3 30 rfl rfl, pdX2_clear⟩, imX2_clear, seX2_clear⟩
set_option maxRecDepth 100000 in
theorem kX7_112 : ab_V RX7 112 MX7_bytesOfKeyPart 1 := ⟨⟨tb3 38 rfl rfl, pdX7_bytesOfKeyPart⟩, imX7_bytesOfKeyPart, seX7_bytesOfKeyPart⟩
set_option maxRecDepth 100000 in
theorem kX7_116 : ab_V RX7 116 MX7_byteOfKeyPart 2 := ⟨⟨tb3 42 rfl rfl, pdX7_byteOfKeyPart⟩, imX7_byteOfKeyPart, seX7_byteOfKeyPart⟩
set_option maxRecDepth 100000 in
theorem kX7_119 : ab_V RX7 119 MX1_undividedCount 0 := ⟨⟨tb3 57 rfl rfl, pdX1_undividedCount⟩, imX1_undividedCount, seX1_undividedCount⟩
set_option maxRecDepth 100000 in
theorem kX7_122 : ab_V RX7 122 MX3_byteCount 0 := ⟨⟨tb3 61 rfl rfl, pdX3_byteCount⟩, imX3_byteCount, seX3_byteCount⟩
set_option maxRecDepth 100000 in
theorem kX7_131 : ab_V RX7 131 MX3_append 2 := ⟨⟨tb3 69 rfl rfl, pdX3_append⟩, imX3_append, seX3_append⟩
set_option maxRecDepth 100000 in
theorem kX7_135 : ab_V RX7 135 MX3_keepFirst 1 := ⟨⟨tb3 77 rfl rfl, pdX3_keepFirst⟩, imX3_keepFirst, seX3_keepFirst⟩
set_option maxRecDepth 100000 in
theorem kX7_138 : ab_V RX7 138 MX3_hashByte 1 := ⟨⟨tb3 85 rfl rfl, pdX3_hashByte⟩, imX3_hashByte, seX3_hashByte⟩
set_option maxRecDepth 100000 in
theorem kX7_141 : ab_V RX7 141 MX7_encodedByte 1 := ⟨⟨tb3 94 rfl rfl, pdX7_encodedByte⟩, imX7_encodedByte, seX7_encodedByte⟩
set_option maxRecDepth 100000 in
theorem kX7_144 : ab_V RX7 144 MX7_writeEncoded 1 := ⟨⟨tb3 104 rfl rfl, pdX7_writeEncoded⟩, imX7_writeEncoded, seX7_writeEncoded⟩
set_option maxRecDepth 100000 in
theorem kX7_148 : ab_V RX7 148 MX2_makeSignature 2 := ⟨⟨tb3 109 rfl rfl, pdX2_makeSignature⟩, imX2_makeSignature, seX2_makeSignature⟩
set_option maxRecDepth 100000 in
theorem kX7_151 : ab_V RX7 151 MX2_isBelowN 1 := ⟨⟨tb3 126 rfl rfl, pdX2_isBelowN⟩, imX2_isBelowN, seX2_isBelowN⟩
set_option maxRecDepth 100000 in
theorem kX7_155 : ab_V RX7 155 MX2_raisePublic 2 := ⟨⟨tb3 130 rfl rfl, pdX2_raisePublic⟩, imX2_raisePublic, seX2_raisePublic⟩
set_option maxRecDepth 100000 in
theorem kX7_158 : ab_T RX7 158 MX5_order 2 := ⟨⟨tb3 136 rfl rfl, pdX5_order⟩, imX5_order⟩
set_option maxRecDepth 100000 in
theorem kX7_164 : ab_V RX7 164 MX2_raisePrivate 2 := ⟨⟨tb3 141 rfl rfl, pdX2_raisePrivate⟩, imX2_raisePrivate, seX2_raisePrivate⟩
set_option maxRecDepth 100000 in
theorem kX7_167 : ab_T RX7 167 MX5_byteAt 2 := ⟨⟨tb3 50 rfl rfl, pdX5_byteAt⟩, imX5_byteAt⟩
set_option maxRecDepth 100000 in
theorem kX7_171 : ab_T RX7 171 MX5_putByte 3 := ⟨⟨tb3 108 rfl rfl, pdX5_putByte⟩, imX5_putByte⟩
set_option maxRecDepth 100000 in
theorem kX7_179 : ab_V RX7 179 MX7_digestKey 1 := ⟨⟨tb3 163 rfl rfl, pdX7_digestKey⟩, imX7_digestKey, seX7_digestKey⟩
set_option maxRecDepth 100000 in
theorem kX7_183 : ab_V RX7 183 MX7_count 1 := ⟨⟨tb3 167 rfl rfl, pdX7_count⟩, imX7_count, seX7_count⟩
set_option maxRecDepth 100000 in
theorem kX7_186 : ab_V RX7 186 MX2_part 1 := ⟨⟨tb3 46 rfl rfl, pdX2_part⟩, imX2_part, seX2_part⟩
set_option maxRecDepth 100000 in
theorem obX8 : Cond.methodLink RX8 1 Lib.objectInit ∈ ws0 := tb3 176 rfl rfl
set_option maxRecDepth 100000 in
theorem kX8_116 : ab_V RX8 116 MX8_clear 1 := ⟨⟨tb4 94 rfl rfl, pdX8_clear⟩, imX8_clear, seX8_clear⟩
set_option maxRecDepth 100000 in
theorem kX8_120 : ab_V RX8 120 MX8_longOf 1 := ⟨⟨tb4 187 rfl rfl, pdX8_longOf⟩, imX8_longOf, seX8_longOf⟩
set_option maxRecDepth 100000 in
theorem kX8_128 : ab_V RX8 128 MX8_moveLeft 3 := ⟨⟨tb4 192 rfl rfl, pdX8_moveLeft⟩, imX8_moveLeft, seX8_moveLeft⟩
set_option maxRecDepth 100000 in
theorem kX8_132 : ab_V RX8 132 MX8_dividesAt 3 := ⟨⟨tb4 196 rfl rfl, pdX8_dividesAt⟩, imX8_dividesAt, seX8_dividesAt⟩
set_option maxRecDepth 100000 in
theorem kX8_135 : ab_V RX8 135 MX8_moveRight 2 := ⟨⟨tb4 164 rfl rfl, pdX8_moveRight⟩, imX8_moveRight, seX8_moveRight⟩
set_option maxRecDepth 100000 in
theorem kX8_139 : ab_V RX8 139 MX8_copy 2 := ⟨⟨tb4 151 rfl rfl, pdX8_copy⟩, imX8_copy, seX8_copy⟩
set_option maxRecDepth 100000 in
theorem kX8_142 : ab_V RX8 142 MX8_leaves 2 := ⟨⟨tb4 183 rfl rfl, pdX8_leaves⟩, imX8_leaves, seX8_leaves⟩
set_option maxRecDepth 100000 in
theorem kX8_145 : ab_V RX8 145 MX8_small 2 := ⟨⟨tb4 175 rfl rfl, pdX8_small⟩, imX8_small, seX8_small⟩
set_option maxRecDepth 100000 in
theorem kX8_148 : ab_V RX8 148 MX8_times 3 := ⟨⟨tb4 201 rfl rfl, pdX8_times⟩, imX8_times, seX8_times⟩
set_option maxRecDepth 100000 in
theorem kX8_151 : ab_V RX8 151 MX8_bit 2 := ⟨⟨tb4 160 rfl rfl, pdX8_bit⟩, imX8_bit, seX8_bit⟩
set_option maxRecDepth 100000 in
theorem kX8_159 : ab_V RX8 159 MX8_padded 2 := ⟨⟨tb4 114 rfl rfl, pdX8_padded⟩, imX8_padded, seX8_padded⟩
set_option maxRecDepth 100000 in
theorem kX8_163 : ab_T RX8 163 MX8_turned 2 := ⟨⟨tb4 118 rfl rfl, pdX8_turned⟩, imX8_turned⟩
set_option maxRecDepth 100000 in
theorem kX8_166 : ab_V RX8 166 MX8_block 2 := ⟨⟨tb4 110 rfl rfl, pdX8_block⟩, imX8_block, seX8_block⟩
set_option maxRecDepth 100000 in
theorem kX8_176 : ab_V RX8 176 MX8_lay 1 := ⟨⟨tb4 102 rfl rfl, pdX8_lay⟩, imX8_lay, seX8_lay⟩
set_option maxRecDepth 100000 in
theorem kX8_182 : ab_V RX8 182 MX8_hashes 0 := ⟨⟨tb4 106 rfl rfl, pdX8_hashes⟩, imX8_hashes, seX8_hashes⟩
set_option maxRecDepth 100000 in
theorem kX8_188 : ab_V RX8 188 MX8_hashByte 1 := ⟨⟨tb4 121 rfl rfl, pdX8_hashByte⟩, imX8_hashByte, seX8_hashByte⟩
set_option maxRecDepth 100000 in
theorem kX8_191 : ab_V RX8 191 MX8_restSmall 2 := ⟨⟨tb4 138 rfl rfl, pdX8_restSmall⟩, imX8_restSmall, seX8_restSmall⟩
set_option maxRecDepth 100000 in
theorem kX8_194 : ab_V RX8 194 MX8_powers 3 := ⟨⟨tb4 179 rfl rfl, pdX8_powers⟩, imX8_powers, seX8_powers⟩
set_option maxRecDepth 100000 in
theorem kX8_197 : ab_V RX8 197 MX8_isSmall 2 := ⟨⟨tb4 205 rfl rfl, pdX8_isSmall⟩, imX8_isSmall, seX8_isSmall⟩
set_option maxRecDepth 100000 in
theorem kX8_200 : ab_V RX8 200 MX8_compare 2 := ⟨⟨tb4 143 rfl rfl, pdX8_compare⟩, imX8_compare, seX8_compare⟩
set_option maxRecDepth 100000 in
theorem kX8_203 : ab_V RX8 203 MX8_takesSmall 2 := ⟨⟨tb4 155 rfl rfl, pdX8_takesSmall⟩, imX8_takesSmall, seX8_takesSmall⟩
set_option maxRecDepth 100000 in
theorem kX8_206 : ab_T RX8 206 MX8_base 1 := ⟨⟨tb4 168 rfl rfl, pdX8_base⟩, imX8_base⟩
set_option maxRecDepth 100000 in
theorem kX8_209 : ab_V RX8 209 MX8_passesBy 2 := ⟨⟨tb4 171 rfl rfl, pdX8_passesBy⟩, imX8_passesBy, seX8_passesBy⟩
set_option maxRecDepth 100000 in
theorem kX8_212 : ab_V RX8 212 MX8_isDivided 0 := ⟨⟨tb4 134 rfl rfl, pdX8_isDivided⟩, imX8_isDivided, seX8_isDivided⟩
set_option maxRecDepth 100000 in
theorem kX8_223 : ab_V RX8 223 MX8_passes 0 := ⟨⟨tb4 147 rfl rfl, pdX8_passes⟩, imX8_passes, seX8_passes⟩
set_option maxRecDepth 100000 in
theorem kX8_228 : ab_V RX8 228 MX8_growsSmall 3 := ⟨⟨tb4 218 rfl rfl, pdX8_growsSmall⟩, imX8_growsSmall, seX8_growsSmall⟩
set_option maxRecDepth 100000 in
theorem kX8_231 : ab_V RX8 231 MX8_shareSmall 2 := ⟨⟨tb4 222 rfl rfl, pdX8_shareSmall⟩, imX8_shareSmall, seX8_shareSmall⟩
set_option maxRecDepth 100000 in
theorem kX8_234 : ab_V RX8 234 MX8_inverse 2 := ⟨⟨tb4 213 rfl rfl, pdX8_inverse⟩, imX8_inverse, seX8_inverse⟩
set_option maxRecDepth 100000 in
theorem kX8_240 : ab_V RX8 240 MX8_draws 0 := ⟨⟨tb4 98 rfl rfl, pdX8_draws⟩, imX8_draws, seX8_draws⟩
set_option maxRecDepth 100000 in
theorem kX8_244 : ab_V RX8 244 MX8_byteTo 4 := ⟨⟨tb4 125 rfl rfl, pdX8_byteTo⟩, imX8_byteTo, seX8_byteTo⟩
set_option maxRecDepth 100000 in
theorem kX8_251 : ab_V RX8 251 MX8_isGood 0 := ⟨⟨tb4 130 rfl rfl, pdX8_isGood⟩, imX8_isGood, seX8_isGood⟩
set_option maxRecDepth 100000 in
theorem kX8_254 : ab_V RX8 254 MX8_makesKey 0 := ⟨⟨tb4 209 rfl rfl, pdX8_makesKey⟩, imX8_makesKey, seX8_makesKey⟩
set_option maxRecDepth 100000 in
theorem kX8_257 : ab_T RX8 257 MX8_in 3 := ⟨⟨tb4 87 rfl rfl, pdX8_in⟩, imX8_in⟩
set_option maxRecDepth 100000 in
theorem kX8_261 : ab_V RX8 261 MX8_examines 0 := ⟨⟨tb4 90 rfl rfl, pdX8_examines⟩, imX8_examines, seX8_examines⟩
set_option maxRecDepth 100000 in
theorem kX8_264 : ab_V RX8 264 MX8_sizeOf 1 := ⟨⟨tb4 234 rfl rfl, pdX8_sizeOf⟩, imX8_sizeOf, seX8_sizeOf⟩
set_option maxRecDepth 100000 in
theorem kX8_267 : ab_V RX8 267 MX8_byteAt 3 := ⟨⟨tb4 238 rfl rfl, pdX8_byteAt⟩, imX8_byteAt, seX8_byteAt⟩
set_option maxRecDepth 100000 in
theorem kX8_280 : ab_V RX8 280 MX8_hashesMessage 0 := ⟨⟨tb5 18 rfl rfl, pdX8_hashesMessage⟩, imX8_hashesMessage, seX8_hashesMessage⟩
set_option maxRecDepth 100000 in
theorem kX8_283 : ab_V RX8 283 MX8_encodes 0 := ⟨⟨tb5 26 rfl rfl, pdX8_encodes⟩, imX8_encodes, seX8_encodes⟩
set_option maxRecDepth 100000 in
theorem kX8_286 : ab_V RX8 286 MX8_adds 2 := ⟨⟨tb5 34 rfl rfl, pdX8_adds⟩, imX8_adds, seX8_adds⟩
set_option maxRecDepth 100000 in
theorem kX8_289 : ab_V RX8 289 MX8_takes 2 := ⟨⟨tb5 38 rfl rfl, pdX8_takes⟩, imX8_takes, seX8_takes⟩
set_option maxRecDepth 100000 in
theorem kX8_292 : ab_V RX8 292 MX8_exponentE 0 := ⟨⟨tb5 46 rfl rfl, pdX8_exponentE⟩, imX8_exponentE, seX8_exponentE⟩
set_option maxRecDepth 100000 in
theorem kX8_299 : ab_V RX8 299 MX8_mixed 3 := ⟨⟨tb5 71 rfl rfl, pdX8_mixed⟩, imX8_mixed, seX8_mixed⟩
set_option maxRecDepth 100000 in
theorem kX8_303 : ab_V RX8 303 MX8_count 1 := ⟨⟨tb5 76 rfl rfl, pdX8_count⟩, imX8_count, seX8_count⟩
set_option maxRecDepth 100000 in
theorem kJ13_308 : ab_T RJ13 308 MJ6_numberOfLeadingZeros_0f7a4 1 := ⟨⟨tb2 196 rfl rfl, pdJ6_numberOfLeadingZeros_0f7a4⟩, imJ6_numberOfLeadingZeros_0f7a4⟩
set_option maxRecDepth 100000 in
theorem kL_9 : ab_T RL 9 ML_cell 2 := ⟨⟨tb3 168 rfl rfl, pdL_cell⟩, imL_cell⟩
set_option maxRecDepth 100000 in
theorem kL_15 : ab_I RL 15 MX7_init 2 := ⟨⟨tb1 17 rfl rfl, pdX7_init⟩, rfl, imX7_init⟩
set_option maxRecDepth 100000 in
theorem kL_20 : ab_I RL 20 MX8_init 2 := ⟨⟨tb3 173 rfl rfl, pdX8_init⟩, rfl, imX8_init⟩
set_option maxRecDepth 100000 in
theorem kL_21 : ab_V RL 21 MX7_seed 1 := ⟨⟨tb2 54 rfl rfl, pdX7_seed⟩, imX7_seed, seX7_seed⟩
set_option maxRecDepth 100000 in
theorem kL_25 : ab_V RL 25 MX8_seed 1 := ⟨⟨tb4 79 rfl rfl, pdX8_seed⟩, imX8_seed, seX8_seed⟩
set_option maxRecDepth 100000 in
theorem kL_26 : ab_V RL 26 MX7_search 1 := ⟨⟨tb2 74 rfl rfl, pdX7_search⟩, imX7_search, seX7_search⟩
set_option maxRecDepth 100000 in
theorem kL_29 : ab_V RL 29 MX8_search 1 := ⟨⟨tb4 83 rfl rfl, pdX8_search⟩, imX8_search, seX8_search⟩
set_option maxRecDepth 100000 in
theorem kL_30 : ab_V RL 30 MX7_forget 0 := ⟨⟨tb3 14 rfl rfl, pdX7_forget⟩, imX7_forget, seX7_forget⟩
set_option maxRecDepth 100000 in
theorem kL_34 : ab_V RL 34 MX8_forget 0 := ⟨⟨tb4 226 rfl rfl, pdX8_forget⟩, imX8_forget, seX8_forget⟩
set_option maxRecDepth 100000 in
theorem kL_35 : ab_V RL 35 MX7_key 2 := ⟨⟨tb3 34 rfl rfl, pdX7_key⟩, imX7_key, seX7_key⟩
set_option maxRecDepth 100000 in
theorem kL_39 : ab_V RL 39 MX8_key 2 := ⟨⟨tb4 230 rfl rfl, pdX8_key⟩, imX8_key, seX8_key⟩
set_option maxRecDepth 100000 in
theorem kL_40 : ab_V RL 40 MX7_count 1 := ⟨⟨tb3 53 rfl rfl, pdX7_count⟩, imX7_count, seX7_count⟩
set_option maxRecDepth 100000 in
theorem kL_43 : ab_V RL 43 MX8_count 1 := ⟨⟨tb5 2 rfl rfl, pdX8_count⟩, imX8_count, seX8_count⟩
set_option maxRecDepth 100000 in
theorem kL_46 : ab_V RL 46 MX7_feed 2 := ⟨⟨tb3 65 rfl rfl, pdX7_feed⟩, imX7_feed, seX7_feed⟩
set_option maxRecDepth 100000 in
theorem kL_50 : ab_V RL 50 MX8_feed 2 := ⟨⟨tb5 6 rfl rfl, pdX8_feed⟩, imX8_feed, seX8_feed⟩
set_option maxRecDepth 100000 in
theorem kL_51 : ab_V RL 51 MX7_cut 1 := ⟨⟨tb3 73 rfl rfl, pdX7_cut⟩, imX7_cut, seX7_cut⟩
set_option maxRecDepth 100000 in
theorem kL_54 : ab_V RL 54 MX8_cut 1 := ⟨⟨tb5 10 rfl rfl, pdX8_cut⟩, imX8_cut, seX8_cut⟩
set_option maxRecDepth 100000 in
theorem kL_55 : ab_V RL 55 MX7_hash 1 := ⟨⟨tb3 81 rfl rfl, pdX7_hash⟩, imX7_hash, seX7_hash⟩
set_option maxRecDepth 100000 in
theorem kL_58 : ab_V RL 58 MX8_hash 1 := ⟨⟨tb5 14 rfl rfl, pdX8_hash⟩, imX8_hash, seX8_hash⟩
set_option maxRecDepth 100000 in
theorem kL_59 : ab_V RL 59 MX7_encoded 1 := ⟨⟨tb3 90 rfl rfl, pdX7_encoded⟩, imX7_encoded, seX7_encoded⟩
set_option maxRecDepth 100000 in
theorem kL_62 : ab_V RL 62 MX8_encoded 1 := ⟨⟨tb5 22 rfl rfl, pdX8_encoded⟩, imX8_encoded, seX8_encoded⟩
set_option maxRecDepth 100000 in
theorem kL_63 : ab_V RL 63 MX7_sign 0 := ⟨⟨tb3 100 rfl rfl, pdX7_sign⟩, imX7_sign, seX7_sign⟩
set_option maxRecDepth 100000 in
theorem kL_66 : ab_V RL 66 MX8_sign 0 := ⟨⟨tb5 30 rfl rfl, pdX8_sign⟩, imX8_sign, seX8_sign⟩
set_option maxRecDepth 100000 in
theorem kL_67 : ab_V RL 67 MX7_verify 0 := ⟨⟨tb3 122 rfl rfl, pdX7_verify⟩, imX7_verify, seX7_verify⟩
set_option maxRecDepth 100000 in
theorem kL_70 : ab_V RL 70 MX8_verify 0 := ⟨⟨tb5 42 rfl rfl, pdX8_verify⟩, imX8_verify, seX8_verify⟩
set_option maxRecDepth 100000 in
theorem kL_71 : ab_V RL 71 MX7_power 1 := ⟨⟨tb3 137 rfl rfl, pdX7_power⟩, imX7_power, seX7_power⟩
set_option maxRecDepth 100000 in
theorem kL_75 : ab_V RL 75 MX8_power 1 := ⟨⟨tb5 50 rfl rfl, pdX8_power⟩, imX8_power, seX8_power⟩
set_option maxRecDepth 100000 in
theorem kL_76 : ab_V RL 76 MX7_encode 0 := ⟨⟨tb3 145 rfl rfl, pdX7_encode⟩, imX7_encode, seX7_encode⟩
set_option maxRecDepth 100000 in
theorem kL_79 : ab_V RL 79 MX8_encode 0 := ⟨⟨tb5 54 rfl rfl, pdX8_encode⟩, imX8_encode, seX8_encode⟩
set_option maxRecDepth 100000 in
theorem kL_80 : ab_V RL 80 MX7_set 2 := ⟨⟨tb3 149 rfl rfl, pdX7_set⟩, imX7_set, seX7_set⟩
set_option maxRecDepth 100000 in
theorem kL_83 : ab_V RL 83 MX8_set 2 := ⟨⟨tb5 58 rfl rfl, pdX8_set⟩, imX8_set, seX8_set⟩
set_option maxRecDepth 100000 in
theorem kL_84 : ab_V RL 84 MX7_get 1 := ⟨⟨tb3 153 rfl rfl, pdX7_get⟩, imX7_get, seX7_get⟩
set_option maxRecDepth 100000 in
theorem kL_87 : ab_V RL 87 MX8_get 1 := ⟨⟨tb5 62 rfl rfl, pdX8_get⟩, imX8_get, seX8_get⟩
set_option maxRecDepth 100000 in
theorem kL_88 : ab_V RL 88 MX7_digest 0 := ⟨⟨tb3 157 rfl rfl, pdX7_digest⟩, imX7_digest, seX7_digest⟩
set_option maxRecDepth 100000 in
theorem kL_92 : ab_V RL 92 MX8_digest 0 := ⟨⟨tb5 66 rfl rfl, pdX8_digest⟩, imX8_digest, seX8_digest⟩
end
section
/-! bits of longs: a family of kit/laws/BITS.to-paste -/
theorem wb_tb (n : Nat) : (lN n).toBitVec = BitVec.ofNat 64 n := rfl
theorem wb_inj {a b : Int64} (h : a.toBitVec = b.toBitVec) : a = b := Int64.toBitVec_inj.mp h
theorem wb_tn {n : Nat} (h : n < 2 ^ 64) : (lN n).toBitVec.toNat = n := by rw [wb_tb, BitVec.toNat_ofNat, Nat.mod_eq_of_lt h]
theorem wb_of (x : Int64) : ∃ n, n < 2 ^ 64 ∧ x = lN n := ⟨x.toBitVec.toNat, x.toBitVec.isLt, wb_inj (by rw [wb_tb]; simp)⟩
theorem wb_of32 (x : Int32) : ∃ n, n < 2 ^ 32 ∧ x = nI n := ⟨x.toBitVec.toNat, x.toBitVec.isLt, Int32.toBitVec_inj.mp (by show _ = BitVec.ofNat 32 _; simp)⟩
theorem wb_c : ∀ k, k < 64 → ((nI k).toInt64 &&& 63) = lN k := by decide +kernel
theorem wb_cu : ∀ k, k < 64 → ((nI k).toInt64.toUInt64 &&& Int64.toUInt64 63) = UInt64.ofNat k := by decide +kernel
theorem wb_sm : ∀ k, k < 64 → (BitVec.ofNat 64 k).smod 64 = BitVec.ofNat 64 k := by decide +kernel
theorem wb_pw {a b : Nat} (h : a ≤ b) : 2 ^ b = 2 ^ a * 2 ^ (b - a) := by rw [← Nat.pow_add]; congr 1; omega
theorem wb_lt2 {a b : Nat} (h : a < b) : 2 ^ a < 2 ^ b := Nat.pow_lt_pow_right (by decide) h
theorem wb_mod (n : Nat) : lN n = lN (n % 2 ^ 64) := wb_inj (by rw [wb_tb, wb_tb]; apply BitVec.eq_of_toNat_eq; rw [BitVec.toNat_ofNat, BitVec.toNat_ofNat, Nat.mod_mod])
theorem wb_shr {n k : Nat} (hn : n < 2 ^ 64) (hk : k < 64) : ((lN n).toUInt64 >>> ((nI k).toInt64.toUInt64 &&& Int64.toUInt64 63)).toInt64 = lN (n / 2 ^ k) := by
  rw [wb_cu k hk]
  apply wb_inj
  apply BitVec.eq_of_toNat_eq
  show ((lN n).toUInt64 >>> UInt64.ofNat k).toNat = (BitVec.ofNat 64 _).toNat
  have h1 : (UInt64.ofNat k).toNat = k := by
    show (BitVec.ofNat 64 k).toNat = k
    rw [BitVec.toNat_ofNat, Nat.mod_eq_of_lt (by omega)]
  have h2 : (lN n).toUInt64.toNat = n := wb_tn hn
  rw [UInt64.toNat_shiftRight, h1, h2, Nat.mod_eq_of_lt hk, Nat.shiftRight_eq_div_pow, BitVec.toNat_ofNat, Nat.mod_eq_of_lt (Nat.lt_of_le_of_lt (Nat.div_le_self _ _) hn)]
theorem wb_shl (n : Nat) {k : Nat} (hk : k < 64) : lN n <<< ((nI k).toInt64 &&& 63) = lN (n * 2 ^ k) := by
  rw [wb_c k hk]
  apply wb_inj
  rw [Int64.toBitVec_shiftLeft, wb_tb, wb_tb, wb_tb, wb_sm k hk]
  apply BitVec.eq_of_toNat_eq
  rw [BitVec.shiftLeft_eq', BitVec.toNat_shiftLeft, BitVec.toNat_ofNat, BitVec.toNat_ofNat, BitVec.toNat_ofNat, Nat.mod_eq_of_lt (show k < 2 ^ 64 by omega), Nat.shiftLeft_eq, Nat.mul_mod, Nat.mod_mod, ← Nat.mul_mod]
theorem wb_and {a b : Nat} (ha : a < 2 ^ 64) (hb : b < 2 ^ 64) : lN a &&& lN b = lN (a &&& b) := by
  apply wb_inj
  rw [Int64.toBitVec_and, wb_tb, wb_tb, wb_tb]
  apply BitVec.eq_of_toNat_eq
  rw [BitVec.toNat_and, BitVec.toNat_ofNat, BitVec.toNat_ofNat, BitVec.toNat_ofNat, Nat.mod_eq_of_lt ha, Nat.mod_eq_of_lt hb, Nat.mod_eq_of_lt (Nat.and_lt_two_pow _ hb)]
theorem wb_or {a b : Nat} (ha : a < 2 ^ 64) (hb : b < 2 ^ 64) : lN a ||| lN b = lN (a ||| b) := by
  apply wb_inj
  rw [Int64.toBitVec_or, wb_tb, wb_tb, wb_tb]
  apply BitVec.eq_of_toNat_eq
  rw [BitVec.toNat_or, BitVec.toNat_ofNat, BitVec.toNat_ofNat, BitVec.toNat_ofNat, Nat.mod_eq_of_lt ha, Nat.mod_eq_of_lt hb, Nat.mod_eq_of_lt (Nat.or_lt_two_pow ha hb)]
theorem wb_mask {n k : Nat} (hn : n < 2 ^ 64) (hk : k < 64) : lN n &&& lN (2 ^ k - 1) = lN (n % 2 ^ k) := by
  rw [wb_and hn (by have := wb_lt2 hk; omega), Nat.and_two_pow_sub_one_eq_mod]
theorem wb_a1 {n : Nat} (hn : n < 2 ^ 64) : lN n &&& 1 = lN (n % 2) := wb_mask (k := 1) hn (by decide)
theorem wb_bit {n k : Nat} (hn : n < 2 ^ 64) (hk : k < 64) : ((lN n).toUInt64 >>> ((nI k).toInt64.toUInt64 &&& Int64.toUInt64 63)).toInt64 &&& 1 = lN (n / 2 ^ k % 2) := by
  rw [wb_shr hn hk, wb_a1 (Nat.lt_of_le_of_lt (Nat.div_le_self _ _) hn)]
/-! THE RULES over natural numbers: an int is nI n, a long is lN n -/
theorem wu_eq {w : ab_W} {k : Nat} {c : ab_C} : wu w k c k = c := if_pos rfl
theorem wu_ne {w : ab_W} {k j : Nat} {c x : ab_C} (hne : j ≠ k) (h : w j = x) : wu w k c j = x := (if_neg hne).trans h
theorem wu_wu (w : ab_W) (k : Nat) (c c2 : ab_C) : wu (wu w k c) k c2 = wu w k c2 := by
  funext j
  unfold wu
  split <;> rfl
theorem wu_comm (w : ab_W) {k j : Nat} (c c2 : ab_C) (h : k ≠ j) : wu (wu w k c) j c2 = wu (wu w j c2) k c := by
  funext i
  unfold wu
  by_cases h1 : i = k
  · subst h1
    rw [if_pos rfl, if_neg h]
    simp
  · rw [if_neg h1]
    simp [h1]
theorem wu_self {w : ab_W} {k : Nat} {c : ab_C} (h : w k = c) : wu w k c = w := by
  funext j
  unfold wu
  split
  · rename_i e
    rw [e, h]
  · rfl
theorem iinc1 (n : Nat) : nI n + Int32.ofInt 1 = nI (n + 1) := nI_1 n
theorem iinc2 (n : Nat) : nI n + Int32.ofInt 2 = nI (n + 2) := nI_add n 2
theorem iinc4 (n : Nat) : nI n + Int32.ofInt 4 = nI (n + 4) := nI_add n 4
theorem iinc64 (n : Nat) : nI n + Int32.ofInt 64 = nI (n + 64) := nI_add n 64
theorem iincm1 (n : Nat) : nI (n + 1) + Int32.ofInt (-1) = nI n := pk_m1 n
theorem lN_and32 (n : Nat) : lN n &&& 4294967295 = lN (n % 4294967296) := by
  rw [wb_mod n]
  have h := wb_mask (n := n % 2 ^ 64) (k := 32) (Nat.mod_lt _ (by decide)) (by decide)
  have e : n % 2 ^ 64 % 2 ^ 32 = n % 4294967296 := by omega
  rw [e] at h
  exact h
theorem lN_u32 {n : Nat} (h : n < 18446744073709551616) : ((lN n).toUInt64 >>> ((nI 32).toInt64.toUInt64 &&& Int64.toUInt64 63)).toInt64 = lN (n / 4294967296) := wb_shr (k := 32) h (by decide)
theorem lN_lt64 {a b : Nat} (ha : a < 9223372036854775808) (hb : b < 9223372036854775808) : lN a < lN b ↔ a < b := pk_lLT ha hb
theorem lg_eq0 (x y : Int64) : lg_cmp x y = 0 ↔ x = y := by
  unfold lg_cmp
  constructor
  · intro h
    split at h
    · exact absurd h (by decide)
    · split at h
      · assumption
      · exact absurd h (by decide)
  · intro h
    subst h
    rw [if_neg (fun h => (lg_lt_not h) h), if_pos rfl]
theorem lg_lt0 (x y : Int64) : lg_cmp x y < 0 ↔ x < y := by
  have h1 := lg_cmp_ge x y
  rw [← Int32.not_lt] at h1
  constructor
  · intro h
    exact Int64.not_le.mp fun q => (h1.mpr q) h
  · intro h
    exact Classical.not_not.mp fun q => (Int64.not_le.mpr h) (h1.mp q)
theorem lg_gt0 (x y : Int64) : 0 < lg_cmp x y ↔ y < x := by
  unfold lg_cmp
  constructor
  · intro h
    split at h
    · assumption
    · split at h
      · exact absurd h (by decide)
      · exact absurd h (by decide)
  · intro h
    rw [if_pos h]
    decide
section RULESN
variable {μ : ab_M} {g : ab_G} {uc us pc N : Nat} {L : List (Nat × Value)} {S : List Value} {w : ab_W} {Q : ab_Q}
theorem r_nmI {x : Int32} (k : ∀ y : Int32, y = x → ab_St μ g uc us pc L (.int y :: S) N w Q) : ab_St μ g uc us pc L (.int x :: S) N w Q := k x rfl
theorem r_nmJ {x : Int64} (k : ∀ y : Int64, y = x → ab_St μ g uc us pc L (.long y :: S) N w Q) : ab_St μ g uc us pc L (.long x :: S) N w Q := k x rfl
theorem r_toI {x y : Int32} (h : x = y) (k : ab_St μ g uc us pc L (.int y :: S) N w Q) : ab_St μ g uc us pc L (.int x :: S) N w Q := h ▸ k
theorem r_toJ {x y : Int64} (h : x = y) (k : ab_St μ g uc us pc L (.long y :: S) N w Q) : ab_St μ g uc us pc L (.long x :: S) N w Q := h ▸ k
theorem r_toW {w' : ab_W} (h : w = w') (k : ab_St μ g uc us pc L S N w' Q) : ab_St μ g uc us pc L S N w Q := h ▸ k
theorem r_alen' {a n : Nat} {c : ab_C} (d : decode (mC μ) pc = .ok (.arraylength, 1)) (hw : w a = c) (hr : rdL c = some n) (k : ab_St μ g uc us (pc + 1) L (.int (nI n) :: S) N w Q) : ab_St μ g uc us pc L (.ref a :: S) N w Q := r_alen d (by rw [hw]; exact hr) k
theorem r_iaload' {a n : Nat} {f : Nat → Int32} {i : Int32} {c : ab_C} (d : decode (mC μ) pc = .ok (.iaload, 1)) (hw : w a = c) (hr : rdI c = some (n, f)) (j : Nat) (hi : i = nI j) (hj : j < n) (hn : n < 2147483648) (k : ab_St μ g uc us (pc + 1) L (.int (f j) :: S) N w Q) : ab_St μ g uc us pc L (.int i :: .ref a :: S) N w Q := r_iaload d (by rw [hw]; exact hr) j hi hj hn k
theorem r_laload' {a n : Nat} {f : Nat → Int64} {i : Int32} {c : ab_C} (d : decode (mC μ) pc = .ok (.laload, 1)) (hw : w a = c) (hr : rdJ c = some (n, f)) (j : Nat) (hi : i = nI j) (hj : j < n) (hn : n < 2147483648) (k : ab_St μ g uc us (pc + 1) L (.long (f j) :: S) N w Q) : ab_St μ g uc us pc L (.int i :: .ref a :: S) N w Q := r_laload d (by rw [hw]; exact hr) j hi hj hn k
theorem r_iaddN {a b : Nat} (d : decode (mC μ) pc = .ok (.iadd, 1))  (k : ab_St μ g uc us (pc + 1) L (.int (nI (a + b)) :: S) N w Q) : ab_St μ g uc us pc L (.int (nI b) :: .int (nI a) :: S) N w Q := r_iadd d (by rw [nI_add]; exact k)
theorem r_isubN {a b : Nat} (d : decode (mC μ) pc = .ok (.isub, 1)) (h : b ≤ a) (k : ab_St μ g uc us (pc + 1) L (.int (nI (a - b)) :: S) N w Q) : ab_St μ g uc us pc L (.int (nI b) :: .int (nI a) :: S) N w Q := r_isub d (by rw [pk_sub h]; exact k)
theorem r_imulN {a b : Nat} (d : decode (mC μ) pc = .ok (.imul, 1))  (k : ab_St μ g uc us (pc + 1) L (.int (nI (a * b)) :: S) N w Q) : ab_St μ g uc us pc L (.int (nI b) :: .int (nI a) :: S) N w Q := r_imul d (by rw [pk_mul]; exact k)
theorem r_idivN {a b : Nat} (d : decode (mC μ) pc = .ok (.idiv, 1)) (ha : a < 2147483648) (hb : b < 2147483648) (h0 : 0 < b) (k : ab_St μ g uc us (pc + 1) L (.int (nI (a / b)) :: S) N w Q) : ab_St μ g uc us pc L (.int (nI b) :: .int (nI a) :: S) N w Q := r_idiv d (nI_ne0 h0 hb) (by rw [pk_div ha h0 hb]; exact k)
theorem r_iremN {a b : Nat} (d : decode (mC μ) pc = .ok (.irem, 1)) (ha : a < 2147483648) (hb : b < 2147483648) (h0 : 0 < b) (k : ab_St μ g uc us (pc + 1) L (.int (nI (a % b)) :: S) N w Q) : ab_St μ g uc us pc L (.int (nI b) :: .int (nI a) :: S) N w Q := r_irem d (nI_ne0 h0 hb) (by rw [pk_rem ha h0 hb]; exact k)
theorem s_l' : ∀ n, n < 32 → ((nI n &&& 31).toBitVec.smod 32).toNat = n := by decide +kernel
theorem s_u' : ∀ n, n < 32 → (((nI n).toUInt32 &&& Int32.toUInt32 31).toBitVec % 32).toNat = n := by decide +kernel
theorem r_ishrN {a : Nat} (q : Nat) (hq : q < 32) (d : decode (mC μ) pc = .ok (.ishr, 1)) (ha : a < 2147483648) (k : ab_St μ g uc us (pc + 1) L (.int (nI (a / 2 ^ q)) :: S) N w Q) : ab_St μ g uc us pc L (.int (nI q) :: .int (nI a) :: S) N w Q := r_ishr d (by rw [pk_shrN ha _ q (s_l' q hq)]; exact k)
theorem r_iushrN {a : Nat} (q : Nat) (hq : q < 32) (d : decode (mC μ) pc = .ok (.iushr, 1)) (ha : a < 4294967296) (k : ab_St μ g uc us (pc + 1) L (.int (nI (a / 2 ^ q)) :: S) N w Q) : ab_St μ g uc us pc L (.int (nI q) :: .int (nI a) :: S) N w Q := r_iushr d (by rw [pk_ushrN ha _ q (s_u' q hq)]; exact k)
theorem r_ishlN {a : Nat} (q : Nat) (hq : q < 32) (d : decode (mC μ) pc = .ok (.ishl, 1)) (ha : a * 2 ^ q < 4294967296) (k : ab_St μ g uc us (pc + 1) L (.int (nI (a * 2 ^ q)) :: S) N w Q) : ab_St μ g uc us pc L (.int (nI q) :: .int (nI a) :: S) N w Q := r_ishl d (by rw [pk_shlN _ q (s_l' q hq) ha]; exact k)
theorem r_iandN {a m : Nat} (q : Nat) (hm : (nI m).toBitVec.toNat = 2 ^ q - 1) (d : decode (mC μ) pc = .ok (.iand, 1)) (ha : a < 4294967296) (k : ab_St μ g uc us (pc + 1) L (.int (nI (a % 2 ^ q)) :: S) N w Q) : ab_St μ g uc us pc L (.int (nI m) :: .int (nI a) :: S) N w Q := r_iand d (by rw [pk_andN ha q hm]; exact k)
theorem r_laddN {a b : Nat} (d : decode (mC μ) pc = .ok (.ladd, 1)) (k : ab_St μ g uc us (pc + 1) L (.long (lN (a + b)) :: S) N w Q) : ab_St μ g uc us pc L (.long (lN b) :: .long (lN a) :: S) N w Q := r_ladd d (by rw [lN_add]; exact k)
theorem r_lmulN {a b : Nat} (d : decode (mC μ) pc = .ok (.lmul, 1)) (k : ab_St μ g uc us (pc + 1) L (.long (lN (a * b)) :: S) N w Q) : ab_St μ g uc us pc L (.long (lN b) :: .long (lN a) :: S) N w Q := r_lmul d (by rw [lN_mul]; exact k)
theorem r_lsubN {a b : Nat} (d : decode (mC μ) pc = .ok (.lsub, 1)) (h : b ≤ a) (k : ab_St μ g uc us (pc + 1) L (.long (lN (a - b)) :: S) N w Q) : ab_St μ g uc us pc L (.long (lN b) :: .long (lN a) :: S) N w Q := r_lsub d (by rw [lN_sub h]; exact k)
theorem r_land32 {a : Nat} (d : decode (mC μ) pc = .ok (.land, 1)) (k : ab_St μ g uc us (pc + 1) L (.long (lN (a % 4294967296)) :: S) N w Q) : ab_St μ g uc us pc L (.long 4294967295 :: .long (lN a) :: S) N w Q := r_land d (by rw [lN_and32]; exact k)
theorem r_lushrN {a : Nat} (q : Nat) (hq : q < 64) (d : decode (mC μ) pc = .ok (.lushr, 1)) (ha : a < 18446744073709551616) (k : ab_St μ g uc us (pc + 1) L (.long (lN (a / 2 ^ q)) :: S) N w Q) : ab_St μ g uc us pc L (.int (nI q) :: .long (lN a) :: S) N w Q := r_lushr d (by rw [wb_shr ha hq]; exact k)
theorem r_lshrN {a : Nat} (q : Nat) (hq : q < 64) (d : decode (mC μ) pc = .ok (.lshr, 1)) (ha : a < 9223372036854775808) (k : ab_St μ g uc us (pc + 1) L (.long (lN (a / 2 ^ q)) :: S) N w Q) : ab_St μ g uc us pc L (.int (nI q) :: .long (lN a) :: S) N w Q := r_lshr d (by
  have e : lN a >>> ((nI q).toInt64 &&& 63) = lN (a / 2 ^ q) := by
    rw [wb_c q hq]
    apply Int64.toInt_inj.mp
    have h1 : (lN a >>> lN q).toInt = (lN a).toInt >>> q := by
      show ((lN a).toBitVec.sshiftRight ((lN q).toBitVec.smod 64).toNat).toInt = _
      rw [wb_tb q, wb_sm q hq, BitVec.toInt_sshiftRight]
      congr 1
      rw [BitVec.toNat_ofNat, Nat.mod_eq_of_lt (by omega)]
    have h2 : a / 2 ^ q ≤ a := Nat.div_le_self _ _
    rw [h1, pk_lT ha, pk_lT (by omega), Int.shiftRight_eq_div_pow]
    simp
  rw [e]; exact k)
theorem r_lshlN {a : Nat} (q : Nat) (hq : q < 64) (d : decode (mC μ) pc = .ok (.lshl, 1)) (k : ab_St μ g uc us (pc + 1) L (.long (lN (a * 2 ^ q)) :: S) N w Q) : ab_St μ g uc us pc L (.int (nI q) :: .long (lN a) :: S) N w Q := r_lshl d (by rw [wb_shl a hq]; exact k)
theorem r_i2lN {a : Nat} (d : decode (mC μ) pc = .ok (.i2l, 1)) (ha : a < 2147483648) (k : ab_St μ g uc us (pc + 1) L (.long (lN a) :: S) N w Q) : ab_St μ g uc us pc L (.int (nI a) :: S) N w Q := r_i2l d (by rw [nI_l ha]; exact k)
theorem r_l2iN {a : Nat} (d : decode (mC μ) pc = .ok (.l2i, 1)) (k : ab_St μ g uc us (pc + 1) L (.int (nI a) :: S) N w Q) : ab_St μ g uc us pc L (.long (lN a) :: S) N w Q := r_l2i d (by rw [lN_i]; exact k)
theorem r_icmp_eqN {a b : Nat} {off : Int} {tgt : Nat} (d : decode (mC μ) pc = .ok (.if_icmp .eq off, 3)) (ht : (pc : Int) + off = (tgt : Int)) (ha : a < 2147483648) (hb : b < 2147483648) (kt : a = b → ab_St μ g uc us tgt L S N w Q) (kf : ¬ a = b → ab_St μ g uc us (pc + 3) L S N w Q) : ab_St μ g uc us pc L (.int (nI b) :: .int (nI a) :: S) N w Q := r_icmp_eq d ht (fun h => kt ((nI_eq ha hb).mp h)) (fun h => kf (fun e => h ((nI_eq ha hb).mpr e)))
theorem r_icmp_neN {a b : Nat} {off : Int} {tgt : Nat} (d : decode (mC μ) pc = .ok (.if_icmp .ne off, 3)) (ht : (pc : Int) + off = (tgt : Int)) (ha : a < 2147483648) (hb : b < 2147483648) (kt : ¬ a = b → ab_St μ g uc us tgt L S N w Q) (kf : a = b → ab_St μ g uc us (pc + 3) L S N w Q) : ab_St μ g uc us pc L (.int (nI b) :: .int (nI a) :: S) N w Q := r_icmp_ne d ht (fun h => kt (fun e => h ((nI_eq ha hb).mpr e))) (fun h => kf ((nI_eq ha hb).mp h))
theorem r_icmp_ltN {a b : Nat} {off : Int} {tgt : Nat} (d : decode (mC μ) pc = .ok (.if_icmp .lt off, 3)) (ht : (pc : Int) + off = (tgt : Int)) (ha : a < 2147483648) (hb : b < 2147483648) (kt : a < b → ab_St μ g uc us tgt L S N w Q) (kf : b ≤ a → ab_St μ g uc us (pc + 3) L S N w Q) : ab_St μ g uc us pc L (.int (nI b) :: .int (nI a) :: S) N w Q := r_icmp_lt d ht (fun h => kt ((nI_ltI ha hb).mp h)) (fun h => kf (Nat.le_of_not_lt fun e => h ((nI_ltI ha hb).mpr e)))
theorem r_icmp_geN {a b : Nat} {off : Int} {tgt : Nat} (d : decode (mC μ) pc = .ok (.if_icmp .ge off, 3)) (ht : (pc : Int) + off = (tgt : Int)) (ha : a < 2147483648) (hb : b < 2147483648) (kt : b ≤ a → ab_St μ g uc us tgt L S N w Q) (kf : a < b → ab_St μ g uc us (pc + 3) L S N w Q) : ab_St μ g uc us pc L (.int (nI b) :: .int (nI a) :: S) N w Q := r_icmp_ge d ht (fun h => kt ((nI_leI hb ha).mp h)) (fun h => kf (Nat.lt_of_not_le fun e => h ((nI_leI hb ha).mpr e)))
theorem r_icmp_gtN {a b : Nat} {off : Int} {tgt : Nat} (d : decode (mC μ) pc = .ok (.if_icmp .gt off, 3)) (ht : (pc : Int) + off = (tgt : Int)) (ha : a < 2147483648) (hb : b < 2147483648) (kt : b < a → ab_St μ g uc us tgt L S N w Q) (kf : a ≤ b → ab_St μ g uc us (pc + 3) L S N w Q) : ab_St μ g uc us pc L (.int (nI b) :: .int (nI a) :: S) N w Q := r_icmp_gt d ht (fun h => kt ((nI_ltI hb ha).mp h)) (fun h => kf (Nat.le_of_not_lt fun e => h ((nI_ltI hb ha).mpr e)))
theorem r_icmp_leN {a b : Nat} {off : Int} {tgt : Nat} (d : decode (mC μ) pc = .ok (.if_icmp .le off, 3)) (ht : (pc : Int) + off = (tgt : Int)) (ha : a < 2147483648) (hb : b < 2147483648) (kt : a ≤ b → ab_St μ g uc us tgt L S N w Q) (kf : b < a → ab_St μ g uc us (pc + 3) L S N w Q) : ab_St μ g uc us pc L (.int (nI b) :: .int (nI a) :: S) N w Q := r_icmp_le d ht (fun h => kt ((nI_leI ha hb).mp h)) (fun h => kf (Nat.lt_of_not_le fun e => h ((nI_leI ha hb).mpr e)))
theorem nI_z {a : Nat} (ha : a < 2147483648) : nI a = 0 ↔ a = 0 := nI_eq ha (by decide : (0:Nat) < 2147483648)
theorem r_if_eqN {a : Nat} {off : Int} {tgt : Nat} (d : decode (mC μ) pc = .ok (.ifCond .eq off, 3)) (ht : (pc : Int) + off = (tgt : Int)) (ha : a < 2147483648) (kt : a = 0 → ab_St μ g uc us tgt L S N w Q) (kf : ¬ a = 0 → ab_St μ g uc us (pc + 3) L S N w Q) : ab_St μ g uc us pc L (.int (nI a) :: S) N w Q := r_if_eq d ht (fun h => kt ((nI_z ha).mp h)) (fun h => kf (fun e => h ((nI_z ha).mpr e)))
theorem r_if_neN {a : Nat} {off : Int} {tgt : Nat} (d : decode (mC μ) pc = .ok (.ifCond .ne off, 3)) (ht : (pc : Int) + off = (tgt : Int)) (ha : a < 2147483648) (kt : ¬ a = 0 → ab_St μ g uc us tgt L S N w Q) (kf : a = 0 → ab_St μ g uc us (pc + 3) L S N w Q) : ab_St μ g uc us pc L (.int (nI a) :: S) N w Q := r_if_ne d ht (fun h => kt (fun e => h ((nI_z ha).mpr e))) (fun h => kf ((nI_z ha).mp h))
theorem r_if_ltN {a : Nat} {off : Int} {tgt : Nat} (d : decode (mC μ) pc = .ok (.ifCond .lt off, 3)) (ht : (pc : Int) + off = (tgt : Int)) (ha : a < 2147483648) (kf : True → ab_St μ g uc us (pc + 3) L S N w Q) : ab_St μ g uc us pc L (.int (nI a) :: S) N w Q := r_if_lt d ht (fun h => absurd h (nI_pos ha)) (fun _ => kf trivial)
theorem r_if_geN {a : Nat} {off : Int} {tgt : Nat} (d : decode (mC μ) pc = .ok (.ifCond .ge off, 3)) (ht : (pc : Int) + off = (tgt : Int)) (ha : a < 2147483648) (kt : True → ab_St μ g uc us tgt L S N w Q) : ab_St μ g uc us pc L (.int (nI a) :: S) N w Q := r_if_ge d ht (fun _ => kt trivial) (fun h => absurd (nI_pos' ha) h)
theorem r_if_gtN {a : Nat} {off : Int} {tgt : Nat} (d : decode (mC μ) pc = .ok (.ifCond .gt off, 3)) (ht : (pc : Int) + off = (tgt : Int)) (ha : a < 2147483648) (kt : 0 < a → ab_St μ g uc us tgt L S N w Q) (kf : a = 0 → ab_St μ g uc us (pc + 3) L S N w Q) : ab_St μ g uc us pc L (.int (nI a) :: S) N w Q := r_if_gt d ht (fun h => kt (Nat.pos_of_ne_zero fun e => by subst e; exact absurd h (by decide))) (fun h => kf (Nat.eq_zero_of_not_pos fun e => h ((nI_ltI (a := 0) (by decide) ha).mpr e)))
theorem r_if_leN {a : Nat} {off : Int} {tgt : Nat} (d : decode (mC μ) pc = .ok (.ifCond .le off, 3)) (ht : (pc : Int) + off = (tgt : Int)) (ha : a < 2147483648) (kt : a = 0 → ab_St μ g uc us tgt L S N w Q) (kf : 0 < a → ab_St μ g uc us (pc + 3) L S N w Q) : ab_St μ g uc us pc L (.int (nI a) :: S) N w Q := r_if_le d ht (fun h => kt (Nat.eq_zero_of_not_pos fun e => nI_nle e ha h)) (fun h => kf (Nat.pos_of_ne_zero fun e => by subst e; exact absurd (by decide) h))
theorem r_lcmp_eq {x y : Int64} {off : Int} {tgt : Nat} (d1 : decode (mC μ) pc = .ok (.lcmp, 1)) (d : decode (mC μ) (pc + 1) = .ok (.ifCond .eq off, 3)) (ht : ((pc + 1 : Nat) : Int) + off = (tgt : Int)) (kt : x = y → ab_St μ g uc us tgt L S N w Q) (kf : ¬ x = y → ab_St μ g uc us (pc + 1 + 3) L S N w Q) : ab_St μ g uc us pc L (.long y :: .long x :: S) N w Q := r_lcmp d1 (r_if_eq d ht (fun h => kt ((lg_eq0 x y).mp h)) (fun h => kf (fun e => h ((lg_eq0 x y).mpr e))))
theorem r_lcmp_ne {x y : Int64} {off : Int} {tgt : Nat} (d1 : decode (mC μ) pc = .ok (.lcmp, 1)) (d : decode (mC μ) (pc + 1) = .ok (.ifCond .ne off, 3)) (ht : ((pc + 1 : Nat) : Int) + off = (tgt : Int)) (kt : ¬ x = y → ab_St μ g uc us tgt L S N w Q) (kf : x = y → ab_St μ g uc us (pc + 1 + 3) L S N w Q) : ab_St μ g uc us pc L (.long y :: .long x :: S) N w Q := r_lcmp d1 (r_if_ne d ht (fun h => kt (fun e => h ((lg_eq0 x y).mpr e))) (fun h => kf ((lg_eq0 x y).mp h)))
theorem r_lcmp_lt {x y : Int64} {off : Int} {tgt : Nat} (d1 : decode (mC μ) pc = .ok (.lcmp, 1)) (d : decode (mC μ) (pc + 1) = .ok (.ifCond .lt off, 3)) (ht : ((pc + 1 : Nat) : Int) + off = (tgt : Int)) (kt : x < y → ab_St μ g uc us tgt L S N w Q) (kf : ¬ x < y → ab_St μ g uc us (pc + 1 + 3) L S N w Q) : ab_St μ g uc us pc L (.long y :: .long x :: S) N w Q := r_lcmp d1 (r_if_lt d ht (fun h => kt ((lg_lt0 x y).mp h)) (fun h => kf (fun e => h ((lg_lt0 x y).mpr e))))
theorem r_lcmp_ge {x y : Int64} {off : Int} {tgt : Nat} (d1 : decode (mC μ) pc = .ok (.lcmp, 1)) (d : decode (mC μ) (pc + 1) = .ok (.ifCond .ge off, 3)) (ht : ((pc + 1 : Nat) : Int) + off = (tgt : Int)) (kt : ¬ x < y → ab_St μ g uc us tgt L S N w Q) (kf : x < y → ab_St μ g uc us (pc + 1 + 3) L S N w Q) : ab_St μ g uc us pc L (.long y :: .long x :: S) N w Q := r_lcmp d1 (r_if_ge d ht (fun h => kt (fun e => (Int32.not_lt.mpr h) ((lg_lt0 x y).mpr e))) (fun h => kf ((lg_lt0 x y).mp (Int32.not_le.mp h))))
theorem r_lcmp_gt {x y : Int64} {off : Int} {tgt : Nat} (d1 : decode (mC μ) pc = .ok (.lcmp, 1)) (d : decode (mC μ) (pc + 1) = .ok (.ifCond .gt off, 3)) (ht : ((pc + 1 : Nat) : Int) + off = (tgt : Int)) (kt : y < x → ab_St μ g uc us tgt L S N w Q) (kf : ¬ y < x → ab_St μ g uc us (pc + 1 + 3) L S N w Q) : ab_St μ g uc us pc L (.long y :: .long x :: S) N w Q := r_lcmp d1 (r_if_gt d ht (fun h => kt ((lg_gt0 x y).mp h)) (fun h => kf (fun e => h ((lg_gt0 x y).mpr e))))
theorem r_lcmp_le {x y : Int64} {off : Int} {tgt : Nat} (d1 : decode (mC μ) pc = .ok (.lcmp, 1)) (d : decode (mC μ) (pc + 1) = .ok (.ifCond .le off, 3)) (ht : ((pc + 1 : Nat) : Int) + off = (tgt : Int)) (kt : ¬ y < x → ab_St μ g uc us tgt L S N w Q) (kf : y < x → ab_St μ g uc us (pc + 1 + 3) L S N w Q) : ab_St μ g uc us pc L (.long y :: .long x :: S) N w Q := r_lcmp d1 (r_if_le d ht (fun h => kt (fun e => (Int32.not_lt.mpr h) ((lg_gt0 x y).mpr e))) (fun h => kf ((lg_gt0 x y).mp (Int32.not_le.mp h))))
theorem r_lcmp_eqN {a b : Nat} {off : Int} {tgt : Nat} (d1 : decode (mC μ) pc = .ok (.lcmp, 1)) (d : decode (mC μ) (pc + 1) = .ok (.ifCond .eq off, 3)) (ht : ((pc + 1 : Nat) : Int) + off = (tgt : Int)) (ha : a < 9223372036854775808) (hb : b < 9223372036854775808) (kt : a = b → ab_St μ g uc us tgt L S N w Q) (kf : ¬ a = b → ab_St μ g uc us (pc + 1 + 3) L S N w Q) : ab_St μ g uc us pc L (.long (lN b) :: .long (lN a) :: S) N w Q := r_lcmp_eq d1 d ht (fun h => kt ((pk_lEQ ha hb).mp h)) (fun h => kf (fun e => h ((pk_lEQ ha hb).mpr e)))
theorem r_lcmp_neN {a b : Nat} {off : Int} {tgt : Nat} (d1 : decode (mC μ) pc = .ok (.lcmp, 1)) (d : decode (mC μ) (pc + 1) = .ok (.ifCond .ne off, 3)) (ht : ((pc + 1 : Nat) : Int) + off = (tgt : Int)) (ha : a < 9223372036854775808) (hb : b < 9223372036854775808) (kt : ¬ a = b → ab_St μ g uc us tgt L S N w Q) (kf : a = b → ab_St μ g uc us (pc + 1 + 3) L S N w Q) : ab_St μ g uc us pc L (.long (lN b) :: .long (lN a) :: S) N w Q := r_lcmp_ne d1 d ht (fun h => kt (fun e => h ((pk_lEQ ha hb).mpr e))) (fun h => kf ((pk_lEQ ha hb).mp h))
theorem r_lcmp_ltN {a b : Nat} {off : Int} {tgt : Nat} (d1 : decode (mC μ) pc = .ok (.lcmp, 1)) (d : decode (mC μ) (pc + 1) = .ok (.ifCond .lt off, 3)) (ht : ((pc + 1 : Nat) : Int) + off = (tgt : Int)) (ha : a < 9223372036854775808) (hb : b < 9223372036854775808) (kt : a < b → ab_St μ g uc us tgt L S N w Q) (kf : b ≤ a → ab_St μ g uc us (pc + 1 + 3) L S N w Q) : ab_St μ g uc us pc L (.long (lN b) :: .long (lN a) :: S) N w Q := r_lcmp_lt d1 d ht (fun h => kt ((pk_lLT ha hb).mp h)) (fun h => kf (Nat.le_of_not_lt fun e => h ((pk_lLT ha hb).mpr e)))
theorem r_lcmp_geN {a b : Nat} {off : Int} {tgt : Nat} (d1 : decode (mC μ) pc = .ok (.lcmp, 1)) (d : decode (mC μ) (pc + 1) = .ok (.ifCond .ge off, 3)) (ht : ((pc + 1 : Nat) : Int) + off = (tgt : Int)) (ha : a < 9223372036854775808) (hb : b < 9223372036854775808) (kt : b ≤ a → ab_St μ g uc us tgt L S N w Q) (kf : a < b → ab_St μ g uc us (pc + 1 + 3) L S N w Q) : ab_St μ g uc us pc L (.long (lN b) :: .long (lN a) :: S) N w Q := r_lcmp_ge d1 d ht (fun h => kt (Nat.le_of_not_lt fun e => h ((pk_lLT ha hb).mpr e))) (fun h => kf ((pk_lLT ha hb).mp h))
theorem r_lcmp_gtN {a b : Nat} {off : Int} {tgt : Nat} (d1 : decode (mC μ) pc = .ok (.lcmp, 1)) (d : decode (mC μ) (pc + 1) = .ok (.ifCond .gt off, 3)) (ht : ((pc + 1 : Nat) : Int) + off = (tgt : Int)) (ha : a < 9223372036854775808) (hb : b < 9223372036854775808) (kt : b < a → ab_St μ g uc us tgt L S N w Q) (kf : a ≤ b → ab_St μ g uc us (pc + 1 + 3) L S N w Q) : ab_St μ g uc us pc L (.long (lN b) :: .long (lN a) :: S) N w Q := r_lcmp_gt d1 d ht (fun h => kt ((pk_lLT hb ha).mp h)) (fun h => kf (Nat.le_of_not_lt fun e => h ((pk_lLT hb ha).mpr e)))
theorem r_lcmp_leN {a b : Nat} {off : Int} {tgt : Nat} (d1 : decode (mC μ) pc = .ok (.lcmp, 1)) (d : decode (mC μ) (pc + 1) = .ok (.ifCond .le off, 3)) (ht : ((pc + 1 : Nat) : Int) + off = (tgt : Int)) (ha : a < 9223372036854775808) (hb : b < 9223372036854775808) (kt : a ≤ b → ab_St μ g uc us tgt L S N w Q) (kf : b < a → ab_St μ g uc us (pc + 1 + 3) L S N w Q) : ab_St μ g uc us pc L (.long (lN b) :: .long (lN a) :: S) N w Q := r_lcmp_le d1 d ht (fun h => kt (Nat.le_of_not_lt fun e => h ((pk_lLT hb ha).mpr e))) (fun h => kf ((pk_lLT hb ha).mp h))
end RULESN
end
section
/-! NUMBERS in rows: digits, rows of 32-bit limbs -/
abbrev rt (r0 : Option Value) (N0 : Nat) (w0 : ab_W) : ab_Q := fun r N w => r = r0 ∧ N = N0 ∧ w = w0
def dg (b v i : Nat) : Nat := v / b ^ i % b
def rJ (v : Nat) : Nat → Int64 := fun i => lN (dg 4294967296 v i)
abbrev aN (n v : Nat) : ab_C := aJ n (rJ v)
def fl {α : Type} (i : Nat) (f g : Nat → α) : Nat → α := fun k => if k < i then f k else g k
theorem fl_0 {α : Type} (f g : Nat → α) : fl 0 f g = g := by
  funext k
  exact if_neg (Nat.not_lt_zero k)
theorem fl_up {α : Type} (i : Nat) (f g : Nat → α) : va_up (fl i f g) i (f i) = fl (i + 1) f g := by
  funext k
  unfold va_up fl
  by_cases h : k = i
  · subst h
    rw [if_pos rfl, if_pos (Nat.lt_succ_self k)]
  · rw [if_neg h]
    by_cases h2 : k < i
    · rw [if_pos h2, if_pos (by omega)]
    · rw [if_neg h2, if_neg (by omega)]
theorem fl_up' {α : Type} {i : Nat} {f g : Nat → α} {x : α} (h : x = f i) : va_up (fl i f g) i x = fl (i + 1) f g := by rw [h, fl_up]
theorem fl_dn' {α : Type} {i : Nat} {f g : Nat → α} {x : α} (h : x = g i) : va_up (fl (i + 1) f g) i x = fl i f g := by
  funext k
  unfold va_up fl
  by_cases h1 : k = i
  · subst h1
    rw [if_pos rfl, if_neg (Nat.lt_irrefl k), h]
  · rw [if_neg h1]
    by_cases h2 : k < i
    · rw [if_pos h2, if_pos (by omega)]
    · rw [if_neg h2, if_neg (by omega)]
theorem fl_end {α : Type} {n : Nat} {f g : Nat → α} (h : ∀ k, n ≤ k → f k = g k) : fl n f g = f := by
  funext k
  unfold fl
  by_cases h2 : k < n
  · rw [if_pos h2]
  · rw [if_neg h2, h k (by omega)]
theorem fl_lo {α : Type} {i k : Nat} {f g : Nat → α} (h : k < i) : fl i f g k = f k := if_pos h
theorem fl_hi {α : Type} {i k : Nat} {f g : Nat → α} (h : i ≤ k) : fl i f g k = g k := if_neg (by omega)
theorem dg_lt (v i : Nat) : dg 4294967296 v i < 4294967296 := Nat.mod_lt _ (by decide)
theorem dg_lt' {b : Nat} (h : 0 < b) (v i : Nat) : dg b v i < b := Nat.mod_lt _ h
theorem dg_big {b v n k : Nat} (h : v < b ^ n) (hk : n ≤ k) (hb : 0 < b) : dg b v k = 0 := by
  unfold dg
  rw [Nat.div_eq_of_lt (Nat.lt_of_lt_of_le h (Nat.pow_le_pow_right hb hk)), Nat.zero_mod]
theorem dg_0 (b v : Nat) : dg b v 0 = v % b := by
  unfold dg
  rw [Nat.pow_zero, Nat.div_one]
theorem dg_mod {b v n k : Nat} (hk : k < n) : dg b (v % b ^ n) k = dg b v k := by
  unfold dg
  obtain ⟨m, rfl⟩ : ∃ m, n = k + 1 + m := ⟨n - (k + 1), by omega⟩
  rw [Nat.pow_add b (k + 1) m, Nat.pow_succ, Nat.mul_assoc, Nat.mod_mul_right_div_self, Nat.mod_mul_right_mod]
theorem dg_succ (b v i : Nat) : v % b ^ (i + 1) = v % b ^ i + b ^ i * dg b v i := Nat.mod_pow_succ
theorem dg_div (b v i k : Nat) : dg b (v / b ^ i) k = dg b v (i + k) := by
  unfold dg
  rw [Nat.div_div_eq_div_mul, Nat.pow_add]
/-- a number from its digits -/
def sm (b : Nat) (f : Nat → Nat) : Nat → Nat
  | 0 => 0
  | n + 1 => sm b f n + f n * b ^ n
theorem sm_lt {b : Nat} {f : Nat → Nat} : ∀ {n : Nat}, (∀ k, k < n → f k < b) → sm b f n < b ^ n
  | 0, _ => by simp [sm]
  | n + 1, h => by
    have h1 := sm_lt (n := n) fun k hk => h k (by omega)
    have h2 := h n (by omega)
    show sm b f n + f n * b ^ n < b ^ (n + 1)
    have h3 : (f n + 1) * b ^ n ≤ b * b ^ n := Nat.mul_le_mul_right _ h2
    rw [Nat.pow_succ, Nat.mul_comm (b ^ n) b]
    rw [Nat.add_mul] at h3
    omega
theorem sm_dg {b : Nat} {f : Nat → Nat} (hb : 0 < b) : ∀ {n : Nat}, (∀ k, k < n → f k < b) → ∀ k, k < n → dg b (sm b f n) k = f k
  | 0, _, _, hk => absurd hk (Nat.not_lt_zero _)
  | n + 1, h, k, hk => by
    have h1 : ∀ j, j < n → f j < b := fun j hj => h j (by omega)
    have hp : 0 < b ^ n := Nat.pow_pos hb
    by_cases e : k = n
    · subst e
      show (sm b f k + f k * b ^ k) / b ^ k % b = f k
      rw [Nat.add_mul_div_right _ _ hp, Nat.div_eq_of_lt (sm_lt h1), Nat.zero_add, Nat.mod_eq_of_lt (h k hk)]
    · have h2 := sm_dg hb h1 k (by omega)
      have h3 : (sm b f n + f n * b ^ n) % b ^ n = sm b f n := by
        rw [Nat.add_mul_mod_self_right, Nat.mod_eq_of_lt (sm_lt h1)]
      show dg b (sm b f n + f n * b ^ n) k = f k
      rw [← dg_mod (n := n) (by omega), h3]
      exact h2
theorem sm_cong {b : Nat} {f g : Nat → Nat} : ∀ {n : Nat}, (∀ k, k < n → f k = g k) → sm b f n = sm b g n
  | 0, _ => rfl
  | n + 1, h => by
    show sm b f n + f n * b ^ n = sm b g n + g n * b ^ n
    rw [sm_cong fun k hk => h k (by omega), h n (by omega)]
theorem sm_of_dg (b v : Nat) : ∀ n : Nat, sm b (dg b v) n = v % b ^ n
  | 0 => by simp [sm, Nat.mod_one]
  | n + 1 => by
    show sm b (dg b v) n + dg b v n * b ^ n = _
    rw [sm_of_dg b v n, dg_succ, Nat.mul_comm]
/-- two numbers below b^n with the same digits are equal -/
theorem dg_ext {b u v n : Nat} (hu : u < b ^ n) (hv : v < b ^ n) (h : ∀ k, k < n → dg b u k = dg b v k) : u = v := by
  have h1 := sm_of_dg b u n
  have h2 := sm_of_dg b v n
  rw [Nat.mod_eq_of_lt hu] at h1
  rw [Nat.mod_eq_of_lt hv] at h2
  rw [← h1, ← h2]
  exact sm_cong h
/-- bytes of a row -/
theorem dg_byte (v q : Nat) : dg 4294967296 v (q / 2 ^ 2) / 2 ^ (8 * (q % 2 ^ 2)) % 2 ^ 8 = dg 256 v q := by
  unfold dg
  have e1 : (4294967296 : Nat) ^ (q / 2 ^ 2) = 2 ^ (32 * (q / 4)) := by
    rw [show (4294967296 : Nat) = 2 ^ 32 by decide, ← Nat.pow_mul]
  have e2 : (256 : Nat) ^ q = 2 ^ (8 * q) := by
    rw [show (256 : Nat) = 2 ^ 8 by decide, ← Nat.pow_mul]
  have e3 : 2 ^ (8 * q) = 2 ^ (32 * (q / 4)) * 2 ^ (8 * (q % 4)) := by
    rw [← Nat.pow_add]
    congr 1
    omega
  rw [e1, e2, e3, ← Nat.div_div_eq_div_mul]
  generalize v / 2 ^ (32 * (q / 4)) = x
  show x % 2 ^ 32 / 2 ^ (8 * (q % 4)) % 2 ^ 8 = x / 2 ^ (8 * (q % 4)) % 256
  have h4 : q % 4 < 4 := Nat.mod_lt _ (by decide)
  generalize q % 4 = r at h4
  rcases (show r = 0 ∨ r = 1 ∨ r = 2 ∨ r = 3 by omega) with rfl | rfl | rfl | rfl <;> omega
theorem iincm1' (n : Nat) : nI n + Int32.ofInt (-1) = nI n - 1 := by
  rw [Int32.sub_eq_add_neg]
  rfl
theorem i32_pm (n : Nat) : nI (n + 1) - 1 = nI n := nI_pred n
theorem nI0m : ¬ (0 : Int32) ≤ nI 0 - 1 := by decide
theorem nI0lt : nI 0 - 1 < (0 : Int32) := by decide
end
section
/-! a digit put anew -/
def ud (b v i x : Nat) : Nat := v - dg b v i * b ^ i + x * b ^ i
theorem dg_split (b v i : Nat) : v = v / b ^ (i + 1) * b ^ (i + 1) + dg b v i * b ^ i + v % b ^ i := by
  have h1 := dg_succ b v i
  have h2 := Nat.div_add_mod v (b ^ (i + 1))
  rw [Nat.mul_comm] at h2
  rw [Nat.mul_comm (dg b v i)]
  omega
theorem dg_le (b v i : Nat) : dg b v i * b ^ i ≤ v := by
  have h := dg_split b v i
  generalize dg b v i * b ^ i = d at h ⊢
  generalize v / b ^ (i + 1) * b ^ (i + 1) = e at h
  generalize v % b ^ i = f at h
  omega
theorem ud_eq (b v i x : Nat) : ud b v i x = v / b ^ (i + 1) * b ^ (i + 1) + x * b ^ i + v % b ^ i := by
  have h := dg_split b v i
  unfold ud
  generalize dg b v i * b ^ i = d at h ⊢
  generalize v / b ^ (i + 1) * b ^ (i + 1) = e at h ⊢
  generalize v % b ^ i = f at h ⊢
  omega
theorem dg_of {b hi x lo i k : Nat} (hb : 0 < b) (hx : x < b) (hl : lo < b ^ i) : dg b (hi * b ^ (i + 1) + x * b ^ i + lo) k = if k < i then dg b lo k else if k = i then x else dg b hi (k - (i + 1)) := by
  have hp : 0 < b ^ i := Nat.pow_pos hb
  have e : hi * b ^ (i + 1) + x * b ^ i + lo = lo + (hi * b + x) * b ^ i := by
    rw [Nat.pow_succ, Nat.add_mul, Nat.mul_assoc, Nat.mul_comm b (b ^ i)]
    omega
  rw [e]
  by_cases h1 : k < i
  · rw [if_pos h1, ← dg_mod h1, Nat.add_mul_mod_self_right, Nat.mod_eq_of_lt hl]
  · rw [if_neg h1]
    obtain ⟨j, rfl⟩ : ∃ j, k = i + j := ⟨k - i, by omega⟩
    rw [← dg_div, Nat.add_mul_div_right _ _ hp, Nat.div_eq_of_lt hl, Nat.zero_add]
    by_cases h2 : i + j = i
    · rw [if_pos h2]
      have h3 : j = 0 := by omega
      subst h3
      rw [dg_0, Nat.add_comm, Nat.add_mul_mod_self_right, Nat.mod_eq_of_lt hx]
    · rw [if_neg h2]
      obtain ⟨m, rfl⟩ : ∃ m, j = m + 1 := ⟨j - 1, by omega⟩
      have e2 : i + (m + 1) - (i + 1) = m := by omega
      rw [e2, show m + 1 = 1 + m by omega, ← dg_div, Nat.pow_one, Nat.add_comm, Nat.add_mul_div_right _ _ hb, Nat.div_eq_of_lt hx, Nat.zero_add]
theorem dg_ud {b v i x k : Nat} (hb : 0 < b) (hx : x < b) : dg b (ud b v i x) k = if k = i then x else dg b v k := by
  have hl : v % b ^ i < b ^ i := Nat.mod_lt _ (Nat.pow_pos hb)
  have hd : dg b v i < b := dg_lt' hb v i
  rw [ud_eq, dg_of hb hx hl]
  by_cases h1 : k < i
  · rw [if_pos h1, if_neg (by omega), dg_mod h1]
  · rw [if_neg h1]
    by_cases h2 : k = i
    · rw [if_pos h2, if_pos h2]
    · rw [if_neg h2, if_neg h2, dg_div]
      congr 1
      omega
theorem ud_lt {b v i x n : Nat} (hb : 0 < b) (hx : x < b) (hv : v < b ^ n) (hi : i < n) : ud b v i x < b ^ n := by
  have h1 : ud b v i x = sm b (dg b (ud b v i x)) n := by
    rw [sm_of_dg, ud_eq]
    obtain ⟨m, rfl⟩ : ∃ m, n = i + 1 + m := ⟨n - (i + 1), by omega⟩
    have h2 : v / b ^ (i + 1) < b ^ m := Nat.div_lt_of_lt_mul (by rw [← Nat.pow_add]; exact hv)
    have hl : v % b ^ i < b ^ i := Nat.mod_lt _ (Nat.pow_pos hb)
    refine (Nat.mod_eq_of_lt ?_).symm
    have h3 : (v / b ^ (i + 1) + 1) * b ^ (i + 1) ≤ b ^ m * b ^ (i + 1) := Nat.mul_le_mul_right _ h2
    have h4 : (x + 1) * b ^ i ≤ b * b ^ i := Nat.mul_le_mul_right _ hx
    rw [Nat.add_mul, Nat.one_mul] at h3 h4
    have h5 : b * b ^ i = b ^ (i + 1) := by rw [Nat.pow_succ, Nat.mul_comm]
    rw [Nat.pow_add b (i + 1) m, Nat.mul_comm (b ^ (i + 1)) (b ^ m)]
    omega
  rw [h1]
  exact sm_lt fun k _ => dg_lt' hb _ _
theorem dg_dg {b v m i r : Nat} (hr : r < m) : dg b (dg (b ^ m) v i) r = dg b v (m * i + r) := by
  show dg b (v / (b ^ m) ^ i % b ^ m) r = _
  rw [dg_mod hr, ← Nat.pow_mul, dg_div]
theorem ud_ud {b v m q x : Nat} (hb : 0 < b) (hm : 0 < m) (hx : x < b) : ud (b ^ m) v (q / m) (ud b (dg (b ^ m) v (q / m)) (q % m) x) = ud b v q x := by
  have hr : q % m < m := Nat.mod_lt _ hm
  have hq : m * (q / m) + q % m = q := Nat.div_add_mod q m
  have hbm : 0 < b ^ m := Nat.pow_pos hb
  have h1 : dg b (dg (b ^ m) v (q / m)) (q % m) = dg b v q := by rw [dg_dg hr, hq]
  have e1 : (b ^ m) ^ (q / m) = b ^ (m * (q / m)) := (Nat.pow_mul _ _ _).symm
  have e2 : b ^ (q % m) * (b ^ m) ^ (q / m) = b ^ q := by
    rw [e1, ← Nat.pow_add]
    congr 1
    omega
  have h6 := dg_le (b ^ m) v (q / m)
  have h3 := dg_le b (dg (b ^ m) v (q / m)) (q % m)
  rw [h1] at h3
  unfold ud
  rw [h1]
  generalize dg (b ^ m) v (q / m) = d at h6 h3 ⊢
  have h4 : (d - dg b v q * b ^ (q % m) + x * b ^ (q % m)) * (b ^ m) ^ (q / m) = d * (b ^ m) ^ (q / m) - dg b v q * b ^ q + x * b ^ q := by
    rw [Nat.add_mul, Nat.sub_mul, Nat.mul_assoc, Nat.mul_assoc, e2]
  rw [h4]
  have h5 : dg b v q * b ^ q ≤ d * (b ^ m) ^ (q / m) := by
    rw [← e2, ← Nat.mul_assoc]
    exact Nat.mul_le_mul_right _ h3
  omega
theorem rJ_ud {v i x : Nat} (hx : x < 4294967296) : va_up (rJ v) i (lN x) = rJ (ud 4294967296 v i x) := by
  funext k
  unfold va_up rJ
  rw [dg_ud (by decide) hx]
  by_cases h : k = i
  · rw [if_pos h, if_pos h]
  · rw [if_neg h, if_neg h]
theorem nat_put {d b s M : Nat} (hM : ∀ j, j < 64 → Nat.testBit M j = !(decide (s ≤ j) && decide (j < s + 8))) (hd : d < 2 ^ 32) (hb : b < 256) : (d &&& M) ||| (b * 2 ^ s) = d - dg 256 (d / 2 ^ s) 0 * 2 ^ s + b * 2 ^ s := by
  have e0 : dg 256 (d / 2 ^ s) 0 = d / 2 ^ s % 256 := dg_0 _ _
  have hd2 : d = 2 ^ s * (2 ^ 8 * (d / 2 ^ s / 256) + d / 2 ^ s % 256) + d % 2 ^ s := by
    have h1 := Nat.div_add_mod d (2 ^ s)
    have h2 := Nat.div_add_mod (d / 2 ^ s) 256
    rw [show (2 : Nat) ^ 8 = 256 by decide, h2]
    exact h1.symm
  have hl : d % 2 ^ s < 2 ^ s := Nat.mod_lt _ (Nat.two_pow_pos s)
  have hR : d - dg 256 (d / 2 ^ s) 0 * 2 ^ s + b * 2 ^ s = 2 ^ s * (2 ^ 8 * (d / 2 ^ s / 256) + b) + d % 2 ^ s := by
    rw [e0]
    rw [Nat.mul_add] at hd2 ⊢
    generalize d / 2 ^ s % 256 = y at hd2 ⊢
    rw [Nat.mul_comm y, Nat.mul_comm b]
    generalize 2 ^ s * (2 ^ 8 * (d / 2 ^ s / 256)) = z at hd2 ⊢
    generalize 2 ^ s * y = u at hd2 ⊢
    omega
  rw [hR]
  have hm : d / 2 ^ s % 256 < 2 ^ 8 := Nat.mod_lt _ (by decide)
  generalize d / 2 ^ s % 256 = y at hd2 hm
  generalize d / 2 ^ s / 256 = hi at hd2
  generalize d % 2 ^ s = lo at hd2 hl
  have hb8 : b < 2 ^ 8 := hb
  apply Nat.eq_of_testBit_eq
  intro j
  rw [Nat.testBit_or, Nat.testBit_and, Nat.mul_comm b, Nat.testBit_two_pow_mul_add _ hl, show 2 ^ s * b = 2 ^ s * b + 0 by rfl, Nat.testBit_two_pow_mul_add _ (Nat.two_pow_pos s)]
  have hdj : d.testBit j = if j < s then lo.testBit j else (2 ^ 8 * hi + y).testBit (j - s) := by
    rw [hd2]
    exact Nat.testBit_two_pow_mul_add _ hl j
  have hbig : 64 ≤ j → d.testBit j = false := fun h => Nat.testBit_lt_two_pow (Nat.lt_of_lt_of_le hd (Nat.pow_le_pow_right (by decide) (by omega)))
  by_cases h1 : j < s
  · rw [if_pos h1, if_pos h1]
    rw [if_pos h1] at hdj
    by_cases h64 : j < 64
    · rw [hM j h64, hdj]
      simp [Nat.not_le.mpr h1]
    · rw [← hdj, hbig (by omega)]
      simp
  · rw [if_neg h1, if_neg h1]
    rw [if_neg h1] at hdj
    rw [Nat.testBit_two_pow_mul_add _ hb8]
    rw [Nat.testBit_two_pow_mul_add _ hm] at hdj
    by_cases h2 : j - s < 8
    · rw [if_pos h2]
      by_cases h64 : j < 64
      · rw [hM j h64]
        have e1 : decide (s ≤ j) = true := decide_eq_true (by omega)
        have e2 : decide (j < s + 8) = true := decide_eq_true (by omega)
        rw [e1, e2]
        simp
      · rw [hbig (by omega)]
        simp
    · rw [if_neg h2]
      rw [if_neg h2] at hdj
      have hbz : b.testBit (j - s) = false := Nat.testBit_lt_two_pow (Nat.lt_of_lt_of_le hb8 (Nat.pow_le_pow_right (by decide) (by omega)))
      rw [hbz, Bool.or_false]
      by_cases h64 : j < 64
      · rw [hM j h64, hdj]
        have e2 : decide (j < s + 8) = false := decide_eq_false (by omega)
        rw [e2]
        simp
      · rw [← hdj, hbig (by omega)]
        simp
theorem lN_put {d b r : Nat} (hd : d < 4294967296) (hb : b < 256) (hr : r < 4) : (lN d &&& ((lN 255 <<< ((nI (8 * r)).toInt64 &&& 63)) ^^^ (-1))) ||| ((lN b &&& lN 255) <<< ((nI (8 * r)).toInt64 &&& 63)) = lN (ud 256 d r b) := by
  have e255 : lN b &&& lN 255 = lN b := by
    rw [show (255 : Nat) = 2 ^ 8 - 1 by decide, wb_mask (by omega) (by decide), Nat.mod_eq_of_lt hb]
  rw [e255, wb_shl b (by omega)]
  have key : ∀ M : Nat, M < 2 ^ 64 → (∀ j, j < 64 → Nat.testBit M j = !(decide (8 * r ≤ j) && decide (j < 8 * r + 8))) → (lN 255 <<< ((nI (8 * r)).toInt64 &&& 63)) ^^^ (-1) = lN M → b * 2 ^ (8 * r) < 2 ^ 64 → (lN d &&& ((lN 255 <<< ((nI (8 * r)).toInt64 &&& 63)) ^^^ (-1))) ||| lN (b * 2 ^ (8 * r)) = lN (ud 256 d r b) := by
    intro M hM64 hM hE hsh
    rw [hE, wb_and (by omega) hM64, wb_or (Nat.lt_of_le_of_lt Nat.and_le_left (by omega)) hsh, nat_put hM (by omega) hb]
    unfold ud
    have e : dg 256 (d / 2 ^ (8 * r)) 0 = dg 256 d r := by
      have := dg_div 256 d r 0
      rw [show (256 : Nat) ^ r = 2 ^ (8 * r) by rw [show (256 : Nat) = 2 ^ 8 by decide, ← Nat.pow_mul]] at this
      exact this
    rw [e, show (256 : Nat) ^ r = 2 ^ (8 * r) by rw [show (256 : Nat) = 2 ^ 8 by decide, ← Nat.pow_mul]]
  rcases (show r = 0 ∨ r = 1 ∨ r = 2 ∨ r = 3 by omega) with rfl | rfl | rfl | rfl
  · exact key 18446744073709551360 (by decide) (by decide +kernel) (by decide +kernel) (by omega)
  · exact key 18446744073709486335 (by decide) (by decide +kernel) (by decide +kernel) (by omega)
  · exact key 18446744073692839935 (by decide) (by decide +kernel) (by decide +kernel) (by omega)
  · exact key 18446744069431361535 (by decide) (by decide +kernel) (by decide +kernel) (by omega)
end
section
/-! limb by limb: what a carry, a borrow, a remainder is -/
theorem ud_word {v q x : Nat} (hx : x < 256) : ud 4294967296 v (q / 2 ^ 2) (ud 256 (dg 4294967296 v (q / 2 ^ 2)) (q % 2 ^ 2) x) = ud 256 v q x := ud_ud (b := 256) (v := v) (m := 4) (q := q) (by decide) (by decide) hx
theorem dg_bit (v q : Nat) : dg 4294967296 v (q / 2 ^ 5) / 2 ^ (q % 2 ^ 5) % 2 = dg 2 v q := by
  have h := dg_dg (b := 2) (v := v) (m := 32) (i := q / 32) (r := q % 32) (Nat.mod_lt _ (by decide))
  have e : 32 * (q / 32) + q % 32 = q := Nat.div_add_mod q 32
  rw [e] at h
  exact h
theorem div_dg (b v i : Nat) : v / b ^ i = v / b ^ (i + 1) * b + dg b v i := by
  have h := Nat.div_add_mod (v / b ^ i) b
  rw [Nat.div_div_eq_div_mul, ← Nat.pow_succ, Nat.mul_comm] at h
  exact h.symm
/-- the carry of an addition -/
def ca (va vb i : Nat) : Nat := (va % 4294967296 ^ i + vb % 4294967296 ^ i) / 4294967296 ^ i
theorem ca_dg (va vb i : Nat) : (dg 4294967296 va i + dg 4294967296 vb i + ca va vb i) % 4294967296 = dg 4294967296 (va + vb) i := by
  have hp : 0 < 4294967296 ^ i := Nat.pow_pos (by decide)
  have h1 := Nat.div_add_mod va (4294967296 ^ i)
  have h2 := Nat.div_add_mod vb (4294967296 ^ i)
  have e : (va + vb) / 4294967296 ^ i = va / 4294967296 ^ i + vb / 4294967296 ^ i + ca va vb i := by
    have e2 : va + vb = (va % 4294967296 ^ i + vb % 4294967296 ^ i) + 4294967296 ^ i * (va / 4294967296 ^ i + vb / 4294967296 ^ i) := by
      rw [Nat.mul_add]
      omega
    unfold ca
    rw [e2, Nat.add_mul_div_left _ _ hp]
    have e3 := Nat.add_mul_div_left (va % 4294967296 ^ i + vb % 4294967296 ^ i) (va / 4294967296 ^ i + vb / 4294967296 ^ i) hp
    omega
  unfold dg
  rw [e]
  generalize va / 4294967296 ^ i = x
  generalize vb / 4294967296 ^ i = y
  omega
theorem ca_succ (va vb i : Nat) : (dg 4294967296 va i + dg 4294967296 vb i + ca va vb i) / 4294967296 = ca va vb (i + 1) := by
  have hp : 0 < 4294967296 ^ i := Nat.pow_pos (by decide)
  unfold ca
  rw [dg_succ 4294967296 va i, dg_succ 4294967296 vb i, Nat.pow_succ, ← Nat.div_div_eq_div_mul]
  have e : va % 4294967296 ^ i + 4294967296 ^ i * dg 4294967296 va i + (vb % 4294967296 ^ i + 4294967296 ^ i * dg 4294967296 vb i) = (va % 4294967296 ^ i + vb % 4294967296 ^ i) + 4294967296 ^ i * (dg 4294967296 va i + dg 4294967296 vb i) := by
    rw [Nat.mul_add]
    omega
  rw [e, Nat.add_mul_div_left _ _ hp]
  congr 1
  omega
theorem ca_0 (va vb : Nat) : ca va vb 0 = 0 := by
  unfold ca
  simp [Nat.mod_one]
theorem ca_le (va vb i : Nat) : ca va vb i ≤ 1 := by
  have hp : 0 < 4294967296 ^ i := Nat.pow_pos (by decide)
  have h1 : va % 4294967296 ^ i < 4294967296 ^ i := Nat.mod_lt _ hp
  have h2 : vb % 4294967296 ^ i < 4294967296 ^ i := Nat.mod_lt _ hp
  have : ca va vb i < 2 := by
    unfold ca
    exact Nat.div_lt_of_lt_mul (by omega)
  omega
/-- the borrow of a subtraction -/
def bo (va vb i : Nat) : Nat := if va % 4294967296 ^ i < vb % 4294967296 ^ i then 1 else 0
theorem bo_le (va vb i : Nat) : bo va vb i ≤ 1 := by
  unfold bo
  split <;> omega
theorem bo_0 (va vb : Nat) : bo va vb 0 = 0 := by
  unfold bo
  simp [Nat.mod_one]
theorem bo_end {va vb n : Nat} (ha : va < 4294967296 ^ n) (hb : vb < 4294967296 ^ n) : bo va vb n = if va < vb then 1 else 0 := by
  unfold bo
  rw [Nat.mod_eq_of_lt ha, Nat.mod_eq_of_lt hb]
theorem bo_succ (va vb i : Nat) : bo va vb (i + 1) = if dg 4294967296 va i < dg 4294967296 vb i + bo va vb i then 1 else 0 := by
  have hp : 0 < 4294967296 ^ i := Nat.pow_pos (by decide)
  have h1 : va % 4294967296 ^ i < 4294967296 ^ i := Nat.mod_lt _ hp
  have h2 : vb % 4294967296 ^ i < 4294967296 ^ i := Nat.mod_lt _ hp
  unfold bo
  rw [dg_succ 4294967296 va i, dg_succ 4294967296 vb i]
  generalize va % 4294967296 ^ i = x at h1
  generalize vb % 4294967296 ^ i = y at h2
  generalize dg 4294967296 va i = a
  generalize dg 4294967296 vb i = b
  generalize 4294967296 ^ i = p at *
  congr 1
  rw [eq_iff_iff]
  rcases Nat.lt_trichotomy a b with h | h | h
  · have h3 : p * (a + 1) ≤ p * b := Nat.mul_le_mul_left _ h
    rw [Nat.mul_add, Nat.mul_one] at h3
    constructor
    · intro _
      omega
    · intro _
      omega
  · subst h
    by_cases h4 : x < y
    · rw [if_pos h4]
      constructor <;> intro _ <;> omega
    · rw [if_neg h4]
      constructor <;> intro _ <;> omega
  · have h3 : p * (b + 1) ≤ p * a := Nat.mul_le_mul_left _ h
    rw [Nat.mul_add, Nat.mul_one] at h3
    constructor
    · intro _
      omega
    · intro h5
      exfalso
      split at h5 <;> omega
theorem bo_dg {va vb n i : Nat} (hi : i < n) (hb : vb < 4294967296 ^ n) : (dg 4294967296 va i + 18446744073709551616 - dg 4294967296 vb i - bo va vb i) % 4294967296 = dg 4294967296 ((va + 4294967296 ^ n - vb) % 4294967296 ^ n) i := by
  rw [dg_mod hi]
  have hp : 0 < 4294967296 ^ i := Nat.pow_pos (by decide)
  obtain ⟨m, rfl⟩ : ∃ m, n = i + 1 + m := ⟨n - (i + 1), by omega⟩
  have h1 : va % 4294967296 ^ i < 4294967296 ^ i := Nat.mod_lt _ hp
  have h2 : vb % 4294967296 ^ i < 4294967296 ^ i := Nat.mod_lt _ hp
  have h3 := Nat.div_add_mod va (4294967296 ^ i)
  have h4 := Nat.div_add_mod vb (4294967296 ^ i)
  have h5 : 4294967296 ^ (i + 1 + m) = 4294967296 ^ i * (4294967296 * 4294967296 ^ m) := by
    rw [Nat.pow_add, Nat.pow_succ, Nat.mul_assoc]
  rw [h5] at hb ⊢
  have hq : vb / 4294967296 ^ i < 4294967296 * 4294967296 ^ m := Nat.div_lt_of_lt_mul hb
  unfold dg bo
  have e : (va + 4294967296 ^ i * (4294967296 * 4294967296 ^ m) - vb) / 4294967296 ^ i = va / 4294967296 ^ i + 4294967296 * 4294967296 ^ m - vb / 4294967296 ^ i - (if va % 4294967296 ^ i < vb % 4294967296 ^ i then 1 else 0) := by
    generalize va / 4294967296 ^ i = x at h3
    generalize vb / 4294967296 ^ i = y at h4 hq
    generalize 4294967296 * 4294967296 ^ m = z at hq
    generalize va % 4294967296 ^ i = r at h1 h3
    generalize vb % 4294967296 ^ i = t at h2 h4
    generalize 4294967296 ^ i = p at *
    subst h3
    subst h4
    have h6 : p * (y + 1) ≤ p * z := Nat.mul_le_mul_left _ hq
    rw [Nat.mul_add, Nat.mul_one] at h6
    by_cases h7 : r < t
    · rw [if_pos h7]
      refine Nat.div_eq_of_lt_le ?_ ?_
      · rw [Nat.mul_comm, Nat.mul_sub, Nat.mul_sub, Nat.mul_add, Nat.mul_one]
        omega
      · rw [Nat.mul_comm (x + z - y - 1 + 1) p, Nat.mul_add, Nat.mul_sub, Nat.mul_sub, Nat.mul_add, Nat.mul_one]
        have h8 : p ≤ p * x + p * z - p * y := by omega
        omega
    · rw [if_neg h7]
      refine Nat.div_eq_of_lt_le ?_ ?_
      · rw [Nat.mul_comm, Nat.mul_sub, Nat.mul_sub, Nat.mul_add]
        omega
      · rw [Nat.mul_comm (x + z - y - 0 + 1) p, Nat.mul_add, Nat.mul_sub, Nat.mul_sub, Nat.mul_add, Nat.mul_one]
        omega
  rw [e]
  generalize va / 4294967296 ^ i = x
  generalize vb / 4294967296 ^ i = y at hq
  generalize 4294967296 ^ m = z at hq
  split <;> omega
/-- a difference of longs, mod 2^64 -/
theorem lN_wrap (n : Nat) : lN (n + 18446744073709551616) = lN n := by
  rw [wb_mod (n + 18446744073709551616), wb_mod n]
  exact congrArg lN (by omega)
theorem lN_sub2 {a b c : Nat} (hb : b < 4294967296) (hc : c < 4294967296) : lN a - lN b - lN c = lN (a + 18446744073709551616 - b - c) := by
  rw [← lN_wrap a, lN_sub (by omega), lN_sub (by omega)]
theorem lN_subw {a b : Nat} (hb : b < 4294967296) : lN a - lN b = lN (a + 18446744073709551616 - b) := by
  rw [← lN_wrap a, lN_sub (by omega)]
theorem lN_neg {x : Nat} (h1 : 9223372036854775808 ≤ x) (h2 : x < 18446744073709551616) : lN x < lN 0 := by
  have e : (lN x).toInt = (x : Int) - 18446744073709551616 := by
    show (BitVec.ofNat 64 x).toInt = _
    rw [BitVec.toInt_eq_toNat_cond, BitVec.toNat_ofNat, Nat.mod_eq_of_lt (by omega), if_neg (by omega)]
    rfl
  rw [Int64.lt_iff_toInt_lt, e, show (lN 0).toInt = 0 by decide]
  omega
theorem lN_nneg {x : Nat} (h1 : 18446744073709551616 ≤ x) (h2 : x < 27670116110564327424) : ¬ lN x < lN 0 := by
  obtain ⟨y, rfl⟩ : ∃ y, x = y + 18446744073709551616 := ⟨x - 18446744073709551616, by omega⟩
  rw [lN_wrap, pk_lLT (by omega) (by decide)]
  omega
/-- halves -/
theorem half_dg (v i : Nat) : dg 4294967296 v i / 2 + dg 4294967296 v (i + 1) % 2 * 2147483648 = dg 4294967296 (v / 2) i := by
  unfold dg
  rw [Nat.div_div_eq_div_mul v 2, Nat.mul_comm 2, ← Nat.div_div_eq_div_mul, Nat.pow_succ, ← Nat.div_div_eq_div_mul]
  generalize v / 4294967296 ^ i = x
  omega
theorem lN_or_sum {a b q : Nat} (ha : a < 2 ^ q) (h : b * 2 ^ q + a < 2 ^ 64) : lN (b * 2 ^ q) ||| lN a = lN (b * 2 ^ q + a) := by
  rw [wb_or (by omega) (by omega), Nat.mul_comm, Nat.two_pow_add_eq_or_of_lt ha]
theorem lN_or_sum' {a b q : Nat} (ha : a < 2 ^ q) (h : b * 2 ^ q + a < 2 ^ 64) : lN a ||| lN (b * 2 ^ q) = lN (b * 2 ^ q + a) := by
  rw [wb_or (by omega) (by omega), Nat.mul_comm, Nat.two_pow_add_eq_or_of_lt ha, Nat.or_comm]
/-- how many bits -/
def bl (v : Nat) : Nat := if v = 0 then 0 else Nat.log2 v + 1
theorem bl_of {v k : Nat} (h1 : 2 ^ k ≤ v) (h2 : v < 2 ^ (k + 1)) : bl v = k + 1 := by
  have hv : v ≠ 0 := by
    have := Nat.two_pow_pos k
    omega
  unfold bl
  rw [if_neg hv]
  congr 1
  have h3 := (Nat.le_log2 hv).mpr h1
  have h4 := (Nat.log2_lt hv).mpr h2
  omega
theorem bl_lt {v : Nat} : v < 2 ^ bl v := by
  unfold bl
  split
  · rename_i h
    subst h
    decide
  · exact Nat.lt_log2_self
theorem bl_le {v n : Nat} (h : v < 2 ^ n) : bl v ≤ n := by
  unfold bl
  split
  · omega
  · rename_i hv
    exact (Nat.log2_lt hv).mpr h
theorem bl_1 (v : Nat) : bl v = 1 ↔ v = 1 := by
  constructor
  · intro h
    have h1 := bl_lt (v := v)
    rw [h] at h1
    rcases (show v = 0 ∨ v = 1 by omega) with rfl | rfl
    · exact absurd h (by decide)
    · rfl
  · rintro rfl
    decide
theorem bl_top {v i : Nat} (hv : v < 4294967296 ^ (i + 1)) (h0 : dg 4294967296 v i ≠ 0) : bl v = 32 * i + bl (dg 4294967296 v i) := by
  have e : (4294967296 : Nat) ^ i = 2 ^ (32 * i) := by
    rw [show (4294967296 : Nat) = 2 ^ 32 by decide, ← Nat.pow_mul]
  have hd : dg 4294967296 v i = v / 2 ^ (32 * i) := by
    unfold dg
    rw [Nat.mod_eq_of_lt (Nat.div_lt_of_lt_mul (by rw [← Nat.pow_succ]; exact hv)), e]
  rw [hd] at h0 ⊢
  have h1 := Nat.div_add_mod v (2 ^ (32 * i))
  have h2 : v % 2 ^ (32 * i) < 2 ^ (32 * i) := Nat.mod_lt _ (Nat.two_pow_pos _)
  generalize v / 2 ^ (32 * i) = x at *
  generalize v % 2 ^ (32 * i) = y at *
  have hx : bl x = Nat.log2 x + 1 := if_neg h0
  have h3 : 2 ^ Nat.log2 x ≤ x := Nat.log2_self_le h0
  have h4 : x < 2 ^ (Nat.log2 x + 1) := Nat.lt_log2_self
  rw [hx]
  have h5 : bl v = 32 * i + Nat.log2 x + 1 := by
    refine bl_of ?_ ?_
    · rw [Nat.pow_add]
      have := Nat.mul_le_mul_left (2 ^ (32 * i)) h3
      omega
    · rw [Nat.add_assoc, Nat.pow_add]
      have := Nat.mul_le_mul_left (2 ^ (32 * i)) h4
      rw [Nat.mul_succ] at this
      omega
  omega
theorem iincm {n : Nat} {z : Int} (c : Nat) (h : c ≤ n) (hz : nI c + Int32.ofInt z = 0) : nI n + Int32.ofInt z = nI (n - c) := by
  have e : nI n = nI (n - c) + nI c := by rw [nI_add, Nat.sub_add_cancel h]
  rw [e, Int32.add_assoc, hz, Int32.add_zero]
def rotr (x y : Int32) : Int32 := (x.toUInt32 >>> (y.toUInt32 &&& Int32.toUInt32 31)).toInt32 ||| (x <<< (-y &&& 31))
theorem bl_half {u c : Nat} (h : 2 ^ c ≤ u) : bl u = bl (u / 2 ^ c) + c := by
  have hp : 0 < 2 ^ c := Nat.two_pow_pos c
  have h1 : u / 2 ^ c ≠ 0 := by
    have := (Nat.le_div_iff_mul_le hp (x := 1) (y := u)).mpr (by omega)
    omega
  have h2 : 2 ^ Nat.log2 (u / 2 ^ c) ≤ u / 2 ^ c := Nat.log2_self_le h1
  have h3 : u / 2 ^ c < 2 ^ (Nat.log2 (u / 2 ^ c) + 1) := Nat.lt_log2_self
  have e : bl (u / 2 ^ c) = Nat.log2 (u / 2 ^ c) + 1 := if_neg h1
  rw [e, show Nat.log2 (u / 2 ^ c) + 1 + c = (Nat.log2 (u / 2 ^ c) + c) + 1 by omega]
  refine bl_of ?_ ?_
  · rw [Nat.pow_add]
    exact (Nat.le_div_iff_mul_le hp).mp h2
  · rw [show Nat.log2 (u / 2 ^ c) + c + 1 = Nat.log2 (u / 2 ^ c) + 1 + c by omega, Nat.pow_add]
    exact (Nat.div_lt_iff_lt_mul hp).mp h3
theorem bl_pos {u : Nat} (h : 0 < u) : 0 < bl u := by
  unfold bl
  rw [if_neg (by omega)]
  omega
theorem bl_small {u : Nat} (h0 : 0 < u) (h : u < 4) : bl u = 1 + u / 2 := by
  rcases (show u = 1 ∨ u = 2 ∨ u = 3 by omega) with rfl | rfl | rfl <;> decide
end
section
/-! the JDK's methods that are called -/
theorem r_max {μ : ab_M} {g : ab_G} {uc us pc N idx : Nat} {L : List (Nat × Value)} {S : List Value} {w : ab_W} {Q : ab_Q} {x y : Int32} (d : decode (mC μ) pc = .ok (.invokestatic idx, 3)) (hV : ab_T (mY μ).cls idx MJ9_max_7cf53 2) (hf : 1 ≤ (mZ μ).frames) (hlo : (S.map fun v => v.category).sum + 13 ≤ (mZ μ).locals) (hc : uc ≤ (mZ μ).cells) (hs : us ≤ (mZ μ).slots) (k : ab_St μ g uc us (pc + 3) L (.int (if x < y then y else x) :: S) N w Q) : ab_St μ g uc us pc L (.int y :: .int x :: S) N w Q := by
  intro p e s m args below meth c Z H locs ls E R hP hS hl
  have hts := E.2.2.2.2.1
  exact va_mmax E.1 E.2.1 (by rw [E.2.2.1, hl.1]) E.2.2.2.1 (hts _ hV.1.1) (hts _ hV.2) (hts _ hV.1.2.2.1) (hts _ hV.1.2.1) hf (by rw [cv_cats]; exact hlo) hc hs d (k p e s m args below meth c Z H locs ls E R hP hS hl)
theorem r_min {μ : ab_M} {g : ab_G} {uc us pc N idx : Nat} {L : List (Nat × Value)} {S : List Value} {w : ab_W} {Q : ab_Q} {x y : Int32} (d : decode (mC μ) pc = .ok (.invokestatic idx, 3)) (hV : ab_T (mY μ).cls idx MJ9_min_7cf53 2) (hf : 1 ≤ (mZ μ).frames) (hlo : (S.map fun v => v.category).sum + 13 ≤ (mZ μ).locals) (hc : uc ≤ (mZ μ).cells) (hs : us ≤ (mZ μ).slots) (k : ab_St μ g uc us (pc + 3) L (.int (if y < x then y else x) :: S) N w Q) : ab_St μ g uc us pc L (.int y :: .int x :: S) N w Q := by
  intro p e s m args below meth c Z H locs ls E R hP hS hl
  have hts := E.2.2.2.2.1
  exact va_mmin E.1 E.2.1 (by rw [E.2.2.1, hl.1]) E.2.2.2.1 (hts _ hV.1.1) (hts _ hV.2) (hts _ hV.1.2.2.1) (hts _ hV.1.2.1) hf (by rw [cv_cats]; exact hlo) hc hs d (k p e s m args below meth c Z H locs ls E R hP hS hl)
theorem r_minN {μ : ab_M} {g : ab_G} {uc us pc N idx : Nat} {L : List (Nat × Value)} {S : List Value} {w : ab_W} {Q : ab_Q} {a b : Nat} (d : decode (mC μ) pc = .ok (.invokestatic idx, 3)) (hV : ab_T (mY μ).cls idx MJ9_min_7cf53 2) (hf : 1 ≤ (mZ μ).frames) (hlo : (S.map fun v => v.category).sum + 13 ≤ (mZ μ).locals) (hc : uc ≤ (mZ μ).cells) (hs : us ≤ (mZ μ).slots) (ha : a < 2147483648) (hb : b < 2147483648) (k : ab_St μ g uc us (pc + 3) L (.int (nI (min a b)) :: S) N w Q) : ab_St μ g uc us pc L (.int (nI b) :: .int (nI a) :: S) N w Q := by
  refine r_min d hV hf hlo hc hs (r_toI ?_ k)
  by_cases h : b < a
  · rw [if_pos ((nI_ltI hb ha).mpr h), Nat.min_eq_right (by omega)]
  · rw [if_neg (fun q => h ((nI_ltI hb ha).mp q)), Nat.min_eq_left (by omega)]
set_option maxRecDepth 100000 in
set_option maxHeartbeats 4000000 in
theorem c_rotr {g : ab_G} {N : Nat} {w : ab_W} (x y : Int32) : ab_Ct MJ6_rotateRight_7cf53 g [.int x, .int y] N w (rt (some (.int (rotr x y))) N w) := by
  refine ab_Ct.of (by decide +kernel) (Nat.le_of_ble_eq_true rfl) (by rintro _ _ _ ⟨rfl, rfl, rfl⟩; trivial) ?_
  show ab_St MJ6_rotateRight_7cf53 g 0 0 0 [(0, .int x), (1, .int y)] [] _ _ _
  refine r_iload_n dJ6_rotateRight_7cf53_0 rfl ?_
  refine r_iload_n dJ6_rotateRight_7cf53_1 rfl ?_
  refine r_iushr dJ6_rotateRight_7cf53_2 ?_
  refine r_iload_n dJ6_rotateRight_7cf53_3 rfl ?_
  refine r_iload_n dJ6_rotateRight_7cf53_4 rfl ?_
  refine r_ineg dJ6_rotateRight_7cf53_5 ?_
  refine r_ishl dJ6_rotateRight_7cf53_6 ?_
  refine r_ior dJ6_rotateRight_7cf53_7 ?_
  refine r_ret (r := (some (.int _))) dJ6_rotateRight_7cf53_8 (by decide) (by decide) ?_
  exact ⟨rfl, rfl, rfl⟩
set_option maxRecDepth 100000 in
set_option maxHeartbeats 4000000 in
theorem c_fill {g : ab_G} {N a n v : Nat} {w : ab_W} (hw : w a = aN n v) (hn : n ≤ 1000) (hv : v < 4294967296 ^ n) : ab_Ct MJ7_fill_d0a16 g [.ref a, .long (lN 0)] N w (rt none N (wu w a (aN n 0))) := by
  refine ab_Ct.of (by decide +kernel) (Nat.le_of_ble_eq_true rfl) (by rintro _ _ _ ⟨rfl, rfl, rfl⟩; trivial) ?_
  show ab_St MJ7_fill_d0a16 g 0 0 0 [(0, .ref a), (1, .long (lN 0))] [] _ _ _
  refine r_iconst (v := nI 0) dJ7_fill_d0a16_0 (by decide) ?_
  refine r_istore_n (i := 3) (L0 := [(0, _), (1, _)]) dJ7_fill_d0a16_1 rfl (by decide) rfl ?_
  refine r_aload_n dJ7_fill_d0a16_2 rfl ?_
  refine r_alen' dJ7_fill_d0a16_3 (by repeat first | exact wu_eq | assumption | refine wu_ne (by omega) ?_) (by rfl) ?_
  refine r_istore (i := 4) (L0 := [(3, _), (0, _), (1, _)]) dJ7_fill_d0a16_4 (by decide) rfl ?_
  have K : ∀ k i, i + k = n → ab_St MJ7_fill_d0a16 g 0 0 6 [(3, .int (nI i)), (4, .int (nI n)), (0, .ref a), (1, .long (lN 0))] [] N (wu w a (aJ n (fl i (rJ 0) (rJ v)))) (rt none N (wu w a (aN n 0))) := by
    intro k
    induction k with
    | zero =>
      intro i hi
      refine r_iload_n dJ7_fill_d0a16_6 rfl ?_
      refine r_iload dJ7_fill_d0a16_7 rfl ?_
      first | refine r_icmp_geN (tgt := 22) dJ7_fill_d0a16_9 (by decide) (by omega) (by omega) (fun h9 => ?_) (fun h9 => ?_) | refine r_icmp_ge (tgt := 22) dJ7_fill_d0a16_9 (by decide) (fun h9 => ?_) (fun h9 => ?_)
      · refine r_ret (r := none) dJ7_fill_d0a16_22 (by decide) (by decide) ?_
        refine ⟨rfl, rfl, ?_⟩
        rw [show i = n by omega, fl_end fun k hk => by unfold rJ; rw [dg_big hv hk (by decide), dg_big (n := 0) (v := 0) (by decide) (by omega) (by decide)]]
      · omega
    | succ k ih =>
      intro i hi
      refine r_iload_n dJ7_fill_d0a16_6 rfl ?_
      refine r_iload dJ7_fill_d0a16_7 rfl ?_
      first | refine r_icmp_geN (tgt := 22) dJ7_fill_d0a16_9 (by decide) (by omega) (by omega) (fun h9 => ?_) (fun h9 => ?_) | refine r_icmp_ge (tgt := 22) dJ7_fill_d0a16_9 (by decide) (fun h9 => ?_) (fun h9 => ?_)
      · omega
      · refine r_aload_n dJ7_fill_d0a16_12 rfl ?_
        refine r_iload_n dJ7_fill_d0a16_13 rfl ?_
        refine r_lload_n dJ7_fill_d0a16_14 rfl ?_
        refine r_lastore dJ7_fill_d0a16_15 (by repeat first | exact wu_eq | assumption | refine wu_ne (by omega) ?_) _ rfl (by omega) (by omega) ?_
        refine r_iinc (L0 := [(4, _), (0, _), (1, _)]) dJ7_fill_d0a16_16 rfl (by first | exact iinc1 _ | rfl) (by decide) rfl ?_
        refine r_goto (tgt := 6) dJ7_fill_d0a16_19 (by decide) ?_
        rw [wu_wu, fl_up' (f := rJ 0) (show lN 0 = rJ 0 i by unfold rJ dg; simp)]
        refine r_sub [0, 1, 2, 3] rfl ?_
        exact ih (i + 1) (by omega)
  have h := K n 0 (by omega)
  rw [fl_0, wu_self hw] at h
  refine r_sub [1, 0, 2, 3] rfl ?_
  exact h
set_option maxRecDepth 100000 in
set_option maxHeartbeats 4000000 in
theorem c_nlzI {g : ab_G} {N d : Nat} {w : ab_W} (h0 : 0 < d) (h : d < 2147483648) : ab_Ct MJ6_numberOfLeadingZeros_0f7a4 g [.int (nI d)] N w (rt (some (.int (nI (32 - bl d)))) N w) := by
  have hbd : bl d ≤ 31 := bl_le h
  have K73 : ∀ k u, 0 < u → u < 4 → k + bl d = 31 + bl u → ab_St MJ6_numberOfLeadingZeros_0f7a4 g 0 0 73 [(0, .int (nI u)), (1, .int (nI k))] [] N w (rt (some (.int (nI (32 - bl d)))) N w) := by
    intro k u h1 h2 h3
    rw [bl_small h1 h2] at h3
    refine r_iload_n dJ6_numberOfLeadingZeros_0f7a4_73 rfl ?_
    refine r_iload_n dJ6_numberOfLeadingZeros_0f7a4_74 rfl ?_
    refine r_iconst (v := nI 1) dJ6_numberOfLeadingZeros_0f7a4_75 (by decide) ?_
    first | refine r_iushrN 1 (by decide) dJ6_numberOfLeadingZeros_0f7a4_76 (by omega) ?_ | refine r_iushr dJ6_numberOfLeadingZeros_0f7a4_76 ?_
    first | refine r_isubN dJ6_numberOfLeadingZeros_0f7a4_77 (by omega) ?_ | refine r_isub dJ6_numberOfLeadingZeros_0f7a4_77 ?_
    refine r_ret (r := (some (.int _))) dJ6_numberOfLeadingZeros_0f7a4_78 (by decide) (by decide) ?_
    refine ⟨?_, rfl, rfl⟩
    rw [show k - u / 2 ^ 1 = 32 - bl d by omega]
  have K61 : ∀ k u, 0 < u → u < 16 → k + bl d = 31 + bl u → ab_St MJ6_numberOfLeadingZeros_0f7a4 g 0 0 61 [(0, .int (nI u)), (1, .int (nI k))] [] N w (rt (some (.int (nI (32 - bl d)))) N w) := by
    intro k u h1 h2 h3
    refine r_iload_n dJ6_numberOfLeadingZeros_0f7a4_61 rfl ?_
    refine r_iconst (v := nI 4) dJ6_numberOfLeadingZeros_0f7a4_62 (by decide) ?_
    first | refine r_icmp_ltN (tgt := 73) dJ6_numberOfLeadingZeros_0f7a4_63 (by decide) (by omega) (by omega) (fun h63 => ?_) (fun h63 => ?_) | refine r_icmp_lt (tgt := 73) dJ6_numberOfLeadingZeros_0f7a4_63 (by decide) (fun h63 => ?_) (fun h63 => ?_)
    · exact K73 k u h1 (by omega) h3
    · have e := bl_half (u := u) (c := 2) (by omega)
      refine r_iinc (L0 := [(0, _)]) dJ6_numberOfLeadingZeros_0f7a4_66 rfl (iincm 2 (by omega) (by decide)) (by decide) rfl ?_
      refine r_iload_n dJ6_numberOfLeadingZeros_0f7a4_69 rfl ?_
      refine r_iconst (v := nI 2) dJ6_numberOfLeadingZeros_0f7a4_70 (by decide) ?_
      first | refine r_iushrN 2 (by decide) dJ6_numberOfLeadingZeros_0f7a4_71 (by omega) ?_ | refine r_iushr dJ6_numberOfLeadingZeros_0f7a4_71 ?_
      refine r_istore_n (i := 0) (L0 := [(1, _)]) dJ6_numberOfLeadingZeros_0f7a4_72 rfl (by decide) rfl ?_
      exact K73 _ _ (by omega) (by omega) (by omega)
  have K48 : ∀ k u, 0 < u → u < 256 → k + bl d = 31 + bl u → ab_St MJ6_numberOfLeadingZeros_0f7a4 g 0 0 48 [(0, .int (nI u)), (1, .int (nI k))] [] N w (rt (some (.int (nI (32 - bl d)))) N w) := by
    intro k u h1 h2 h3
    refine r_iload_n dJ6_numberOfLeadingZeros_0f7a4_48 rfl ?_
    refine r_bipush (v := nI 16) dJ6_numberOfLeadingZeros_0f7a4_49 (by decide) ?_
    first | refine r_icmp_ltN (tgt := 61) dJ6_numberOfLeadingZeros_0f7a4_51 (by decide) (by omega) (by omega) (fun h51 => ?_) (fun h51 => ?_) | refine r_icmp_lt (tgt := 61) dJ6_numberOfLeadingZeros_0f7a4_51 (by decide) (fun h51 => ?_) (fun h51 => ?_)
    · exact K61 k u h1 (by omega) h3
    · have e := bl_half (u := u) (c := 4) (by omega)
      refine r_iinc (L0 := [(0, _)]) dJ6_numberOfLeadingZeros_0f7a4_54 rfl (iincm 4 (by omega) (by decide)) (by decide) rfl ?_
      refine r_iload_n dJ6_numberOfLeadingZeros_0f7a4_57 rfl ?_
      refine r_iconst (v := nI 4) dJ6_numberOfLeadingZeros_0f7a4_58 (by decide) ?_
      first | refine r_iushrN 4 (by decide) dJ6_numberOfLeadingZeros_0f7a4_59 (by omega) ?_ | refine r_iushr dJ6_numberOfLeadingZeros_0f7a4_59 ?_
      refine r_istore_n (i := 0) (L0 := [(1, _)]) dJ6_numberOfLeadingZeros_0f7a4_60 rfl (by decide) rfl ?_
      exact K61 _ _ (by omega) (by omega) (by omega)
  have K33 : ∀ k u, 0 < u → u < 65536 → k + bl d = 31 + bl u → ab_St MJ6_numberOfLeadingZeros_0f7a4 g 0 0 33 [(0, .int (nI u)), (1, .int (nI k))] [] N w (rt (some (.int (nI (32 - bl d)))) N w) := by
    intro k u h1 h2 h3
    refine r_iload_n dJ6_numberOfLeadingZeros_0f7a4_33 rfl ?_
    refine r_sipush (v := nI 256) dJ6_numberOfLeadingZeros_0f7a4_34 (by decide) ?_
    first | refine r_icmp_ltN (tgt := 48) dJ6_numberOfLeadingZeros_0f7a4_37 (by decide) (by omega) (by omega) (fun h37 => ?_) (fun h37 => ?_) | refine r_icmp_lt (tgt := 48) dJ6_numberOfLeadingZeros_0f7a4_37 (by decide) (fun h37 => ?_) (fun h37 => ?_)
    · exact K48 k u h1 (by omega) h3
    · have e := bl_half (u := u) (c := 8) (by omega)
      refine r_iinc (L0 := [(0, _)]) dJ6_numberOfLeadingZeros_0f7a4_40 rfl (iincm 8 (by omega) (by decide)) (by decide) rfl ?_
      refine r_iload_n dJ6_numberOfLeadingZeros_0f7a4_43 rfl ?_
      refine r_bipush (v := nI 8) dJ6_numberOfLeadingZeros_0f7a4_44 (by decide) ?_
      first | refine r_iushrN 8 (by decide) dJ6_numberOfLeadingZeros_0f7a4_46 (by omega) ?_ | refine r_iushr dJ6_numberOfLeadingZeros_0f7a4_46 ?_
      refine r_istore_n (i := 0) (L0 := [(1, _)]) dJ6_numberOfLeadingZeros_0f7a4_47 rfl (by decide) rfl ?_
      exact K48 _ _ (by omega) (by omega) (by omega)
  refine ab_Ct.of (by decide +kernel) (Nat.le_of_ble_eq_true rfl) (by rintro _ _ _ ⟨rfl, rfl, rfl⟩; trivial) ?_
  show ab_St MJ6_numberOfLeadingZeros_0f7a4 g 0 0 0 [(0, .int (nI d))] [] _ _ _
  refine r_iload_n dJ6_numberOfLeadingZeros_0f7a4_0 rfl ?_
  first | refine r_if_gtN (tgt := 15) dJ6_numberOfLeadingZeros_0f7a4_1 (by decide) (by omega) (fun h1 => ?_) (fun h1 => ?_) | refine r_if_gt (tgt := 15) dJ6_numberOfLeadingZeros_0f7a4_1 (by decide) (fun h1 => ?_) (fun h1 => ?_)
  · refine r_bipush (v := nI 31) dJ6_numberOfLeadingZeros_0f7a4_15 (by decide) ?_
    refine r_istore_n (i := 1) (L0 := [(0, _)]) dJ6_numberOfLeadingZeros_0f7a4_17 rfl (by decide) rfl ?_
    refine r_iload_n dJ6_numberOfLeadingZeros_0f7a4_18 rfl ?_
    refine r_ldc_w dJ6_numberOfLeadingZeros_0f7a4_19 qJ6_264 ?_
    refine r_toI (y := nI 65536) (by decide) ?_
    first | refine r_icmp_ltN (tgt := 33) dJ6_numberOfLeadingZeros_0f7a4_22 (by decide) (by omega) (by omega) (fun h22 => ?_) (fun h22 => ?_) | refine r_icmp_lt (tgt := 33) dJ6_numberOfLeadingZeros_0f7a4_22 (by decide) (fun h22 => ?_) (fun h22 => ?_)
    · refine r_sub [1, 0] rfl ?_
      exact K33 31 d h0 (by omega) rfl
    · have e := bl_half (u := d) (c := 16) (by omega)
      refine r_iinc (L0 := [(0, _)]) dJ6_numberOfLeadingZeros_0f7a4_25 rfl (iincm 16 (by omega) (by decide)) (by decide) rfl ?_
      refine r_iload_n dJ6_numberOfLeadingZeros_0f7a4_28 rfl ?_
      refine r_bipush (v := nI 16) dJ6_numberOfLeadingZeros_0f7a4_29 (by decide) ?_
      first | refine r_iushrN 16 (by decide) dJ6_numberOfLeadingZeros_0f7a4_31 (by omega) ?_ | refine r_iushr dJ6_numberOfLeadingZeros_0f7a4_31 ?_
      refine r_istore_n (i := 0) (L0 := [(1, _)]) dJ6_numberOfLeadingZeros_0f7a4_32 rfl (by decide) rfl ?_
      exact K33 _ _ (by omega) (by omega) (by omega)
  · omega
set_option maxRecDepth 100000 in
set_option maxHeartbeats 4000000 in
theorem c_nlzN {g : ab_G} {N d : Nat} {w : ab_W} (h0 : 2147483648 ≤ d) (h : d < 4294967296) : ab_Ct MJ6_numberOfLeadingZeros_0f7a4 g [.int (nI d)] N w (rt (some (.int (nI 0))) N w) := by
  have hneg : nI d < 0 := by
    rw [Int32.lt_iff_toInt_lt]
    show (BitVec.ofNat 32 d).toInt < _
    rw [BitVec.toInt_eq_toNat_cond, BitVec.toNat_ofNat, Nat.mod_eq_of_lt (by omega), if_neg (by omega)]
    show (d : Int) - 4294967296 < 0
    omega
  refine ab_Ct.of (by decide +kernel) (Nat.le_of_ble_eq_true rfl) (by rintro _ _ _ ⟨rfl, rfl, rfl⟩; trivial) ?_
  show ab_St MJ6_numberOfLeadingZeros_0f7a4 g 0 0 0 [(0, .int (nI d))] [] _ _ _
  refine r_iload_n dJ6_numberOfLeadingZeros_0f7a4_0 rfl ?_
  refine r_if_gt (tgt := 15) dJ6_numberOfLeadingZeros_0f7a4_1 (by decide) (fun h => absurd h (Int32.not_lt.mpr (Int32.le_of_lt hneg))) (fun h1 => ?_)
  refine r_iload_n dJ6_numberOfLeadingZeros_0f7a4_4 rfl ?_
  refine r_if_ne (tgt := 13) dJ6_numberOfLeadingZeros_0f7a4_5 (by decide) (fun h5 => ?_) (fun h => absurd h (fun q => by rw [q] at hneg; exact absurd hneg (by decide)))
  refine r_iconst (v := nI 0) dJ6_numberOfLeadingZeros_0f7a4_13 (by decide) ?_
  refine r_ret (r := (some (.int _))) dJ6_numberOfLeadingZeros_0f7a4_14 (by decide) (by decide) ?_
  exact ⟨rfl, rfl, rfl⟩
set_option maxRecDepth 100000 in
set_option maxHeartbeats 4000000 in
theorem c_nlzL {g : ab_G} {N d : Nat} {w : ab_W} (h0 : 0 < d) (h : d < 4294967296) : ab_Ct MJ13_numberOfLeadingZeros_95d88 g [.long (lN d)] N w (rt (some (.int (nI (64 - bl d)))) N w) := by
  have hb : bl d ≤ 32 := bl_le h
  refine ab_Ct.of (by decide +kernel) (Nat.le_of_ble_eq_true rfl) (by rintro _ _ _ ⟨rfl, rfl, rfl⟩; trivial) ?_
  show ab_St MJ13_numberOfLeadingZeros_95d88 g 0 0 0 [(0, .long (lN d))] [] _ _ _
  refine r_lload_n dJ13_numberOfLeadingZeros_95d88_0 rfl ?_
  refine r_bipush (v := nI 32) dJ13_numberOfLeadingZeros_95d88_1 (by decide) ?_
  first | refine r_lushrN 32 (by decide) dJ13_numberOfLeadingZeros_95d88_3 (by omega) ?_ | refine r_lushr dJ13_numberOfLeadingZeros_95d88_3 ?_
  first | refine r_l2iN dJ13_numberOfLeadingZeros_95d88_4 ?_ | refine r_l2i dJ13_numberOfLeadingZeros_95d88_4 ?_
  refine r_istore_n (i := 2) (L0 := [(0, _)]) dJ13_numberOfLeadingZeros_95d88_5 rfl (by decide) rfl ?_
  refine r_iload_n dJ13_numberOfLeadingZeros_95d88_6 rfl ?_
  first | refine r_if_neN (tgt := 21) dJ13_numberOfLeadingZeros_95d88_7 (by decide) (by omega) (fun h7 => ?_) (fun h7 => ?_) | refine r_if_ne (tgt := 21) dJ13_numberOfLeadingZeros_95d88_7 (by decide) (fun h7 => ?_) (fun h7 => ?_)
  · omega
  · refine r_bipush (v := nI 32) dJ13_numberOfLeadingZeros_95d88_10 (by decide) ?_
    refine r_lload_n dJ13_numberOfLeadingZeros_95d88_12 rfl ?_
    first | refine r_l2iN dJ13_numberOfLeadingZeros_95d88_13 ?_ | refine r_l2i dJ13_numberOfLeadingZeros_95d88_13 ?_
    rcases Nat.lt_or_ge d 2147483648 with hd | hd
    · refine r_invS dJ13_numberOfLeadingZeros_95d88_14 kJ13_308 (c_nlzI h0 hd) rfl rfl ⟨by decide, by decide⟩ (Nat.le_of_ble_eq_true rfl) ⟨by decide, by decide⟩ ⟨rfl, rfl⟩ ?_
      rintro _ _ _ ⟨rfl, rfl, rfl⟩
      first | refine r_iaddN dJ13_numberOfLeadingZeros_95d88_17 ?_ | refine r_iadd dJ13_numberOfLeadingZeros_95d88_17 ?_
      refine r_goto (tgt := 25) dJ13_numberOfLeadingZeros_95d88_18 (by decide) ?_
      refine r_ret (r := (some (.int _))) dJ13_numberOfLeadingZeros_95d88_25 (by decide) (by decide) ?_
      refine ⟨?_, rfl, rfl⟩
      rw [show 32 + (32 - bl d) = 64 - bl d by omega]
    · have e : bl d = 32 := bl_of hd h
      refine r_invS dJ13_numberOfLeadingZeros_95d88_14 kJ13_308 (c_nlzN hd h) rfl rfl ⟨by decide, by decide⟩ (Nat.le_of_ble_eq_true rfl) ⟨by decide, by decide⟩ ⟨rfl, rfl⟩ ?_
      rintro _ _ _ ⟨rfl, rfl, rfl⟩
      first | refine r_iaddN dJ13_numberOfLeadingZeros_95d88_17 ?_ | refine r_iadd dJ13_numberOfLeadingZeros_95d88_17 ?_
      refine r_goto (tgt := 25) dJ13_numberOfLeadingZeros_95d88_18 (by decide) ?_
      refine r_ret (r := (some (.int _))) dJ13_numberOfLeadingZeros_95d88_25 (by decide) (by decide) ?_
      refine ⟨?_, rfl, rfl⟩
      rw [e]
end
section
/-! SignHouse$Rows: what each method does to the numbers in its rows -/
set_option maxRecDepth 100000 in
set_option maxHeartbeats 4000000 in
theorem c_byteAt {g : ab_G} {N a n v q : Nat} {w : ab_W} (hw : w a = aN n v) (hn : n ≤ 1000) (hv : v < 4294967296 ^ n) (hq : q < 100000) : ab_Ct MX5_byteAt g [.ref a, .int (nI q)] N w (rt (some (.int (nI (dg 256 v q)))) N w) := by
  have hx : dg 4294967296 v (q / 2 ^ 2) / 2 ^ (8 * (q % 2 ^ 2)) < 4294967296 := Nat.lt_of_le_of_lt (Nat.div_le_self _ _) (dg_lt v _)
  have hd := dg_lt v (q / 2 ^ 2)
  refine ab_Ct.of (by decide +kernel) (Nat.le_of_ble_eq_true rfl) (by rintro _ _ _ ⟨rfl, rfl, rfl⟩; trivial) ?_
  show ab_St MX5_byteAt g 0 0 0 [(0, .ref a), (1, .int (nI q))] [] _ _ _
  refine r_iload_n dX5_byteAt_0 rfl ?_
  refine r_iconst (v := nI 2) dX5_byteAt_1 (by decide) ?_
  first | refine r_ishrN 2 (by decide) dX5_byteAt_2 (by omega) ?_ | refine r_ishr dX5_byteAt_2 ?_
  refine r_istore_n (i := 2) (L0 := [(0, _), (1, _)]) dX5_byteAt_3 rfl (by decide) rfl ?_
  refine r_iload_n dX5_byteAt_4 rfl ?_
  first | refine r_if_ltN (tgt := 14) dX5_byteAt_5 (by decide) (by omega) (fun h5 => ?_) | refine r_if_lt (tgt := 14) dX5_byteAt_5 (by decide) (fun h5 => ?_) (fun h5 => ?_)
  refine r_iload_n dX5_byteAt_8 rfl ?_
  refine r_aload_n dX5_byteAt_9 rfl ?_
  refine r_alen' dX5_byteAt_10 (by repeat first | exact wu_eq | assumption | (apply wu_ne; first | omega | assumption | (apply Ne.symm; assumption))) (by rfl) ?_
  first | refine r_icmp_ltN (tgt := 16) dX5_byteAt_11 (by decide) (by omega) (by omega) (fun h11 => ?_) (fun h11 => ?_) | refine r_icmp_lt (tgt := 16) dX5_byteAt_11 (by decide) (fun h11 => ?_) (fun h11 => ?_)
  · refine r_aload_n dX5_byteAt_16 rfl ?_
    refine r_iload_n dX5_byteAt_17 rfl ?_
    refine r_laload' dX5_byteAt_18 (by repeat first | exact wu_eq | assumption | (apply wu_ne; first | omega | assumption | (apply Ne.symm; assumption))) (by rfl) _ rfl (by omega) (by omega) ?_
    refine r_bipush (v := nI 8) dX5_byteAt_19 (by decide) ?_
    refine r_iload_n dX5_byteAt_21 rfl ?_
    refine r_iconst (v := nI 3) dX5_byteAt_22 (by decide) ?_
    first | refine r_iandN 2 (by decide) dX5_byteAt_23 (by omega) ?_ | refine r_iand dX5_byteAt_23 ?_
    first | refine r_imulN dX5_byteAt_24 ?_ | refine r_imul dX5_byteAt_24 ?_
    refine r_lushrN _ (by omega) dX5_byteAt_25 (by omega) ?_
    first | refine r_l2iN dX5_byteAt_26 ?_ | refine r_l2i dX5_byteAt_26 ?_
    refine r_sipush (v := nI 255) dX5_byteAt_27 (by decide) ?_
    refine r_iandN 8 (by decide) dX5_byteAt_30 hx ?_
    refine r_ret (r := (some (.int _))) dX5_byteAt_31 (by decide) (by decide) ?_
    rw [dg_byte]
    exact ⟨rfl, rfl, rfl⟩
  · refine r_iconst (v := nI 0) dX5_byteAt_14 (by decide) ?_
    refine r_ret (r := (some (.int _))) dX5_byteAt_15 (by decide) (by decide) ?_
    rw [dg_big (k := q) (b := 256) (n := 4 * n) (by rw [Nat.pow_mul]; exact hv) (by omega) (by decide)]
    exact ⟨rfl, rfl, rfl⟩
set_option maxRecDepth 100000 in
set_option maxHeartbeats 4000000 in
theorem c_putByte {g : ab_G} {N a n u q b : Nat} {w : ab_W} (hw : w a = aN n u) (hn : n ≤ 1000) (hq : q < 4 * n) (hb : b < 256) : ab_Ct MX5_putByte g [.ref a, .int (nI q), .int (nI b)] N w (rt none N (wu w a (aN n (ud 256 u q b)))) := by
  have hd := dg_lt u (q / 2 ^ 2)
  have hr : q % 2 ^ 2 < 4 := Nat.mod_lt _ (by decide)
  have e4 : (256 : Nat) ^ 4 = 4294967296 := by decide
  have hlim : ud 256 (dg 4294967296 u (q / 2 ^ 2)) (q % 2 ^ 2) b < 4294967296 := by
    have h := ud_lt (b := 256) (v := dg 4294967296 u (q / 2 ^ 2)) (i := q % 2 ^ 2) (x := b) (n := 4) (by decide) hb (by rw [e4]; exact hd) hr
    rw [e4] at h
    exact h
  refine ab_Ct.of (by decide +kernel) (Nat.le_of_ble_eq_true rfl) (by rintro _ _ _ ⟨rfl, rfl, rfl⟩; trivial) ?_
  show ab_St MX5_putByte g 0 0 0 [(0, .ref a), (1, .int (nI q)), (2, .int (nI b))] [] _ _ _
  refine r_iload_n dX5_putByte_0 rfl ?_
  refine r_iconst (v := nI 2) dX5_putByte_1 (by decide) ?_
  first | refine r_ishrN 2 (by decide) dX5_putByte_2 (by omega) ?_ | refine r_ishr dX5_putByte_2 ?_
  refine r_istore_n (i := 3) (L0 := [(0, _), (1, _), (2, _)]) dX5_putByte_3 rfl (by decide) rfl ?_
  refine r_iload_n dX5_putByte_4 rfl ?_
  first | refine r_if_ltN (tgt := 14) dX5_putByte_5 (by decide) (by omega) (fun h5 => ?_) | refine r_if_lt (tgt := 14) dX5_putByte_5 (by decide) (fun h5 => ?_) (fun h5 => ?_)
  refine r_iload_n dX5_putByte_8 rfl ?_
  refine r_aload_n dX5_putByte_9 rfl ?_
  refine r_alen' dX5_putByte_10 (by repeat first | exact wu_eq | assumption | (apply wu_ne; first | omega | assumption | (apply Ne.symm; assumption))) (by rfl) ?_
  first | refine r_icmp_ltN (tgt := 15) dX5_putByte_11 (by decide) (by omega) (by omega) (fun h11 => ?_) (fun h11 => ?_) | refine r_icmp_lt (tgt := 15) dX5_putByte_11 (by decide) (fun h11 => ?_) (fun h11 => ?_)
  · refine r_bipush (v := nI 8) dX5_putByte_15 (by decide) ?_
    refine r_iload_n dX5_putByte_17 rfl ?_
    refine r_iconst (v := nI 3) dX5_putByte_18 (by decide) ?_
    first | refine r_iandN 2 (by decide) dX5_putByte_19 (by omega) ?_ | refine r_iand dX5_putByte_19 ?_
    first | refine r_imulN dX5_putByte_20 ?_ | refine r_imul dX5_putByte_20 ?_
    refine r_istore (i := 4) (L0 := [(3, _), (0, _), (1, _), (2, _)]) dX5_putByte_21 (by decide) rfl ?_
    refine r_aload_n dX5_putByte_23 rfl ?_
    refine r_iload_n dX5_putByte_24 rfl ?_
    refine r_aload_n dX5_putByte_25 rfl ?_
    refine r_iload_n dX5_putByte_26 rfl ?_
    refine r_laload' dX5_putByte_27 (by repeat first | exact wu_eq | assumption | (apply wu_ne; first | omega | assumption | (apply Ne.symm; assumption))) (by rfl) _ rfl (by omega) (by omega) ?_
    refine r_ldc2 dX5_putByte_28 qX5_7 ?_
    refine r_toJ (y := lN 255) rfl ?_
    refine r_iload dX5_putByte_31 rfl ?_
    refine r_lshl dX5_putByte_33 ?_
    refine r_ldc2 dX5_putByte_34 qX5_9 ?_
    refine r_lxor dX5_putByte_37 ?_
    refine r_land dX5_putByte_38 ?_
    refine r_iload_n dX5_putByte_39 rfl ?_
    first | refine r_i2lN dX5_putByte_40 (by omega) ?_ | refine r_i2l dX5_putByte_40 ?_
    refine r_ldc2 dX5_putByte_41 qX5_7 ?_
    refine r_toJ (y := lN 255) rfl ?_
    refine r_land dX5_putByte_44 ?_
    refine r_iload dX5_putByte_45 rfl ?_
    refine r_lshl dX5_putByte_47 ?_
    refine r_lor dX5_putByte_48 ?_
    refine r_lastore dX5_putByte_49 (by repeat first | exact wu_eq | assumption | (apply wu_ne; first | omega | assumption | (apply Ne.symm; assumption))) _ rfl (by omega) (by omega) ?_
    refine r_ret (r := none) dX5_putByte_50 (by decide) (by decide) ?_
    refine ⟨rfl, rfl, ?_⟩
    rw [show rJ u (q / 2 ^ 2) = lN (dg 4294967296 u (q / 2 ^ 2)) from rfl, lN_put hd hb hr, rJ_ud hlim, ud_word hb]
  · omega
theorem nI_zk {d : Nat} (h : d < 2) : nI d = 0 ∨ nI d = 1 := by
  rcases (show d = 0 ∨ d = 1 by omega) with rfl | rfl
  · exact Or.inl (by decide)
  · exact Or.inr (by decide)
set_option maxRecDepth 100000 in
set_option maxHeartbeats 4000000 in
theorem c_bitAt {g : ab_G} {N a n v q : Nat} {w : ab_W} {c : ab_C} (hw : w a = c) (hc : c = aN n v ∨ c = xJ n (rJ v)) (hn : n ≤ 1000) (hv : v < 4294967296 ^ n) (hq : q < 100000) : ab_Ct MX5_bitAt g [.ref a, .int (nI q)] N w (rt (some (.int (nI (dg 2 v q)))) N w) := by
  have hd := dg_lt v (q / 2 ^ 5)
  have hL : rdL c = some n := by rcases hc with rfl | rfl <;> rfl
  have hJ : rdJ c = some (n, rJ v) := by rcases hc with rfl | rfl <;> rfl
  have hx : dg 4294967296 v (q / 2 ^ 5) / 2 ^ (q % 2 ^ 5) < 4294967296 := Nat.lt_of_le_of_lt (Nat.div_le_self _ _) hd
  have hb : dg 2 v q < 2 := dg_lt' (by decide) v q
  refine ab_Ct.of (by decide +kernel) (Nat.le_of_ble_eq_true rfl) (by rintro _ _ _ ⟨rfl, rfl, rfl⟩; exact nI_zk hb) ?_
  show ab_St MX5_bitAt g 0 0 0 [(0, .ref a), (1, .int (nI q))] [] _ _ _
  refine r_iload_n dX5_bitAt_0 rfl ?_
  refine r_iconst (v := nI 5) dX5_bitAt_1 (by decide) ?_
  first | refine r_ishrN 5 (by decide) dX5_bitAt_2 (by omega) ?_ | refine r_ishr dX5_bitAt_2 ?_
  refine r_istore_n (i := 2) (L0 := [(0, _), (1, _)]) dX5_bitAt_3 rfl (by decide) rfl ?_
  refine r_iload_n dX5_bitAt_4 rfl ?_
  first | refine r_if_ltN (tgt := 33) dX5_bitAt_5 (by decide) (by omega) (fun h5 => ?_) | refine r_if_lt (tgt := 33) dX5_bitAt_5 (by decide) (fun h5 => ?_) (fun h5 => ?_)
  refine r_iload_n dX5_bitAt_8 rfl ?_
  refine r_aload_n dX5_bitAt_9 rfl ?_
  refine r_alen' dX5_bitAt_10 hw hL ?_
  first | refine r_icmp_geN (tgt := 33) dX5_bitAt_11 (by decide) (by omega) (by omega) (fun h11 => ?_) (fun h11 => ?_) | refine r_icmp_ge (tgt := 33) dX5_bitAt_11 (by decide) (fun h11 => ?_) (fun h11 => ?_)
  · refine r_iconst (v := nI 0) dX5_bitAt_33 (by decide) ?_
    refine r_ret (r := (some (.int _))) dX5_bitAt_34 (by decide) (by decide) ?_
    rw [dg_big (k := q) (b := 2) (n := 32 * n) (by rw [Nat.pow_mul]; exact hv) (by omega) (by decide)]
    exact ⟨rfl, rfl, rfl⟩
  · refine r_aload_n dX5_bitAt_14 rfl ?_
    refine r_iload_n dX5_bitAt_15 rfl ?_
    refine r_laload' dX5_bitAt_16 hw hJ _ rfl (by omega) (by omega) ?_
    refine r_iload_n dX5_bitAt_17 rfl ?_
    refine r_bipush (v := nI 31) dX5_bitAt_18 (by decide) ?_
    first | refine r_iandN 5 (by decide) dX5_bitAt_20 (by omega) ?_ | refine r_iand dX5_bitAt_20 ?_
    refine r_lushrN _ (by omega) dX5_bitAt_21 (by omega) ?_
    refine r_lconst (v := lN 1) dX5_bitAt_22 (by decide) ?_
    refine r_land dX5_bitAt_23 (r_toJ (wb_a1 (by omega)) ?_)
    rw [dg_bit]
    refine r_lconst (v := lN 1) dX5_bitAt_24 (by decide) ?_
    first | refine r_lcmp_neN (tgt := 33) dX5_bitAt_25 dX5_bitAt_26 (by decide) (by omega) (by omega) (fun h25 => ?_) (fun h25 => ?_) | refine r_lcmp_ne (tgt := 33) dX5_bitAt_25 dX5_bitAt_26 (by decide) (fun h25 => ?_) (fun h25 => ?_)
    · refine r_iconst (v := nI 0) dX5_bitAt_33 (by decide) ?_
      refine r_ret (r := (some (.int _))) dX5_bitAt_34 (by decide) (by decide) ?_
      rw [show dg 2 v q = 0 by omega]
      exact ⟨rfl, rfl, rfl⟩
    · refine r_iconst (v := nI 1) dX5_bitAt_29 (by decide) ?_
      refine r_goto (tgt := 34) dX5_bitAt_30 (by decide) ?_
      refine r_ret (r := (some (.int _))) dX5_bitAt_34 (by decide) (by decide) ?_
      rw [h25]
      exact ⟨rfl, rfl, rfl⟩
set_option maxRecDepth 100000 in
set_option maxHeartbeats 4000000 in
theorem c_bitCount {g : ab_G} {N a n v : Nat} {w : ab_W} {c : ab_C} (hw : w a = c) (hc : c = aN n v ∨ c = xJ n (rJ v)) (hn : n ≤ 1000) (h0 : 0 < n) (hv : v < 4294967296 ^ n) : ab_Ct MX5_bitCount g [.ref a] N w (rt (some (.int (nI (bl v)))) N w) := by
  have hL : rdL c = some n := by rcases hc with rfl | rfl <;> rfl
  have hJ : rdJ c = some (n, rJ v) := by rcases hc with rfl | rfl <;> rfl
  have K : ∀ k, k ≤ n → v < 4294967296 ^ k → ab_St MX5_bitCount g 0 0 5 [(1, .int (nI k - 1)), (0, .ref a)] [] N w (rt (some (.int (nI (bl v)))) N w) := by
    intro k
    induction k with
    | zero =>
      intro _ hk
      refine r_iload_n dX5_bitCount_5 rfl ?_
      refine r_if_lt (tgt := 38) dX5_bitCount_6 (by decide) (fun _ => ?_) (fun h => absurd nI0lt h)
      refine r_iconst (v := nI 0) dX5_bitCount_38 (by decide) ?_
      refine r_ret (r := (some (.int _))) dX5_bitCount_39 (by decide) (by decide) ?_
      rw [show v = 0 by simpa using hk]
      exact ⟨rfl, rfl, rfl⟩
    | succ k ih =>
      intro hkn hk
      rw [i32_pm]
      have hd := dg_lt v k
      refine r_iload_n dX5_bitCount_5 rfl ?_
      first | refine r_if_ltN (tgt := 38) dX5_bitCount_6 (by decide) (by omega) (fun h6 => ?_) | refine r_if_lt (tgt := 38) dX5_bitCount_6 (by decide) (fun h6 => ?_) (fun h6 => ?_)
      refine r_aload_n dX5_bitCount_9 rfl ?_
      refine r_iload_n dX5_bitCount_10 rfl ?_
      refine r_laload' dX5_bitCount_11 hw hJ _ rfl (by omega) (by omega) ?_
      refine r_lconst (v := lN 0) dX5_bitCount_12 (by decide) ?_
      first | refine r_lcmp_eqN (tgt := 32) dX5_bitCount_13 dX5_bitCount_14 (by decide) (by omega) (by omega) (fun h13 => ?_) (fun h13 => ?_) | refine r_lcmp_eq (tgt := 32) dX5_bitCount_13 dX5_bitCount_14 (by decide) (fun h13 => ?_) (fun h13 => ?_)
      · refine r_iinc (L0 := [(0, _)]) dX5_bitCount_32 rfl (by first | exact iincm1' _ | rfl) (by decide) rfl ?_
        refine r_goto (tgt := 5) dX5_bitCount_35 (by decide) ?_
        refine ih (by omega) ?_
        have e := div_dg 4294967296 v k
        rw [h13, Nat.div_eq_of_lt hk] at e
        exact Nat.lt_of_div_eq_zero (Nat.pow_pos (by decide)) e
      · have hbl := bl_le (v := dg 4294967296 v k) (n := 32) hd
        have hbt := bl_top hk h13
        refine r_bipush (v := nI 32) dX5_bitCount_17 (by decide) ?_
        refine r_iload_n dX5_bitCount_19 rfl ?_
        first | refine r_imulN dX5_bitCount_20 ?_ | refine r_imul dX5_bitCount_20 ?_
        refine r_bipush (v := nI 64) dX5_bitCount_21 (by decide) ?_
        first | refine r_iaddN dX5_bitCount_23 ?_ | refine r_iadd dX5_bitCount_23 ?_
        refine r_aload_n dX5_bitCount_24 rfl ?_
        refine r_iload_n dX5_bitCount_25 rfl ?_
        refine r_laload' dX5_bitCount_26 hw hJ _ rfl (by omega) (by omega) ?_
        refine r_invS dX5_bitCount_27 kX5_13 (c_nlzL (Nat.pos_of_ne_zero h13) hd) rfl rfl ⟨by decide, by decide⟩ (Nat.le_of_ble_eq_true rfl) ⟨by decide, by decide⟩ ⟨rfl, rfl⟩ ?_
        rintro _ _ _ ⟨rfl, rfl, rfl⟩
        first | refine r_isubN dX5_bitCount_30 (by omega) ?_ | refine r_isub dX5_bitCount_30 ?_
        refine r_ret (r := (some (.int _))) dX5_bitCount_31 (by decide) (by decide) ?_
        refine ⟨?_, rfl, rfl⟩
        rw [show 32 * k + 64 - (64 - bl (dg 4294967296 v k)) = bl v by omega]
  refine ab_Ct.of (by decide +kernel) (Nat.le_of_ble_eq_true rfl) (by rintro _ _ _ ⟨rfl, rfl, rfl⟩; trivial) ?_
  show ab_St MX5_bitCount g 0 0 0 [(0, .ref a)] [] _ _ _
  refine r_aload_n dX5_bitCount_0 rfl ?_
  refine r_alen' dX5_bitCount_1 hw hL ?_
  refine r_iconst (v := nI 1) dX5_bitCount_2 (by decide) ?_
  rw [show (nI 1 : Int32) = 1 by decide]
  refine r_isub dX5_bitCount_3 ?_
  refine r_istore_n (i := 1) (L0 := [(0, _)]) dX5_bitCount_4 rfl (by decide) rfl ?_
  exact K n (Nat.le_refl n) hv
set_option maxRecDepth 100000 in
set_option maxHeartbeats 4000000 in
theorem c_copy {g : ab_G} {N a b n m u v : Nat} {w : ab_W} (hab : a ≠ b) (ha : w a = aN n u) (hb : w b = aN m v) (hn : n ≤ 1000) (hm : m ≤ 1000) (hu : u < 4294967296 ^ n) (hv : v < 4294967296 ^ m) : ab_Ct MX5_copy g [.ref a, .ref b] N w (rt none N (wu w a (aN n (v % 4294967296 ^ n)))) := by
  have K : ∀ k i, i + k = n → ab_St MX5_copy g 0 0 2 [(2, .int (nI i)), (0, .ref a), (1, .ref b)] [] N (wu w a (aJ n (fl i (rJ (v % 4294967296 ^ n)) (rJ u)))) (rt none N (wu w a (aN n (v % 4294967296 ^ n)))) := by
    intro k
    induction k with
    | zero =>
      intro i hi
      refine r_iload_n dX5_copy_2 rfl ?_
      refine r_aload_n dX5_copy_3 rfl ?_
      refine r_alen' dX5_copy_4 (by repeat first | exact wu_eq | assumption | (apply wu_ne; first | omega | assumption | (apply Ne.symm; assumption))) (by rfl) ?_
      first | refine r_icmp_geN (tgt := 30) dX5_copy_5 (by decide) (by omega) (by omega) (fun h5 => ?_) (fun h5 => ?_) | refine r_icmp_ge (tgt := 30) dX5_copy_5 (by decide) (fun h5 => ?_) (fun h5 => ?_)
      · refine r_ret (r := none) dX5_copy_30 (by decide) (by decide) ?_
        refine ⟨rfl, rfl, ?_⟩
        rw [show i = n by omega, fl_end fun k hk => by unfold rJ; rw [dg_big hu hk (by decide), dg_big (v := v % 4294967296 ^ n) (Nat.mod_lt _ (Nat.pow_pos (by decide))) hk (by decide)]]
      · omega
    | succ k ih =>
      intro i hi
      refine r_iload_n dX5_copy_2 rfl ?_
      refine r_aload_n dX5_copy_3 rfl ?_
      refine r_alen' dX5_copy_4 (by repeat first | exact wu_eq | assumption | (apply wu_ne; first | omega | assumption | (apply Ne.symm; assumption))) (by rfl) ?_
      first | refine r_icmp_geN (tgt := 30) dX5_copy_5 (by decide) (by omega) (by omega) (fun h5 => ?_) (fun h5 => ?_) | refine r_icmp_ge (tgt := 30) dX5_copy_5 (by decide) (fun h5 => ?_) (fun h5 => ?_)
      · omega
      · refine r_aload_n dX5_copy_8 rfl ?_
        refine r_iload_n dX5_copy_9 rfl ?_
        refine r_iload_n dX5_copy_10 rfl ?_
        refine r_aload_n dX5_copy_11 rfl ?_
        refine r_alen' dX5_copy_12 (by repeat first | exact wu_eq | assumption | (apply wu_ne; first | omega | assumption | (apply Ne.symm; assumption))) (by rfl) ?_
        first | refine r_icmp_geN (tgt := 22) dX5_copy_13 (by decide) (by omega) (by omega) (fun h13 => ?_) (fun h13 => ?_) | refine r_icmp_ge (tgt := 22) dX5_copy_13 (by decide) (fun h13 => ?_) (fun h13 => ?_)
        · refine r_lconst (v := lN 0) dX5_copy_22 (by decide) ?_
          refine r_lastore dX5_copy_23 (by repeat first | exact wu_eq | assumption | (apply wu_ne; first | omega | assumption | (apply Ne.symm; assumption))) _ rfl (by omega) (by omega) ?_
          refine r_iinc (L0 := [(0, _), (1, _)]) dX5_copy_24 rfl (by first | exact iinc1 _ | rfl) (by decide) rfl ?_
          refine r_goto (tgt := 2) dX5_copy_27 (by decide) ?_
          rw [wu_wu, fl_up' (f := rJ (v % 4294967296 ^ n)) (show lN 0 = rJ (v % 4294967296 ^ n) i by unfold rJ; rw [dg_mod (by omega), dg_big hv h13 (by decide)])]
          exact ih (i + 1) (by omega)
        · refine r_aload_n dX5_copy_16 rfl ?_
          refine r_iload_n dX5_copy_17 rfl ?_
          refine r_laload' dX5_copy_18 (by repeat first | exact wu_eq | assumption | (apply wu_ne; first | omega | assumption | (apply Ne.symm; assumption))) (by rfl) _ rfl (by omega) (by omega) ?_
          refine r_goto (tgt := 23) dX5_copy_19 (by decide) ?_
          refine r_lastore dX5_copy_23 (by repeat first | exact wu_eq | assumption | (apply wu_ne; first | omega | assumption | (apply Ne.symm; assumption))) _ rfl (by omega) (by omega) ?_
          refine r_iinc (L0 := [(0, _), (1, _)]) dX5_copy_24 rfl (by first | exact iinc1 _ | rfl) (by decide) rfl ?_
          refine r_goto (tgt := 2) dX5_copy_27 (by decide) ?_
          rw [wu_wu, fl_up' (f := rJ (v % 4294967296 ^ n)) (show rJ v i = rJ (v % 4294967296 ^ n) i by unfold rJ; rw [dg_mod (by omega)])]
          exact ih (i + 1) (by omega)
  refine ab_Ct.of (by decide +kernel) (Nat.le_of_ble_eq_true rfl) (by rintro _ _ _ ⟨rfl, rfl, rfl⟩; trivial) ?_
  show ab_St MX5_copy g 0 0 0 [(0, .ref a), (1, .ref b)] [] _ _ _
  refine r_iconst (v := nI 0) dX5_copy_0 (by decide) ?_
  refine r_istore_n (i := 2) (L0 := [(0, _), (1, _)]) dX5_copy_1 rfl (by decide) rfl ?_
  have h := K n 0 (by omega)
  rw [fl_0, wu_self ha] at h
  exact h
set_option maxRecDepth 100000 in
set_option maxHeartbeats 4000000 in
theorem c_putSmall {g : ab_G} {N a n u v : Nat} {w : ab_W} (ha : w a = aN n u) (h0 : 0 < n) (hn : n ≤ 1000) (hu : u < 4294967296 ^ n) : ab_Ct MX5_putSmall g [.ref a, .long (lN v)] N w (rt none N (wu w a (aN n (v % 4294967296)))) := by
  have hv1 : v % 4294967296 < 4294967296 ^ 1 := Nat.mod_lt _ (by decide)
  have K : ∀ k i, i + k = n → ab_St MX5_putSmall g 0 0 2 [(3, .int (nI i)), (0, .ref a), (1, .long (lN v))] [] N (wu w a (aJ n (fl i (rJ (v % 4294967296)) (rJ u)))) (rt none N (wu w a (aN n (v % 4294967296)))) := by
    intro k
    induction k with
    | zero =>
      intro i hi
      refine r_iload_n dX5_putSmall_2 rfl ?_
      refine r_aload_n dX5_putSmall_3 rfl ?_
      refine r_alen' dX5_putSmall_4 (by repeat first | exact wu_eq | assumption | (apply wu_ne; first | omega | assumption | (apply Ne.symm; assumption))) (by rfl) ?_
      first | refine r_icmp_geN (tgt := 30) dX5_putSmall_5 (by decide) (by omega) (by omega) (fun h5 => ?_) (fun h5 => ?_) | refine r_icmp_ge (tgt := 30) dX5_putSmall_5 (by decide) (fun h5 => ?_) (fun h5 => ?_)
      · refine r_ret (r := none) dX5_putSmall_30 (by decide) (by decide) ?_
        refine ⟨rfl, rfl, ?_⟩
        rw [show i = n by omega, fl_end fun k hk => by unfold rJ; rw [dg_big hu hk (by decide), dg_big (n := 1) (v := v % 4294967296) hv1 (by omega) (by decide)]]
      · omega
    | succ k ih =>
      intro i hi
      refine r_iload_n dX5_putSmall_2 rfl ?_
      refine r_aload_n dX5_putSmall_3 rfl ?_
      refine r_alen' dX5_putSmall_4 (by repeat first | exact wu_eq | assumption | (apply wu_ne; first | omega | assumption | (apply Ne.symm; assumption))) (by rfl) ?_
      first | refine r_icmp_geN (tgt := 30) dX5_putSmall_5 (by decide) (by omega) (by omega) (fun h5 => ?_) (fun h5 => ?_) | refine r_icmp_ge (tgt := 30) dX5_putSmall_5 (by decide) (fun h5 => ?_) (fun h5 => ?_)
      · omega
      · refine r_aload_n dX5_putSmall_8 rfl ?_
        refine r_iload_n dX5_putSmall_9 rfl ?_
        refine r_iload_n dX5_putSmall_10 rfl ?_
        first | refine r_if_neN (tgt := 22) dX5_putSmall_11 (by decide) (by omega) (fun h11 => ?_) (fun h11 => ?_) | refine r_if_ne (tgt := 22) dX5_putSmall_11 (by decide) (fun h11 => ?_) (fun h11 => ?_)
        · refine r_lconst (v := lN 0) dX5_putSmall_22 (by decide) ?_
          refine r_lastore dX5_putSmall_23 (by repeat first | exact wu_eq | assumption | (apply wu_ne; first | omega | assumption | (apply Ne.symm; assumption))) _ rfl (by omega) (by omega) ?_
          refine r_iinc (L0 := [(0, _), (1, _)]) dX5_putSmall_24 rfl (by first | exact iinc1 _ | rfl) (by decide) rfl ?_
          refine r_goto (tgt := 2) dX5_putSmall_27 (by decide) ?_
          rw [wu_wu, fl_up' (f := rJ (v % 4294967296)) (show lN 0 = rJ (v % 4294967296) i by unfold rJ; rw [dg_big hv1 (by omega) (by decide)])]
          exact ih (i + 1) (by omega)
        · refine r_lload_n dX5_putSmall_14 rfl ?_
          refine r_ldc2 dX5_putSmall_15 qX5_19 ?_
          refine r_land32 dX5_putSmall_18 ?_
          refine r_goto (tgt := 23) dX5_putSmall_19 (by decide) ?_
          refine r_lastore dX5_putSmall_23 (by repeat first | exact wu_eq | assumption | (apply wu_ne; first | omega | assumption | (apply Ne.symm; assumption))) _ rfl (by omega) (by omega) ?_
          refine r_iinc (L0 := [(0, _), (1, _)]) dX5_putSmall_24 rfl (by first | exact iinc1 _ | rfl) (by decide) rfl ?_
          refine r_goto (tgt := 2) dX5_putSmall_27 (by decide) ?_
          subst h11
          rw [wu_wu, fl_up' (f := rJ (v % 4294967296)) (show lN (v % 4294967296) = rJ (v % 4294967296) 0 by unfold rJ; rw [dg_0, Nat.mod_mod])]
          exact ih 1 (by omega)
  refine ab_Ct.of (by decide +kernel) (Nat.le_of_ble_eq_true rfl) (by rintro _ _ _ ⟨rfl, rfl, rfl⟩; trivial) ?_
  show ab_St MX5_putSmall g 0 0 0 [(0, .ref a), (1, .long (lN v))] [] _ _ _
  refine r_iconst (v := nI 0) dX5_putSmall_0 (by decide) ?_
  refine r_istore_n (i := 3) (L0 := [(0, _), (1, _)]) dX5_putSmall_1 rfl (by decide) rfl ?_
  have h := K n 0 (by omega)
  rw [fl_0, wu_self ha] at h
  exact h
set_option maxRecDepth 100000 in
set_option maxHeartbeats 4000000 in
theorem c_isOne {g : ab_G} {N a n v : Nat} {w : ab_W} (hw : w a = aN n v) (hn : n ≤ 1000) (h0 : 0 < n) (hv : v < 4294967296 ^ n) : ab_Ct MX5_isOne g [.ref a] N w (rt (some (.int (if v = 1 then 1 else 0))) N w) := by
  have hb : bl v ≤ 32 * n := bl_le (by rw [Nat.pow_mul]; exact hv)
  refine ab_Ct.of (by decide +kernel) (Nat.le_of_ble_eq_true rfl) (by rintro _ _ _ ⟨rfl, rfl, rfl⟩; show _ ∨ _; by_cases h : v = 1 <;> simp [h]) ?_
  show ab_St MX5_isOne g 0 0 0 [(0, .ref a)] [] _ _ _
  refine r_aload_n dX5_isOne_0 rfl ?_
  refine r_invS dX5_isOne_1 kX5_21 (c_bitCount hw (Or.inl rfl) hn h0 hv) rfl rfl ⟨by decide, by decide⟩ (Nat.le_of_ble_eq_true rfl) ⟨by decide, by decide⟩ ⟨rfl, rfl⟩ ?_
  rintro _ _ _ ⟨rfl, rfl, rfl⟩
  refine r_iconst (v := nI 1) dX5_isOne_4 (by decide) ?_
  first | refine r_icmp_neN (tgt := 12) dX5_isOne_5 (by decide) (by omega) (by omega) (fun h5 => ?_) (fun h5 => ?_) | refine r_icmp_ne (tgt := 12) dX5_isOne_5 (by decide) (fun h5 => ?_) (fun h5 => ?_)
  · refine r_iconst (v := nI 0) dX5_isOne_12 (by decide) ?_
    refine r_ret (r := (some (.int _))) dX5_isOne_13 (by decide) (by decide) ?_
    rw [if_neg fun h => h5 ((bl_1 v).mpr h)]
    exact ⟨rfl, rfl, rfl⟩
  · refine r_iconst (v := nI 1) dX5_isOne_8 (by decide) ?_
    refine r_goto (tgt := 13) dX5_isOne_9 (by decide) ?_
    refine r_ret (r := (some (.int _))) dX5_isOne_13 (by decide) (by decide) ?_
    rw [if_pos ((bl_1 v).mp h5)]
    exact ⟨rfl, rfl, rfl⟩
end
