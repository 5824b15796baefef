section
-- ===== PART A: goes FIRST, ahead of the names: the tables' words, and 'selects' of the private methods out of them =====
/-- a private method of a class that the tables say can be made, by its rows of tables_1 -/
def lw_okq (q : MethodName × Nat) : Prop := (q.1.cls ≠ "java/lang/invoke/MethodHandle" ∧ q.1.cls ≠ "java/lang/invoke/VarHandle") ∧ Cond.instantiable q.1.cls q.2 ∈ tables_1 ∧ Cond.privateMethod q.1 ∈ tables_1 ∧ Cond.instanceMethod q.1 ∈ tables_1
theorem lw_p0 : lw_okq (⟨"KingdomAtDice$Page", "isFull", "()Z"⟩, 2) := ⟨⟨by decide +kernel, by decide +kernel⟩, List.mem_of_getElem? (i := 29) (by decide +kernel), List.mem_of_getElem? (i := 222) (by decide +kernel), List.mem_of_getElem? (i := 223) (by decide +kernel)⟩
theorem lw_p1 : lw_okq (⟨"KingdomAtDice$Page", "push", "(I)I"⟩, 2) := ⟨⟨by decide +kernel, by decide +kernel⟩, List.mem_of_getElem? (i := 29) (by decide +kernel), List.mem_of_getElem? (i := 226) (by decide +kernel), List.mem_of_getElem? (i := 227) (by decide +kernel)⟩
theorem lw_p2 : lw_okq (⟨"KingdomAtDice$Page", "clear", "()I"⟩, 2) := ⟨⟨by decide +kernel, by decide +kernel⟩, List.mem_of_getElem? (i := 29) (by decide +kernel), List.mem_of_getElem? (i := 235) (by decide +kernel), List.mem_of_getElem? (i := 236) (by decide +kernel)⟩
theorem lw_p3 : lw_okq (⟨"KingdomAtDice$Page", "faultPlace", "()I"⟩, 2) := ⟨⟨by decide +kernel, by decide +kernel⟩, List.mem_of_getElem? (i := 29) (by decide +kernel), List.mem_of_getElem? (i := 243) (by decide +kernel), List.mem_of_getElem? (i := 244) (by decide +kernel)⟩
theorem lw_p4 : lw_okq (⟨"KingdomAtDice$Page", "codeAt", "(I)I"⟩, 2) := ⟨⟨by decide +kernel, by decide +kernel⟩, List.mem_of_getElem? (i := 29) (by decide +kernel), List.mem_of_getElem? (i := 247) (by decide +kernel), List.mem_of_getElem? (i := 248) (by decide +kernel)⟩
theorem lw_p5 : lw_okq (⟨"KingdomAtDice$Page", "isHall", "()Z"⟩, 2) := ⟨⟨by decide +kernel, by decide +kernel⟩, List.mem_of_getElem? (i := 29) (by decide +kernel), List.mem_of_getElem? (i := 353) (by decide +kernel), List.mem_of_getElem? (i := 354) (by decide +kernel)⟩
theorem lw_p6 : lw_okq (⟨"KingdomAtDice$Standing", "begin", "(LKingdomAtDice$Page;)V"⟩, 6) := ⟨⟨by decide +kernel, by decide +kernel⟩, List.mem_of_getElem? (i := 127) (by decide +kernel), List.mem_of_getElem? (i := 358) (by decide +kernel), List.mem_of_getElem? (i := 359) (by decide +kernel)⟩
theorem lw_p7 : lw_okq (⟨"KingdomAtDice$Page", "hallThings", "()I"⟩, 2) := ⟨⟨by decide +kernel, by decide +kernel⟩, List.mem_of_getElem? (i := 29) (by decide +kernel), List.mem_of_getElem? (i := 362) (by decide +kernel), List.mem_of_getElem? (i := 363) (by decide +kernel)⟩
theorem lw_p8 : lw_okq (⟨"KingdomAtDice$Page", "hallSort", "(I)I"⟩, 2) := ⟨⟨by decide +kernel, by decide +kernel⟩, List.mem_of_getElem? (i := 29) (by decide +kernel), List.mem_of_getElem? (i := 367) (by decide +kernel), List.mem_of_getElem? (i := 368) (by decide +kernel)⟩
theorem lw_p9 : lw_okq (⟨"KingdomAtDice$Page", "hallWorth", "(I)I"⟩, 2) := ⟨⟨by decide +kernel, by decide +kernel⟩, List.mem_of_getElem? (i := 29) (by decide +kernel), List.mem_of_getElem? (i := 371) (by decide +kernel), List.mem_of_getElem? (i := 372) (by decide +kernel)⟩
theorem lw_p10 : lw_okq (⟨"KingdomAtDice$Thing", "begin", "(II)V"⟩, 6) := ⟨⟨by decide +kernel, by decide +kernel⟩, List.mem_of_getElem? (i := 134) (by decide +kernel), List.mem_of_getElem? (i := 375) (by decide +kernel), List.mem_of_getElem? (i := 376) (by decide +kernel)⟩
theorem lw_p11 : lw_okq (⟨"KingdomAtDice$Page", "kingKindCode", "()I"⟩, 2) := ⟨⟨by decide +kernel, by decide +kernel⟩, List.mem_of_getElem? (i := 29) (by decide +kernel), List.mem_of_getElem? (i := 379) (by decide +kernel), List.mem_of_getElem? (i := 380) (by decide +kernel)⟩
theorem lw_p12 : lw_okq (⟨"KingdomAtDice", "diceByLetter", "(I)LKingdomAtDice$Dice;"⟩, 10) := ⟨⟨by decide +kernel, by decide +kernel⟩, List.mem_of_getElem? (i := 21) (by decide +kernel), List.mem_of_getElem? (i := 383) (by decide +kernel), List.mem_of_getElem? (i := 384) (by decide +kernel)⟩
theorem lw_p13 : lw_okq (⟨"KingdomAtDice$Page", "cousinKindCode", "()I"⟩, 2) := ⟨⟨by decide +kernel, by decide +kernel⟩, List.mem_of_getElem? (i := 29) (by decide +kernel), List.mem_of_getElem? (i := 390) (by decide +kernel), List.mem_of_getElem? (i := 391) (by decide +kernel)⟩
theorem lw_p14 : lw_okq (⟨"KingdomAtDice$Odds", "reckon", "(LKingdomAtDice$Dice;LKingdomAtDice$Dice;)V"⟩, 2) := ⟨⟨by decide +kernel, by decide +kernel⟩, List.mem_of_getElem? (i := 103) (by decide +kernel), List.mem_of_getElem? (i := 394) (by decide +kernel), List.mem_of_getElem? (i := 395) (by decide +kernel)⟩
theorem lw_p15 : lw_okq (⟨"KingdomAtDice$Standing", "has", "(I)Z"⟩, 6) := ⟨⟨by decide +kernel, by decide +kernel⟩, List.mem_of_getElem? (i := 127) (by decide +kernel), List.mem_of_getElem? (i := 438) (by decide +kernel), List.mem_of_getElem? (i := 439) (by decide +kernel)⟩
def lw_privs_1 : List (MethodName × Nat) := [(⟨"KingdomAtDice$Page", "isFull", "()Z"⟩, 2), (⟨"KingdomAtDice$Page", "push", "(I)I"⟩, 2), (⟨"KingdomAtDice$Page", "clear", "()I"⟩, 2), (⟨"KingdomAtDice$Page", "faultPlace", "()I"⟩, 2), (⟨"KingdomAtDice$Page", "codeAt", "(I)I"⟩, 2), (⟨"KingdomAtDice$Page", "isHall", "()Z"⟩, 2), (⟨"KingdomAtDice$Standing", "begin", "(LKingdomAtDice$Page;)V"⟩, 6), (⟨"KingdomAtDice$Page", "hallThings", "()I"⟩, 2), (⟨"KingdomAtDice$Page", "hallSort", "(I)I"⟩, 2), (⟨"KingdomAtDice$Page", "hallWorth", "(I)I"⟩, 2), (⟨"KingdomAtDice$Thing", "begin", "(II)V"⟩, 6), (⟨"KingdomAtDice$Page", "kingKindCode", "()I"⟩, 2), (⟨"KingdomAtDice", "diceByLetter", "(I)LKingdomAtDice$Dice;"⟩, 10), (⟨"KingdomAtDice$Page", "cousinKindCode", "()I"⟩, 2), (⟨"KingdomAtDice$Odds", "reckon", "(LKingdomAtDice$Dice;LKingdomAtDice$Dice;)V"⟩, 2), (⟨"KingdomAtDice$Standing", "has", "(I)Z"⟩, 6)]
theorem lw_r1 : ∀ q ∈ lw_privs_1, lw_okq q := List.forall_mem_cons.mpr ⟨lw_p0, List.forall_mem_cons.mpr ⟨lw_p1, List.forall_mem_cons.mpr ⟨lw_p2, List.forall_mem_cons.mpr ⟨lw_p3, List.forall_mem_cons.mpr ⟨lw_p4, List.forall_mem_cons.mpr ⟨lw_p5, List.forall_mem_cons.mpr ⟨lw_p6, List.forall_mem_cons.mpr ⟨lw_p7, List.forall_mem_cons.mpr ⟨lw_p8, List.forall_mem_cons.mpr ⟨lw_p9, List.forall_mem_cons.mpr ⟨lw_p10, List.forall_mem_cons.mpr ⟨lw_p11, List.forall_mem_cons.mpr ⟨lw_p12, List.forall_mem_cons.mpr ⟨lw_p13, List.forall_mem_cons.mpr ⟨lw_p14, List.forall_mem_cons.mpr ⟨lw_p15, fun _ h => absurd h List.not_mem_nil⟩⟩⟩⟩⟩⟩⟩⟩⟩⟩⟩⟩⟩⟩⟩⟩
theorem lw_p16 : lw_okq (⟨"KingdomAtDice$Thing", "tell", "(I)I"⟩, 6) := ⟨⟨by decide +kernel, by decide +kernel⟩, List.mem_of_getElem? (i := 134) (by decide +kernel), List.mem_of_getElem? (i := 443) (by decide +kernel), List.mem_of_getElem? (i := 444) (by decide +kernel)⟩
theorem lw_p17 : lw_okq (⟨"KingdomAtDice", "hasDice", "(I)Z"⟩, 10) := ⟨⟨by decide +kernel, by decide +kernel⟩, List.mem_of_getElem? (i := 21) (by decide +kernel), List.mem_of_getElem? (i := 451) (by decide +kernel), List.mem_of_getElem? (i := 452) (by decide +kernel)⟩
theorem lw_p18 : lw_okq (⟨"KingdomAtDice$Standing", "hasHall", "()Z"⟩, 6) := ⟨⟨by decide +kernel, by decide +kernel⟩, List.mem_of_getElem? (i := 127) (by decide +kernel), List.mem_of_getElem? (i := 455) (by decide +kernel), List.mem_of_getElem? (i := 456) (by decide +kernel)⟩
theorem lw_p19 : lw_okq (⟨"KingdomAtDice", "diceOf", "(I)LKingdomAtDice$Dice;"⟩, 10) := ⟨⟨by decide +kernel, by decide +kernel⟩, List.mem_of_getElem? (i := 21) (by decide +kernel), List.mem_of_getElem? (i := 459) (by decide +kernel), List.mem_of_getElem? (i := 460) (by decide +kernel)⟩
theorem lw_p20 : lw_okq (⟨"KingdomAtDice$Standing", "mayStake", "(II)Z"⟩, 6) := ⟨⟨by decide +kernel, by decide +kernel⟩, List.mem_of_getElem? (i := 127) (by decide +kernel), List.mem_of_getElem? (i := 490) (by decide +kernel), List.mem_of_getElem? (i := 491) (by decide +kernel)⟩
theorem lw_p21 : lw_okq (⟨"KingdomAtDice$Standing", "settle", "(IIII)I"⟩, 6) := ⟨⟨by decide +kernel, by decide +kernel⟩, List.mem_of_getElem? (i := 127) (by decide +kernel), List.mem_of_getElem? (i := 495) (by decide +kernel), List.mem_of_getElem? (i := 496) (by decide +kernel)⟩
theorem lw_p22 : lw_okq (⟨"KingdomAtDice$Standing", "isSelfKings", "()Z"⟩, 6) := ⟨⟨by decide +kernel, by decide +kernel⟩, List.mem_of_getElem? (i := 127) (by decide +kernel), List.mem_of_getElem? (i := 500) (by decide +kernel), List.mem_of_getElem? (i := 501) (by decide +kernel)⟩
theorem lw_p23 : lw_okq (⟨"KingdomAtDice$Thing", "lose", "(IZ)V"⟩, 6) := ⟨⟨by decide +kernel, by decide +kernel⟩, List.mem_of_getElem? (i := 134) (by decide +kernel), List.mem_of_getElem? (i := 504) (by decide +kernel), List.mem_of_getElem? (i := 505) (by decide +kernel)⟩
theorem lw_p24 : lw_okq (⟨"KingdomAtDice$Thing", "comeBack", "()V"⟩, 6) := ⟨⟨by decide +kernel, by decide +kernel⟩, List.mem_of_getElem? (i := 134) (by decide +kernel), List.mem_of_getElem? (i := 508) (by decide +kernel), List.mem_of_getElem? (i := 509) (by decide +kernel)⟩
theorem lw_p25 : lw_okq (⟨"KingdomAtDice$Odds", "waysTo", "(I)I"⟩, 2) := ⟨⟨by decide +kernel, by decide +kernel⟩, List.mem_of_getElem? (i := 103) (by decide +kernel), List.mem_of_getElem? (i := 516) (by decide +kernel), List.mem_of_getElem? (i := 517) (by decide +kernel)⟩
theorem lw_p26 : lw_okq (⟨"KingdomAtDice$Standing", "stakesFor", "(I)I"⟩, 6) := ⟨⟨by decide +kernel, by decide +kernel⟩, List.mem_of_getElem? (i := 127) (by decide +kernel), List.mem_of_getElem? (i := 534) (by decide +kernel), List.mem_of_getElem? (i := 535) (by decide +kernel)⟩
theorem lw_p27 : lw_okq (⟨"KingdomAtDice$Standing", "kingsBy", "(I)I"⟩, 6) := ⟨⟨by decide +kernel, by decide +kernel⟩, List.mem_of_getElem? (i := 127) (by decide +kernel), List.mem_of_getElem? (i := 548) (by decide +kernel), List.mem_of_getElem? (i := 549) (by decide +kernel)⟩
theorem lw_p28 : lw_okq (⟨"KingdomAtDice$Thing", "isKingsBy", "(I)Z"⟩, 6) := ⟨⟨by decide +kernel, by decide +kernel⟩, List.mem_of_getElem? (i := 134) (by decide +kernel), List.mem_of_getElem? (i := 552) (by decide +kernel), List.mem_of_getElem? (i := 553) (by decide +kernel)⟩
theorem lw_p29 : lw_okq (⟨"KingdomAtDice$Thing", "isWronglyLost", "()Z"⟩, 6) := ⟨⟨by decide +kernel, by decide +kernel⟩, List.mem_of_getElem? (i := 134) (by decide +kernel), List.mem_of_getElem? (i := 556) (by decide +kernel), List.mem_of_getElem? (i := 557) (by decide +kernel)⟩
theorem lw_p30 : lw_okq (⟨"KingdomAtDice$Standing", "worthOf", "(I)I"⟩, 6) := ⟨⟨by decide +kernel, by decide +kernel⟩, List.mem_of_getElem? (i := 127) (by decide +kernel), List.mem_of_getElem? (i := 560) (by decide +kernel), List.mem_of_getElem? (i := 561) (by decide +kernel)⟩
theorem lw_p31 : lw_okq (⟨"KingdomAtDice$Standing", "addSeen", "(I)I"⟩, 6) := ⟨⟨by decide +kernel, by decide +kernel⟩, List.mem_of_getElem? (i := 127) (by decide +kernel), List.mem_of_getElem? (i := 568) (by decide +kernel), List.mem_of_getElem? (i := 569) (by decide +kernel)⟩
def lw_privs_2 : List (MethodName × Nat) := [(⟨"KingdomAtDice$Thing", "tell", "(I)I"⟩, 6), (⟨"KingdomAtDice", "hasDice", "(I)Z"⟩, 10), (⟨"KingdomAtDice$Standing", "hasHall", "()Z"⟩, 6), (⟨"KingdomAtDice", "diceOf", "(I)LKingdomAtDice$Dice;"⟩, 10), (⟨"KingdomAtDice$Standing", "mayStake", "(II)Z"⟩, 6), (⟨"KingdomAtDice$Standing", "settle", "(IIII)I"⟩, 6), (⟨"KingdomAtDice$Standing", "isSelfKings", "()Z"⟩, 6), (⟨"KingdomAtDice$Thing", "lose", "(IZ)V"⟩, 6), (⟨"KingdomAtDice$Thing", "comeBack", "()V"⟩, 6), (⟨"KingdomAtDice$Odds", "waysTo", "(I)I"⟩, 2), (⟨"KingdomAtDice$Standing", "stakesFor", "(I)I"⟩, 6), (⟨"KingdomAtDice$Standing", "kingsBy", "(I)I"⟩, 6), (⟨"KingdomAtDice$Thing", "isKingsBy", "(I)Z"⟩, 6), (⟨"KingdomAtDice$Thing", "isWronglyLost", "()Z"⟩, 6), (⟨"KingdomAtDice$Standing", "worthOf", "(I)I"⟩, 6), (⟨"KingdomAtDice$Standing", "addSeen", "(I)I"⟩, 6)]
theorem lw_r2 : ∀ q ∈ lw_privs_2, lw_okq q := List.forall_mem_cons.mpr ⟨lw_p16, List.forall_mem_cons.mpr ⟨lw_p17, List.forall_mem_cons.mpr ⟨lw_p18, List.forall_mem_cons.mpr ⟨lw_p19, List.forall_mem_cons.mpr ⟨lw_p20, List.forall_mem_cons.mpr ⟨lw_p21, List.forall_mem_cons.mpr ⟨lw_p22, List.forall_mem_cons.mpr ⟨lw_p23, List.forall_mem_cons.mpr ⟨lw_p24, List.forall_mem_cons.mpr ⟨lw_p25, List.forall_mem_cons.mpr ⟨lw_p26, List.forall_mem_cons.mpr ⟨lw_p27, List.forall_mem_cons.mpr ⟨lw_p28, List.forall_mem_cons.mpr ⟨lw_p29, List.forall_mem_cons.mpr ⟨lw_p30, List.forall_mem_cons.mpr ⟨lw_p31, fun _ h => absurd h List.not_mem_nil⟩⟩⟩⟩⟩⟩⟩⟩⟩⟩⟩⟩⟩⟩⟩⟩
theorem lw_p32 : lw_okq (⟨"KingdomAtDice$Standing", "clearSeen", "()I"⟩, 6) := ⟨⟨by decide +kernel, by decide +kernel⟩, List.mem_of_getElem? (i := 127) (by decide +kernel), List.mem_of_getElem? (i := 576) (by decide +kernel), List.mem_of_getElem? (i := 577) (by decide +kernel)⟩
theorem lw_p33 : lw_okq (⟨"KingdomAtDice$Standing", "waysSeenBy", "(LKingdomAtDice$Dice;)J"⟩, 6) := ⟨⟨by decide +kernel, by decide +kernel⟩, List.mem_of_getElem? (i := 127) (by decide +kernel), List.mem_of_getElem? (i := 584) (by decide +kernel), List.mem_of_getElem? (i := 585) (by decide +kernel)⟩
theorem lw_p34 : lw_okq (⟨"KingdomAtDice$Draws", "begin", "(I)V"⟩, 1) := ⟨⟨by decide +kernel, by decide +kernel⟩, List.mem_of_getElem? (i := 117) (by decide +kernel), List.mem_of_getElem? (i := 598) (by decide +kernel), List.mem_of_getElem? (i := 599) (by decide +kernel)⟩
theorem lw_p35 : lw_okq (⟨"KingdomAtDice$Draws", "next", "(I)I"⟩, 1) := ⟨⟨by decide +kernel, by decide +kernel⟩, List.mem_of_getElem? (i := 117) (by decide +kernel), List.mem_of_getElem? (i := 615) (by decide +kernel), List.mem_of_getElem? (i := 616) (by decide +kernel)⟩
theorem lw_p36 : lw_okq (⟨"KingdomAtDice$Draws", "seedNow", "()I"⟩, 1) := ⟨⟨by decide +kernel, by decide +kernel⟩, List.mem_of_getElem? (i := 117) (by decide +kernel), List.mem_of_getElem? (i := 631) (by decide +kernel), List.mem_of_getElem? (i := 632) (by decide +kernel)⟩
theorem lw_p37 : lw_okq (⟨"KingdomAtDice$Standing", "copy", "(LKingdomAtDice$Standing;)V"⟩, 6) := ⟨⟨by decide +kernel, by decide +kernel⟩, List.mem_of_getElem? (i := 127) (by decide +kernel), List.mem_of_getElem? (i := 639) (by decide +kernel), List.mem_of_getElem? (i := 640) (by decide +kernel)⟩
theorem lw_p38 : lw_okq (⟨"KingdomAtDice$Thing", "copy", "(LKingdomAtDice$Thing;)V"⟩, 6) := ⟨⟨by decide +kernel, by decide +kernel⟩, List.mem_of_getElem? (i := 134) (by decide +kernel), List.mem_of_getElem? (i := 643) (by decide +kernel), List.mem_of_getElem? (i := 644) (by decide +kernel)⟩
theorem lw_p39 : lw_okq (⟨"KingdomAtDice$Standing", "wrongMany", "()I"⟩, 6) := ⟨⟨by decide +kernel, by decide +kernel⟩, List.mem_of_getElem? (i := 127) (by decide +kernel), List.mem_of_getElem? (i := 655) (by decide +kernel), List.mem_of_getElem? (i := 656) (by decide +kernel)⟩
theorem lw_p40 : lw_okq (⟨"KingdomAtDice", "digestThing", "(JI)J"⟩, 10) := ⟨⟨by decide +kernel, by decide +kernel⟩, List.mem_of_getElem? (i := 21) (by decide +kernel), List.mem_of_getElem? (i := 665) (by decide +kernel), List.mem_of_getElem? (i := 666) (by decide +kernel)⟩
theorem lw_p41 : lw_okq (⟨"KingdomAtDice", "digestHall", "(J)J"⟩, 10) := ⟨⟨by decide +kernel, by decide +kernel⟩, List.mem_of_getElem? (i := 21) (by decide +kernel), List.mem_of_getElem? (i := 675) (by decide +kernel), List.mem_of_getElem? (i := 676) (by decide +kernel)⟩
theorem lw_p42 : lw_okq (⟨"KingdomAtDiceModel", "faultOf", "()I"⟩, 28) := ⟨⟨by decide +kernel, by decide +kernel⟩, List.mem_of_getElem? (i := 686) (by decide +kernel), List.mem_of_getElem? (i := 800) (by decide +kernel), List.mem_of_getElem? (i := 801) (by decide +kernel)⟩
theorem lw_p43 : lw_okq (⟨"KingdomAtDiceModel", "go", "(I)Z"⟩, 28) := ⟨⟨by decide +kernel, by decide +kernel⟩, List.mem_of_getElem? (i := 686) (by decide +kernel), List.mem_of_getElem? (i := 804) (by decide +kernel), List.mem_of_getElem? (i := 805) (by decide +kernel)⟩
theorem lw_p44 : lw_okq (⟨"KingdomAtDiceModel", "isThing", "(I)Z"⟩, 28) := ⟨⟨by decide +kernel, by decide +kernel⟩, List.mem_of_getElem? (i := 686) (by decide +kernel), List.mem_of_getElem? (i := 827) (by decide +kernel), List.mem_of_getElem? (i := 828) (by decide +kernel)⟩
theorem lw_p45 : lw_okq (⟨"KingdomAtDiceModel", "isOne", "(I)Z"⟩, 28) := ⟨⟨by decide +kernel, by decide +kernel⟩, List.mem_of_getElem? (i := 686) (by decide +kernel), List.mem_of_getElem? (i := 836) (by decide +kernel), List.mem_of_getElem? (i := 837) (by decide +kernel)⟩
theorem lw_p46 : lw_okq (⟨"KingdomAtDiceModel", "lacks", "()Z"⟩, 28) := ⟨⟨by decide +kernel, by decide +kernel⟩, List.mem_of_getElem? (i := 686) (by decide +kernel), List.mem_of_getElem? (i := 840) (by decide +kernel), List.mem_of_getElem? (i := 841) (by decide +kernel)⟩
theorem lw_p47 : lw_okq (⟨"KingdomAtDiceModel", "tellDice", "(II)I"⟩, 28) := ⟨⟨by decide +kernel, by decide +kernel⟩, List.mem_of_getElem? (i := 686) (by decide +kernel), List.mem_of_getElem? (i := 844) (by decide +kernel), List.mem_of_getElem? (i := 845) (by decide +kernel)⟩
def lw_privs_3 : List (MethodName × Nat) := [(⟨"KingdomAtDice$Standing", "clearSeen", "()I"⟩, 6), (⟨"KingdomAtDice$Standing", "waysSeenBy", "(LKingdomAtDice$Dice;)J"⟩, 6), (⟨"KingdomAtDice$Draws", "begin", "(I)V"⟩, 1), (⟨"KingdomAtDice$Draws", "next", "(I)I"⟩, 1), (⟨"KingdomAtDice$Draws", "seedNow", "()I"⟩, 1), (⟨"KingdomAtDice$Standing", "copy", "(LKingdomAtDice$Standing;)V"⟩, 6), (⟨"KingdomAtDice$Thing", "copy", "(LKingdomAtDice$Thing;)V"⟩, 6), (⟨"KingdomAtDice$Standing", "wrongMany", "()I"⟩, 6), (⟨"KingdomAtDice", "digestThing", "(JI)J"⟩, 10), (⟨"KingdomAtDice", "digestHall", "(J)J"⟩, 10), (⟨"KingdomAtDiceModel", "faultOf", "()I"⟩, 28), (⟨"KingdomAtDiceModel", "go", "(I)Z"⟩, 28), (⟨"KingdomAtDiceModel", "isThing", "(I)Z"⟩, 28), (⟨"KingdomAtDiceModel", "isOne", "(I)Z"⟩, 28), (⟨"KingdomAtDiceModel", "lacks", "()Z"⟩, 28), (⟨"KingdomAtDiceModel", "tellDice", "(II)I"⟩, 28)]
theorem lw_r3 : ∀ q ∈ lw_privs_3, lw_okq q := List.forall_mem_cons.mpr ⟨lw_p32, List.forall_mem_cons.mpr ⟨lw_p33, List.forall_mem_cons.mpr ⟨lw_p34, List.forall_mem_cons.mpr ⟨lw_p35, List.forall_mem_cons.mpr ⟨lw_p36, List.forall_mem_cons.mpr ⟨lw_p37, List.forall_mem_cons.mpr ⟨lw_p38, List.forall_mem_cons.mpr ⟨lw_p39, List.forall_mem_cons.mpr ⟨lw_p40, List.forall_mem_cons.mpr ⟨lw_p41, List.forall_mem_cons.mpr ⟨lw_p42, List.forall_mem_cons.mpr ⟨lw_p43, List.forall_mem_cons.mpr ⟨lw_p44, List.forall_mem_cons.mpr ⟨lw_p45, List.forall_mem_cons.mpr ⟨lw_p46, List.forall_mem_cons.mpr ⟨lw_p47, fun _ h => absurd h List.not_mem_nil⟩⟩⟩⟩⟩⟩⟩⟩⟩⟩⟩⟩⟩⟩⟩⟩
theorem lw_p48 : lw_okq (⟨"KingdomAtDiceModel", "allWays", "(I)I"⟩, 28) := ⟨⟨by decide +kernel, by decide +kernel⟩, List.mem_of_getElem? (i := 686) (by decide +kernel), List.mem_of_getElem? (i := 848) (by decide +kernel), List.mem_of_getElem? (i := 849) (by decide +kernel)⟩
theorem lw_p49 : lw_okq (⟨"KingdomAtDiceModel", "waysOf", "(II)I"⟩, 28) := ⟨⟨by decide +kernel, by decide +kernel⟩, List.mem_of_getElem? (i := 686) (by decide +kernel), List.mem_of_getElem? (i := 852) (by decide +kernel), List.mem_of_getElem? (i := 853) (by decide +kernel)⟩
theorem lw_p50 : lw_okq (⟨"KingdomAtDiceModel", "isKings", "(I)Z"⟩, 28) := ⟨⟨by decide +kernel, by decide +kernel⟩, List.mem_of_getElem? (i := 686) (by decide +kernel), List.mem_of_getElem? (i := 871) (by decide +kernel), List.mem_of_getElem? (i := 872) (by decide +kernel)⟩
theorem lw_p51 : lw_okq (⟨"KingdomAtDiceModel", "loses", "(I)V"⟩, 28) := ⟨⟨by decide +kernel, by decide +kernel⟩, List.mem_of_getElem? (i := 686) (by decide +kernel), List.mem_of_getElem? (i := 875) (by decide +kernel), List.mem_of_getElem? (i := 876) (by decide +kernel)⟩
theorem lw_p52 : lw_okq (⟨"KingdomAtDiceModel", "isRightNow", "()Z"⟩, 28) := ⟨⟨by decide +kernel, by decide +kernel⟩, List.mem_of_getElem? (i := 686) (by decide +kernel), List.mem_of_getElem? (i := 879) (by decide +kernel), List.mem_of_getElem? (i := 880) (by decide +kernel)⟩
theorem lw_p53 : lw_okq (⟨"KingdomAtDiceModel", "goesOver", "(II)V"⟩, 28) := ⟨⟨by decide +kernel, by decide +kernel⟩, List.mem_of_getElem? (i := 686) (by decide +kernel), List.mem_of_getElem? (i := 883) (by decide +kernel), List.mem_of_getElem? (i := 884) (by decide +kernel)⟩
theorem lw_p54 : lw_okq (⟨"KingdomAtDiceModel", "oddsOf", "(I)I"⟩, 28) := ⟨⟨by decide +kernel, by decide +kernel⟩, List.mem_of_getElem? (i := 686) (by decide +kernel), List.mem_of_getElem? (i := 891) (by decide +kernel), List.mem_of_getElem? (i := 892) (by decide +kernel)⟩
theorem lw_p55 : lw_okq (⟨"KingdomAtDiceModel", "waysBy", "(I)J"⟩, 28) := ⟨⟨by decide +kernel, by decide +kernel⟩, List.mem_of_getElem? (i := 686) (by decide +kernel), List.mem_of_getElem? (i := 895) (by decide +kernel), List.mem_of_getElem? (i := 896) (by decide +kernel)⟩
theorem lw_p56 : lw_okq (⟨"KingdomAtDiceModel", "waysOfBoth", "()J"⟩, 28) := ⟨⟨by decide +kernel, by decide +kernel⟩, List.mem_of_getElem? (i := 686) (by decide +kernel), List.mem_of_getElem? (i := 899) (by decide +kernel), List.mem_of_getElem? (i := 900) (by decide +kernel)⟩
theorem lw_p57 : lw_okq (⟨"KingdomAtDiceModel", "backOf", "(III)J"⟩, 28) := ⟨⟨by decide +kernel, by decide +kernel⟩, List.mem_of_getElem? (i := 686) (by decide +kernel), List.mem_of_getElem? (i := 913) (by decide +kernel), List.mem_of_getElem? (i := 914) (by decide +kernel)⟩
theorem lw_p58 : lw_okq (⟨"KingdomAtDiceModel", "lawOf", "(II)I"⟩, 28) := ⟨⟨by decide +kernel, by decide +kernel⟩, List.mem_of_getElem? (i := 686) (by decide +kernel), List.mem_of_getElem? (i := 922) (by decide +kernel), List.mem_of_getElem? (i := 923) (by decide +kernel)⟩
theorem lw_p59 : lw_okq (⟨"KingdomAtDiceModel", "isByLaw", "(II)Z"⟩, 28) := ⟨⟨by decide +kernel, by decide +kernel⟩, List.mem_of_getElem? (i := 686) (by decide +kernel), List.mem_of_getElem? (i := 926) (by decide +kernel), List.mem_of_getElem? (i := 927) (by decide +kernel)⟩
theorem lw_p60 : lw_okq (⟨"KingdomAtDiceModel", "whichOf", "()I"⟩, 28) := ⟨⟨by decide +kernel, by decide +kernel⟩, List.mem_of_getElem? (i := 686) (by decide +kernel), List.mem_of_getElem? (i := 942) (by decide +kernel), List.mem_of_getElem? (i := 943) (by decide +kernel)⟩
theorem lw_p61 : lw_okq (⟨"KingdomAtDiceModel", "productOf", "(I)J"⟩, 28) := ⟨⟨by decide +kernel, by decide +kernel⟩, List.mem_of_getElem? (i := 686) (by decide +kernel), List.mem_of_getElem? (i := 946) (by decide +kernel), List.mem_of_getElem? (i := 947) (by decide +kernel)⟩
theorem lw_p62 : lw_okq (⟨"KingdomAtDiceModel", "likelyOf", "()I"⟩, 28) := ⟨⟨by decide +kernel, by decide +kernel⟩, List.mem_of_getElem? (i := 686) (by decide +kernel), List.mem_of_getElem? (i := 954) (by decide +kernel), List.mem_of_getElem? (i := 955) (by decide +kernel)⟩
theorem lw_p63 : lw_okq (⟨"KingdomAtDiceModel", "allOf", "(I)J"⟩, 28) := ⟨⟨by decide +kernel, by decide +kernel⟩, List.mem_of_getElem? (i := 686) (by decide +kernel), List.mem_of_getElem? (i := 958) (by decide +kernel), List.mem_of_getElem? (i := 959) (by decide +kernel)⟩
def lw_privs_4 : List (MethodName × Nat) := [(⟨"KingdomAtDiceModel", "allWays", "(I)I"⟩, 28), (⟨"KingdomAtDiceModel", "waysOf", "(II)I"⟩, 28), (⟨"KingdomAtDiceModel", "isKings", "(I)Z"⟩, 28), (⟨"KingdomAtDiceModel", "loses", "(I)V"⟩, 28), (⟨"KingdomAtDiceModel", "isRightNow", "()Z"⟩, 28), (⟨"KingdomAtDiceModel", "goesOver", "(II)V"⟩, 28), (⟨"KingdomAtDiceModel", "oddsOf", "(I)I"⟩, 28), (⟨"KingdomAtDiceModel", "waysBy", "(I)J"⟩, 28), (⟨"KingdomAtDiceModel", "waysOfBoth", "()J"⟩, 28), (⟨"KingdomAtDiceModel", "backOf", "(III)J"⟩, 28), (⟨"KingdomAtDiceModel", "lawOf", "(II)I"⟩, 28), (⟨"KingdomAtDiceModel", "isByLaw", "(II)Z"⟩, 28), (⟨"KingdomAtDiceModel", "whichOf", "()I"⟩, 28), (⟨"KingdomAtDiceModel", "productOf", "(I)J"⟩, 28), (⟨"KingdomAtDiceModel", "likelyOf", "()I"⟩, 28), (⟨"KingdomAtDiceModel", "allOf", "(I)J"⟩, 28)]
theorem lw_r4 : ∀ q ∈ lw_privs_4, lw_okq q := List.forall_mem_cons.mpr ⟨lw_p48, List.forall_mem_cons.mpr ⟨lw_p49, List.forall_mem_cons.mpr ⟨lw_p50, List.forall_mem_cons.mpr ⟨lw_p51, List.forall_mem_cons.mpr ⟨lw_p52, List.forall_mem_cons.mpr ⟨lw_p53, List.forall_mem_cons.mpr ⟨lw_p54, List.forall_mem_cons.mpr ⟨lw_p55, List.forall_mem_cons.mpr ⟨lw_p56, List.forall_mem_cons.mpr ⟨lw_p57, List.forall_mem_cons.mpr ⟨lw_p58, List.forall_mem_cons.mpr ⟨lw_p59, List.forall_mem_cons.mpr ⟨lw_p60, List.forall_mem_cons.mpr ⟨lw_p61, List.forall_mem_cons.mpr ⟨lw_p62, List.forall_mem_cons.mpr ⟨lw_p63, fun _ h => absurd h List.not_mem_nil⟩⟩⟩⟩⟩⟩⟩⟩⟩⟩⟩⟩⟩⟩⟩⟩
theorem lw_p64 : lw_okq (⟨"KingdomAtDiceModel", "kingsMany", "()I"⟩, 28) := ⟨⟨by decide +kernel, by decide +kernel⟩, List.mem_of_getElem? (i := 686) (by decide +kernel), List.mem_of_getElem? (i := 967) (by decide +kernel), List.mem_of_getElem? (i := 968) (by decide +kernel)⟩
theorem lw_p65 : lw_okq (⟨"KingdomAtDiceModel", "leastKings", "()I"⟩, 28) := ⟨⟨by decide +kernel, by decide +kernel⟩, List.mem_of_getElem? (i := 686) (by decide +kernel), List.mem_of_getElem? (i := 971) (by decide +kernel), List.mem_of_getElem? (i := 972) (by decide +kernel)⟩
theorem lw_p66 : lw_okq (⟨"KingdomAtDiceModel", "falls", "(I)I"⟩, 28) := ⟨⟨by decide +kernel, by decide +kernel⟩, List.mem_of_getElem? (i := 686) (by decide +kernel), List.mem_of_getElem? (i := 975) (by decide +kernel), List.mem_of_getElem? (i := 976) (by decide +kernel)⟩
theorem lw_p67 : lw_okq (⟨"KingdomAtDiceModel", "draw", "(I)I"⟩, 28) := ⟨⟨by decide +kernel, by decide +kernel⟩, List.mem_of_getElem? (i := 686) (by decide +kernel), List.mem_of_getElem? (i := 979) (by decide +kernel), List.mem_of_getElem? (i := 980) (by decide +kernel)⟩
theorem lw_p68 : lw_okq (⟨"KingdomAtDiceModel", "countOf", "(I)I"⟩, 28) := ⟨⟨by decide +kernel, by decide +kernel⟩, List.mem_of_getElem? (i := 686) (by decide +kernel), List.mem_of_getElem? (i := 999) (by decide +kernel), List.mem_of_getElem? (i := 1000) (by decide +kernel)⟩
theorem lw_p69 : lw_okq (⟨"KingdomAtDiceModel", "wrongMany", "()I"⟩, 28) := ⟨⟨by decide +kernel, by decide +kernel⟩, List.mem_of_getElem? (i := 686) (by decide +kernel), List.mem_of_getElem? (i := 1003) (by decide +kernel), List.mem_of_getElem? (i := 1004) (by decide +kernel)⟩
theorem lw_p70 : lw_okq (⟨"KingdomAtDiceModel", "say", "(J)V"⟩, 28) := ⟨⟨by decide +kernel, by decide +kernel⟩, List.mem_of_getElem? (i := 686) (by decide +kernel), List.mem_of_getElem? (i := 1012) (by decide +kernel), List.mem_of_getElem? (i := 1013) (by decide +kernel)⟩
theorem lw_p71 : lw_okq (⟨"KingdomAtDiceModel", "sayHall", "()V"⟩, 28) := ⟨⟨by decide +kernel, by decide +kernel⟩, List.mem_of_getElem? (i := 686) (by decide +kernel), List.mem_of_getElem? (i := 1017) (by decide +kernel), List.mem_of_getElem? (i := 1018) (by decide +kernel)⟩
def lw_privs_5 : List (MethodName × Nat) := [(⟨"KingdomAtDiceModel", "kingsMany", "()I"⟩, 28), (⟨"KingdomAtDiceModel", "leastKings", "()I"⟩, 28), (⟨"KingdomAtDiceModel", "falls", "(I)I"⟩, 28), (⟨"KingdomAtDiceModel", "draw", "(I)I"⟩, 28), (⟨"KingdomAtDiceModel", "countOf", "(I)I"⟩, 28), (⟨"KingdomAtDiceModel", "wrongMany", "()I"⟩, 28), (⟨"KingdomAtDiceModel", "say", "(J)V"⟩, 28), (⟨"KingdomAtDiceModel", "sayHall", "()V"⟩, 28)]
theorem lw_r5 : ∀ q ∈ lw_privs_5, lw_okq q := List.forall_mem_cons.mpr ⟨lw_p64, List.forall_mem_cons.mpr ⟨lw_p65, List.forall_mem_cons.mpr ⟨lw_p66, List.forall_mem_cons.mpr ⟨lw_p67, List.forall_mem_cons.mpr ⟨lw_p68, List.forall_mem_cons.mpr ⟨lw_p69, List.forall_mem_cons.mpr ⟨lw_p70, List.forall_mem_cons.mpr ⟨lw_p71, fun _ h => absurd h List.not_mem_nil⟩⟩⟩⟩⟩⟩⟩⟩
def lw_privs : List (MethodName × Nat) := lw_privs_1 ++ (lw_privs_2 ++ (lw_privs_3 ++ (lw_privs_4 ++ (lw_privs_5))))
def lw_tbl : List Cond := k2_sels lw_privs ++ tables_1
theorem lw_privs_ok : ∀ q ∈ lw_privs, lw_okq q := by
  show ∀ q ∈ lw_privs_1 ++ (lw_privs_2 ++ (lw_privs_3 ++ (lw_privs_4 ++ (lw_privs_5)))), lw_okq q
  exact List.forall_mem_append.mpr ⟨lw_r1, List.forall_mem_append.mpr ⟨lw_r2, List.forall_mem_append.mpr ⟨lw_r3, List.forall_mem_append.mpr ⟨lw_r4, lw_r5⟩⟩⟩⟩
end
section
/-! ===== BEGIN words of one list among another's, by their places ===== -/
theorem goodIn_r {big : List Cond} (ws : List Cond) (ps : List Nat) (hp : ws = ps.filterMap (fun i => big[i]?)) (h : ws.all goodWord = true) : GoodIn big ws := by
  intro w hw
  have h1 := List.all_eq_true.mp h w hw
  rw [hp] at hw
  obtain ⟨i, -, hi⟩ := List.mem_filterMap.mp hw
  have hm : w ∈ big := by first | exact List.mem_of_getElem? hi | exact List.getElem?_mem hi
  exact ⟨hm, good_of_word h1⟩
theorem goodIn_app {big a b : List Cond} (ha : GoodIn big a) (hb : GoodIn big b) : GoodIn big (a ++ b) := fun w h => (List.mem_append.mp h).elim (ha w) (hb w)
theorem goodIn_ca {big a b : List Cond} {c : Cond} (ha : GoodIn big (c :: a)) (hb : GoodIn big b) : GoodIn big (c :: (a ++ b)) := fun w h => (List.mem_cons.mp h).elim (fun e => ha w (List.mem_cons.mpr (Or.inl e))) (fun h => (List.mem_append.mp h).elim (fun h => ha w (List.mem_cons.mpr (Or.inr h))) (hb w))
theorem goodIn_sub {big ws : List Cond} (hm : ∀ w ∈ ws, w ∈ big) (h : ws.all goodWord = true) : GoodIn big ws := fun w hw => ⟨hm w hw, good_of_word (List.all_eq_true.mp h w hw)⟩
/-! ===== END ===== -/

/-! ===== BEGIN printed: names, fields, word lists, decode rows ===== -/
def RX0 : String := "KingdomAtDice$Bone"
def TX0 : u_T := fun k => match k with
  | 0 => ("KingdomAtDice$Dice", "kind", "I", true)
  | 1 => ("KingdomAtDice$Dice", "least", "I", true)
  | _ => ("KingdomAtDice$Dice", "greatest", "I", true)
def tyX0 : Nat → FieldType := fun k => match k with
  | 0 => .int
  | 1 => .int
  | _ => .int
abbrev wsX00 : List Cond := u_ws RX0 TX0 3
theorem nmX0 : ∀ a, a < 3 → ∀ b, b < 3 → a ≠ b → (TX0 a).2.1 ≠ (TX0 b).2.1 := by decide +kernel
theorem tyX0_ok : ∀ k, k < 3 → parseFieldDescriptor (TX0 k).2.2.1 = some (tyX0 k) := by decide +kernel
abbrev cX0_init : ByteArray := prog_2_method_1_code
def yX0_init : MethodName := ⟨RX0, "<init>", "()V"⟩
def RX1 : String := "KingdomAtDice$Dice"
def TX1 : u_T := fun k => match k with
  | 0 => ("KingdomAtDice$Dice", "kind", "I", true)
  | 1 => ("KingdomAtDice$Dice", "least", "I", true)
  | _ => ("KingdomAtDice$Dice", "greatest", "I", true)
def tyX1 : Nat → FieldType := fun k => match k with
  | 0 => .int
  | 1 => .int
  | _ => .int
abbrev wsX10 : List Cond := u_ws RX1 TX1 3
theorem nmX1 : ∀ a, a < 3 → ∀ b, b < 3 → a ≠ b → (TX1 a).2.1 ≠ (TX1 b).2.1 := by decide +kernel
theorem tyX1_ok : ∀ k, k < 3 → parseFieldDescriptor (TX1 k).2.2.1 = some (tyX1 k) := by decide +kernel
abbrev cX1_init : ByteArray := prog_3_method_1_code
def yX1_init : MethodName := ⟨RX1, "<init>", "(III)V"⟩
abbrev cX1_tell : ByteArray := prog_3_method_2_code
def yX1_tell : MethodName := ⟨RX1, "tell", "(I)I"⟩
abbrev cX1_faces : ByteArray := prog_3_method_3_code
def yX1_faces : MethodName := ⟨RX1, "faces", "()I"⟩
abbrev cX1_wayMany : ByteArray := prog_3_method_4_code
def yX1_wayMany : MethodName := ⟨RX1, "wayMany", "()I"⟩
abbrev cX1_waysOf : ByteArray := prog_3_method_5_code
def yX1_waysOf : MethodName := ⟨RX1, "waysOf", "(I)I"⟩
abbrev cX1_fall : ByteArray := prog_3_method_6_code
def yX1_fall : MethodName := ⟨RX1, "fall", "(LKingdomAtDice$Draws;)I"⟩
def RX2 : String := "KingdomAtDice$Draws"
def TX2 : u_T := fun k => match k with
  | _ => ("KingdomAtDice$Draws", "seed", "J", false)
def tyX2 : Nat → FieldType := fun k => match k with
  | _ => .long
abbrev wsX20 : List Cond := u_ws RX2 TX2 1
theorem nmX2 : ∀ a, a < 1 → ∀ b, b < 1 → a ≠ b → (TX2 a).2.1 ≠ (TX2 b).2.1 := by decide +kernel
theorem tyX2_ok : ∀ k, k < 1 → parseFieldDescriptor (TX2 k).2.2.1 = some (tyX2 k) := by decide +kernel
abbrev cX2_init : ByteArray := prog_4_method_1_code
def yX2_init : MethodName := ⟨RX2, "<init>", "()V"⟩
abbrev cX2_begin : ByteArray := prog_4_method_2_code
def yX2_begin : MethodName := ⟨RX2, "begin", "(I)V"⟩
abbrev cX2_next : ByteArray := prog_4_method_3_code
def yX2_next : MethodName := ⟨RX2, "next", "(I)I"⟩
abbrev cX2_seedNow : ByteArray := prog_4_method_4_code
def yX2_seedNow : MethodName := ⟨RX2, "seedNow", "()I"⟩
def RX3 : String := "KingdomAtDice$Heavy"
def TX3 : u_T := fun k => match k with
  | 0 => ("KingdomAtDice$Dice", "kind", "I", true)
  | 1 => ("KingdomAtDice$Dice", "least", "I", true)
  | _ => ("KingdomAtDice$Dice", "greatest", "I", true)
def tyX3 : Nat → FieldType := fun k => match k with
  | 0 => .int
  | 1 => .int
  | _ => .int
abbrev wsX30 : List Cond := u_ws RX3 TX3 3
theorem nmX3 : ∀ a, a < 3 → ∀ b, b < 3 → a ≠ b → (TX3 a).2.1 ≠ (TX3 b).2.1 := by decide +kernel
theorem tyX3_ok : ∀ k, k < 3 → parseFieldDescriptor (TX3 k).2.2.1 = some (tyX3 k) := by decide +kernel
abbrev cX3_init : ByteArray := prog_5_method_1_code
def yX3_init : MethodName := ⟨RX3, "<init>", "(II)V"⟩
def RX4 : String := "KingdomAtDice$Light"
def TX4 : u_T := fun k => match k with
  | 0 => ("KingdomAtDice$Dice", "kind", "I", true)
  | 1 => ("KingdomAtDice$Dice", "least", "I", true)
  | _ => ("KingdomAtDice$Dice", "greatest", "I", true)
def tyX4 : Nat → FieldType := fun k => match k with
  | 0 => .int
  | 1 => .int
  | _ => .int
abbrev wsX40 : List Cond := u_ws RX4 TX4 3
theorem nmX4 : ∀ a, a < 3 → ∀ b, b < 3 → a ≠ b → (TX4 a).2.1 ≠ (TX4 b).2.1 := by decide +kernel
theorem tyX4_ok : ∀ k, k < 3 → parseFieldDescriptor (TX4 k).2.2.1 = some (tyX4 k) := by decide +kernel
abbrev cX4_init : ByteArray := prog_6_method_1_code
def yX4_init : MethodName := ⟨RX4, "<init>", "()V"⟩
def RX5 : String := "KingdomAtDice$Odds"
def TX5 : u_T := fun k => match k with
  | 0 => ("KingdomAtDice$Odds", "ways", "[I", true)
  | _ => ("KingdomAtDice$Odds", "total", "I", false)
def tyX5 : Nat → FieldType := fun k => match k with
  | 0 => .array .int
  | _ => .int
abbrev wsX50 : List Cond := u_ws RX5 TX5 2
theorem nmX5 : ∀ a, a < 2 → ∀ b, b < 2 → a ≠ b → (TX5 a).2.1 ≠ (TX5 b).2.1 := by decide +kernel
theorem tyX5_ok : ∀ k, k < 2 → parseFieldDescriptor (TX5 k).2.2.1 = some (tyX5 k) := by decide +kernel
abbrev cX5_init : ByteArray := prog_7_method_1_code
def yX5_init : MethodName := ⟨RX5, "<init>", "()V"⟩
abbrev cX5_reckon : ByteArray := prog_7_method_2_code
def yX5_reckon : MethodName := ⟨RX5, "reckon", "(LKingdomAtDice$Dice;LKingdomAtDice$Dice;)V"⟩
abbrev cX5_outcomeOf : ByteArray := prog_7_method_3_code
def yX5_outcomeOf : MethodName := ⟨RX5, "outcomeOf", "(II)I"⟩
abbrev cX5_waysTo : ByteArray := prog_7_method_4_code
def yX5_waysTo : MethodName := ⟨RX5, "waysTo", "(I)I"⟩
def RX6 : String := "KingdomAtDice$Page"
def TX6 : u_T := fun k => match k with
  | 0 => ("KingdomAtDice$Page", "codes", "[I", true)
  | _ => ("KingdomAtDice$Page", "length", "I", false)
def tyX6 : Nat → FieldType := fun k => match k with
  | 0 => .array .int
  | _ => .int
abbrev wsX60 : List Cond := u_ws RX6 TX6 2
theorem nmX6 : ∀ a, a < 2 → ∀ b, b < 2 → a ≠ b → (TX6 a).2.1 ≠ (TX6 b).2.1 := by decide +kernel
theorem tyX6_ok : ∀ k, k < 2 → parseFieldDescriptor (TX6 k).2.2.1 = some (tyX6 k) := by decide +kernel
abbrev cX6_init : ByteArray := prog_8_method_1_code
def yX6_init : MethodName := ⟨RX6, "<init>", "()V"⟩
abbrev cX6_isFull : ByteArray := prog_8_method_2_code
def yX6_isFull : MethodName := ⟨RX6, "isFull", "()Z"⟩
abbrev cX6_push : ByteArray := prog_8_method_3_code
def yX6_push : MethodName := ⟨RX6, "push", "(I)I"⟩
abbrev cX6_clear : ByteArray := prog_8_method_4_code
def yX6_clear : MethodName := ⟨RX6, "clear", "()I"⟩
abbrev cX6_codeAt : ByteArray := prog_8_method_5_code
def yX6_codeAt : MethodName := ⟨RX6, "codeAt", "(I)I"⟩
abbrev cX6_faultPlace : ByteArray := prog_8_method_6_code
def yX6_faultPlace : MethodName := ⟨RX6, "faultPlace", "()I"⟩
abbrev cX6_fitsThings : ByteArray := prog_8_method_7_code
def yX6_fitsThings : MethodName := ⟨RX6, "fitsThings", "(IIZ)Z"⟩
abbrev cX6_fitsBehind : ByteArray := prog_8_method_8_code
def yX6_fitsBehind : MethodName := ⟨RX6, "fitsBehind", "(II)Z"⟩
abbrev cX6_isHall : ByteArray := prog_8_method_9_code
def yX6_isHall : MethodName := ⟨RX6, "isHall", "()Z"⟩
abbrev cX6_hallThings : ByteArray := prog_8_method_10_code
def yX6_hallThings : MethodName := ⟨RX6, "hallThings", "()I"⟩
abbrev cX6_hallSort : ByteArray := prog_8_method_11_code
def yX6_hallSort : MethodName := ⟨RX6, "hallSort", "(I)I"⟩
abbrev cX6_hallWorth : ByteArray := prog_8_method_12_code
def yX6_hallWorth : MethodName := ⟨RX6, "hallWorth", "(I)I"⟩
abbrev cX6_kingKindCode : ByteArray := prog_8_method_13_code
def yX6_kingKindCode : MethodName := ⟨RX6, "kingKindCode", "()I"⟩
abbrev cX6_cousinKindCode : ByteArray := prog_8_method_14_code
def yX6_cousinKindCode : MethodName := ⟨RX6, "cousinKindCode", "()I"⟩
def RX7 : String := "KingdomAtDice$Standing"
def TX7 : u_T := fun k => match k with
  | 0 => ("KingdomAtDice$Standing", "things", "[LKingdomAtDice$Thing;", true)
  | 1 => ("KingdomAtDice$Standing", "seen", "[I", true)
  | 2 => ("KingdomAtDice$Standing", "thingMany", "I", false)
  | 3 => ("KingdomAtDice$Standing", "gold", "I", false)
  | 4 => ("KingdomAtDice$Standing", "throwMany", "I", false)
  | _ => ("KingdomAtDice$Standing", "seenMany", "I", false)
def tyX7 : Nat → FieldType := fun k => match k with
  | 0 => .array (.object "KingdomAtDice$Thing")
  | 1 => .array .int
  | 2 => .int
  | 3 => .int
  | 4 => .int
  | _ => .int
abbrev wsX70 : List Cond := u_ws RX7 TX7 6
theorem nmX7 : ∀ a, a < 6 → ∀ b, b < 6 → a ≠ b → (TX7 a).2.1 ≠ (TX7 b).2.1 := by decide +kernel
theorem tyX7_ok : ∀ k, k < 6 → parseFieldDescriptor (TX7 k).2.2.1 = some (tyX7 k) := by decide +kernel
abbrev cX7_init : ByteArray := prog_9_method_1_code
def yX7_init : MethodName := ⟨RX7, "<init>", "()V"⟩
abbrev cX7_begin : ByteArray := prog_9_method_2_code
def yX7_begin : MethodName := ⟨RX7, "begin", "(LKingdomAtDice$Page;)V"⟩
abbrev cX7_copy : ByteArray := prog_9_method_3_code
def yX7_copy : MethodName := ⟨RX7, "copy", "(LKingdomAtDice$Standing;)V"⟩
abbrev cX7_hasHall : ByteArray := prog_9_method_4_code
def yX7_hasHall : MethodName := ⟨RX7, "hasHall", "()Z"⟩
abbrev cX7_has : ByteArray := prog_9_method_5_code
def yX7_has : MethodName := ⟨RX7, "has", "(I)Z"⟩
abbrev cX7_mayStake : ByteArray := prog_9_method_6_code
def yX7_mayStake : MethodName := ⟨RX7, "mayStake", "(II)Z"⟩
abbrev cX7_settle : ByteArray := prog_9_method_7_code
def yX7_settle : MethodName := ⟨RX7, "settle", "(IIII)I"⟩
abbrev cX7_isSelfKings : ByteArray := prog_9_method_8_code
def yX7_isSelfKings : MethodName := ⟨RX7, "isSelfKings", "()Z"⟩
abbrev cX7_stakesFor : ByteArray := prog_9_method_9_code
def yX7_stakesFor : MethodName := ⟨RX7, "stakesFor", "(I)I"⟩
abbrev cX7_kingsBy : ByteArray := prog_9_method_10_code
def yX7_kingsBy : MethodName := ⟨RX7, "kingsBy", "(I)I"⟩
abbrev cX7_worthOf : ByteArray := prog_9_method_11_code
def yX7_worthOf : MethodName := ⟨RX7, "worthOf", "(I)I"⟩
abbrev cX7_wrongMany : ByteArray := prog_9_method_12_code
def yX7_wrongMany : MethodName := ⟨RX7, "wrongMany", "()I"⟩
abbrev cX7_addSeen : ByteArray := prog_9_method_13_code
def yX7_addSeen : MethodName := ⟨RX7, "addSeen", "(I)I"⟩
abbrev cX7_clearSeen : ByteArray := prog_9_method_14_code
def yX7_clearSeen : MethodName := ⟨RX7, "clearSeen", "()I"⟩
abbrev cX7_waysSeenBy : ByteArray := prog_9_method_15_code
def yX7_waysSeenBy : MethodName := ⟨RX7, "waysSeenBy", "(LKingdomAtDice$Dice;)J"⟩
def RX8 : String := "KingdomAtDice$Thing"
def TX8 : u_T := fun k => match k with
  | 0 => ("KingdomAtDice$Thing", "sort", "I", false)
  | 1 => ("KingdomAtDice$Thing", "worth", "I", false)
  | 2 => ("KingdomAtDice$Thing", "isKings", "Z", false)
  | 3 => ("KingdomAtDice$Thing", "lostBy", "I", false)
  | 4 => ("KingdomAtDice$Thing", "rightly", "I", false)
  | _ => ("KingdomAtDice$Thing", "overs", "I", false)
def tyX8 : Nat → FieldType := fun k => match k with
  | 0 => .int
  | 1 => .int
  | 2 => .boolean
  | 3 => .int
  | 4 => .int
  | _ => .int
abbrev wsX80 : List Cond := u_ws RX8 TX8 6
theorem nmX8 : ∀ a, a < 6 → ∀ b, b < 6 → a ≠ b → (TX8 a).2.1 ≠ (TX8 b).2.1 := by decide +kernel
theorem tyX8_ok : ∀ k, k < 6 → parseFieldDescriptor (TX8 k).2.2.1 = some (tyX8 k) := by decide +kernel
abbrev cX8_init : ByteArray := prog_10_method_1_code
def yX8_init : MethodName := ⟨RX8, "<init>", "()V"⟩
abbrev cX8_begin : ByteArray := prog_10_method_2_code
def yX8_begin : MethodName := ⟨RX8, "begin", "(II)V"⟩
abbrev cX8_copy : ByteArray := prog_10_method_3_code
def yX8_copy : MethodName := ⟨RX8, "copy", "(LKingdomAtDice$Thing;)V"⟩
abbrev cX8_lose : ByteArray := prog_10_method_4_code
def yX8_lose : MethodName := ⟨RX8, "lose", "(IZ)V"⟩
abbrev cX8_comeBack : ByteArray := prog_10_method_5_code
def yX8_comeBack : MethodName := ⟨RX8, "comeBack", "()V"⟩
abbrev cX8_isWronglyLost : ByteArray := prog_10_method_6_code
def yX8_isWronglyLost : MethodName := ⟨RX8, "isWronglyLost", "()Z"⟩
abbrev cX8_isKingsBy : ByteArray := prog_10_method_7_code
def yX8_isKingsBy : MethodName := ⟨RX8, "isKingsBy", "(I)Z"⟩
abbrev cX8_tell : ByteArray := prog_10_method_8_code
def yX8_tell : MethodName := ⟨RX8, "tell", "(I)I"⟩
def RX9 : String := "KingdomAtDice$Twins"
def TX9 : u_T := fun k => match k with
  | 0 => ("KingdomAtDice$Dice", "kind", "I", true)
  | 1 => ("KingdomAtDice$Dice", "least", "I", true)
  | _ => ("KingdomAtDice$Dice", "greatest", "I", true)
def tyX9 : Nat → FieldType := fun k => match k with
  | 0 => .int
  | 1 => .int
  | _ => .int
abbrev wsX90 : List Cond := u_ws RX9 TX9 3
theorem nmX9 : ∀ a, a < 3 → ∀ b, b < 3 → a ≠ b → (TX9 a).2.1 ≠ (TX9 b).2.1 := by decide +kernel
theorem tyX9_ok : ∀ k, k < 3 → parseFieldDescriptor (TX9 k).2.2.1 = some (tyX9 k) := by decide +kernel
abbrev cX9_init : ByteArray := prog_11_method_1_code
def yX9_init : MethodName := ⟨RX9, "<init>", "()V"⟩
abbrev cX9_wayMany : ByteArray := prog_11_method_2_code
def yX9_wayMany : MethodName := ⟨RX9, "wayMany", "()I"⟩
abbrev cX9_waysOf : ByteArray := prog_11_method_3_code
def yX9_waysOf : MethodName := ⟨RX9, "waysOf", "(I)I"⟩
abbrev cX9_fall : ByteArray := prog_11_method_4_code
def yX9_fall : MethodName := ⟨RX9, "fall", "(LKingdomAtDice$Draws;)I"⟩
def RX10 : String := "KingdomAtDice"
def TX10 : u_T := fun k => match k with
  | 0 => ("KingdomAtDice", "page", "LKingdomAtDice$Page;", true)
  | 1 => ("KingdomAtDice", "kinds", "[LKingdomAtDice$Dice;", true)
  | 2 => ("KingdomAtDice", "odds", "LKingdomAtDice$Odds;", true)
  | 3 => ("KingdomAtDice", "draws", "LKingdomAtDice$Draws;", true)
  | 4 => ("KingdomAtDice", "now", "LKingdomAtDice$Standing;", true)
  | 5 => ("KingdomAtDice", "kept", "LKingdomAtDice$Standing;", true)
  | 6 => ("KingdomAtDice", "kingDice", "LKingdomAtDice$Dice;", false)
  | 7 => ("KingdomAtDice", "cousinDice", "LKingdomAtDice$Dice;", false)
  | 8 => ("KingdomAtDice", "isKept", "Z", false)
  | _ => ("KingdomAtDice", "hallsRead", "I", false)
def tyX10 : Nat → FieldType := fun k => match k with
  | 0 => .object "KingdomAtDice$Page"
  | 1 => .array (.object "KingdomAtDice$Dice")
  | 2 => .object "KingdomAtDice$Odds"
  | 3 => .object "KingdomAtDice$Draws"
  | 4 => .object "KingdomAtDice$Standing"
  | 5 => .object "KingdomAtDice$Standing"
  | 6 => .object "KingdomAtDice$Dice"
  | 7 => .object "KingdomAtDice$Dice"
  | 8 => .boolean
  | _ => .int
abbrev wsX100 : List Cond := u_ws RX10 TX10 10
theorem nmX10 : ∀ a, a < 10 → ∀ b, b < 10 → a ≠ b → (TX10 a).2.1 ≠ (TX10 b).2.1 := by decide +kernel
theorem tyX10_ok : ∀ k, k < 10 → parseFieldDescriptor (TX10 k).2.2.1 = some (tyX10 k) := by decide +kernel
abbrev cX10_init : ByteArray := prog_1_method_1_code
def yX10_init : MethodName := ⟨RX10, "<init>", "()V"⟩
abbrev cX10_letter : ByteArray := prog_1_method_2_code
def yX10_letter : MethodName := ⟨RX10, "letter", "(I)I"⟩
abbrev cX10_blank : ByteArray := prog_1_method_3_code
def yX10_blank : MethodName := ⟨RX10, "blank", "()I"⟩
abbrev cX10_fault : ByteArray := prog_1_method_4_code
def yX10_fault : MethodName := ⟨RX10, "fault", "()I"⟩
abbrev cX10_hall : ByteArray := prog_1_method_5_code
def yX10_hall : MethodName := ⟨RX10, "hall", "()I"⟩
abbrev cX10_thing : ByteArray := prog_1_method_6_code
def yX10_thing : MethodName := ⟨RX10, "thing", "(II)I"⟩
abbrev cX10_dice : ByteArray := prog_1_method_7_code
def yX10_dice : MethodName := ⟨RX10, "dice", "(II)I"⟩
abbrev cX10_as : ByteArray := prog_1_method_8_code
def yX10_as : MethodName := ⟨RX10, "as", "(II)I"⟩
abbrev cX10_ways : ByteArray := prog_1_method_9_code
def yX10_ways : MethodName := ⟨RX10, "ways", "(II)I"⟩
abbrev cX10_play : ByteArray := prog_1_method_10_code
def yX10_play : MethodName := ⟨RX10, "play", "(IIII)I"⟩
abbrev cX10_odds : ByteArray := prog_1_method_11_code
def yX10_odds : MethodName := ⟨RX10, "odds", "(I)I"⟩
abbrev cX10_back : ByteArray := prog_1_method_12_code
def yX10_back : MethodName := ⟨RX10, "back", "(III)J"⟩
abbrev cX10_laws : ByteArray := prog_1_method_13_code
def yX10_laws : MethodName := ⟨RX10, "laws", "(II)I"⟩
abbrev cX10_see : ByteArray := prog_1_method_14_code
def yX10_see : MethodName := ⟨RX10, "see", "(I)I"⟩
abbrev cX10_forget : ByteArray := prog_1_method_15_code
def yX10_forget : MethodName := ⟨RX10, "forget", "()I"⟩
abbrev cX10_which : ByteArray := prog_1_method_16_code
def yX10_which : MethodName := ⟨RX10, "which", "()I"⟩
abbrev cX10_likely : ByteArray := prog_1_method_17_code
def yX10_likely : MethodName := ⟨RX10, "likely", "()I"⟩
abbrev cX10_halls : ByteArray := prog_1_method_18_code
def yX10_halls : MethodName := ⟨RX10, "halls", "(III)I"⟩
abbrev cX10_image : ByteArray := prog_1_method_19_code
def yX10_image : MethodName := ⟨RX10, "image", "()I"⟩
abbrev cX10_restore : ByteArray := prog_1_method_20_code
def yX10_restore : MethodName := ⟨RX10, "restore", "()I"⟩
abbrev cX10_count : ByteArray := prog_1_method_21_code
def yX10_count : MethodName := ⟨RX10, "count", "(I)I"⟩
abbrev cX10_digest : ByteArray := prog_1_method_22_code
def yX10_digest : MethodName := ⟨RX10, "digest", "()J"⟩
abbrev cX10_digestThing : ByteArray := prog_1_method_23_code
def yX10_digestThing : MethodName := ⟨RX10, "digestThing", "(JI)J"⟩
abbrev cX10_digestHall : ByteArray := prog_1_method_24_code
def yX10_digestHall : MethodName := ⟨RX10, "digestHall", "(J)J"⟩
abbrev cX10_mix : ByteArray := prog_1_method_25_code
def yX10_mix : MethodName := ⟨RX10, "mix", "(JJ)J"⟩
abbrev cX10_hasDice : ByteArray := prog_1_method_26_code
def yX10_hasDice : MethodName := ⟨RX10, "hasDice", "(I)Z"⟩
abbrev cX10_diceOf : ByteArray := prog_1_method_27_code
def yX10_diceOf : MethodName := ⟨RX10, "diceOf", "(I)LKingdomAtDice$Dice;"⟩
abbrev cX10_diceByLetter : ByteArray := prog_1_method_28_code
def yX10_diceByLetter : MethodName := ⟨RX10, "diceByLetter", "(I)LKingdomAtDice$Dice;"⟩
abbrev cX10_isOfKind : ByteArray := prog_1_method_29_code
def yX10_isOfKind : MethodName := ⟨RX10, "isOfKind", "(LKingdomAtDice$Dice;I)Z"⟩
abbrev cX10_isSum : ByteArray := prog_1_method_30_code
def yX10_isSum : MethodName := ⟨RX10, "isSum", "(I)Z"⟩
abbrev cX10_isBelow : ByteArray := prog_1_method_31_code
def yX10_isBelow : MethodName := ⟨RX10, "isBelow", "(II)Z"⟩
abbrev cX10_lowestTerm : ByteArray := prog_1_method_32_code
def yX10_lowestTerm : MethodName := ⟨RX10, "lowestTerm", "(JJI)J"⟩
abbrev cX10_commonDivisor : ByteArray := prog_1_method_33_code
def yX10_commonDivisor : MethodName := ⟨RX10, "commonDivisor", "(JJ)J"⟩
abbrev cX10_waysBack : ByteArray := prog_1_method_34_code
def yX10_waysBack : MethodName := ⟨RX10, "waysBack", "(LKingdomAtDice$Odds;II)J"⟩
abbrev cX10_power : ByteArray := prog_1_method_35_code
def yX10_power : MethodName := ⟨RX10, "power", "(JI)J"⟩
def RX11 : String := "KingdomAtDiceModel"
def TX11 : u_T := fun k => match k with
  | 0 => ("KingdomAtDiceModel", "table", "[I", true)
  | 1 => ("KingdomAtDiceModel", "tableBone", "[I", true)
  | 2 => ("KingdomAtDiceModel", "page", "[I", true)
  | 3 => ("KingdomAtDiceModel", "pageMany", "I", false)
  | 4 => ("KingdomAtDiceModel", "read", "[I", true)
  | 5 => ("KingdomAtDiceModel", "readMany", "I", false)
  | 6 => ("KingdomAtDiceModel", "readSelf", "Z", false)
  | 7 => ("KingdomAtDiceModel", "readKinds", "[I", true)
  | 8 => ("KingdomAtDiceModel", "state", "I", false)
  | 9 => ("KingdomAtDiceModel", "things", "I", false)
  | 10 => ("KingdomAtDiceModel", "gold", "I", false)
  | 11 => ("KingdomAtDiceModel", "throwsNow", "I", false)
  | 12 => ("KingdomAtDiceModel", "hallsRead", "I", false)
  | 13 => ("KingdomAtDiceModel", "rows", "[I", true)
  | 14 => ("KingdomAtDiceModel", "kinds", "[I", true)
  | 15 => ("KingdomAtDiceModel", "now", "[J", true)
  | 16 => ("KingdomAtDiceModel", "next", "[J", true)
  | 17 => ("KingdomAtDiceModel", "seenMany", "I", false)
  | 18 => ("KingdomAtDiceModel", "sums", "[I", true)
  | 19 => ("KingdomAtDiceModel", "seedNow", "I", false)
  | 20 => ("KingdomAtDiceModel", "savedRows", "[I", true)
  | 21 => ("KingdomAtDiceModel", "keptHall", "I", false)
  | 22 => ("KingdomAtDiceModel", "keptGold", "I", false)
  | 23 => ("KingdomAtDiceModel", "keptThrows", "I", false)
  | 24 => ("KingdomAtDiceModel", "keptSeen", "I", false)
  | 25 => ("KingdomAtDiceModel", "keptRows", "[I", true)
  | 26 => ("KingdomAtDiceModel", "keptSums", "[I", true)
  | _ => ("KingdomAtDiceModel", "hash", "J", false)
def tyX11 : Nat → FieldType := fun k => match k with
  | 0 => .array .int
  | 1 => .array .int
  | 2 => .array .int
  | 3 => .int
  | 4 => .array .int
  | 5 => .int
  | 6 => .boolean
  | 7 => .array .int
  | 8 => .int
  | 9 => .int
  | 10 => .int
  | 11 => .int
  | 12 => .int
  | 13 => .array .int
  | 14 => .array .int
  | 15 => .array .long
  | 16 => .array .long
  | 17 => .int
  | 18 => .array .int
  | 19 => .int
  | 20 => .array .int
  | 21 => .int
  | 22 => .int
  | 23 => .int
  | 24 => .int
  | 25 => .array .int
  | 26 => .array .int
  | _ => .long
abbrev wsX110 : List Cond := u_ws RX11 TX11 28
theorem nmX11 : ∀ a, a < 28 → ∀ b, b < 28 → a ≠ b → (TX11 a).2.1 ≠ (TX11 b).2.1 := by decide +kernel
theorem tyX11_ok : ∀ k, k < 28 → parseFieldDescriptor (TX11 k).2.2.1 = some (tyX11 k) := by decide +kernel
abbrev cX11_init : ByteArray := prog_13_method_1_code
def yX11_init : MethodName := ⟨RX11, "<init>", "()V"⟩
abbrev cX11_leastOf : ByteArray := prog_13_method_2_code
def yX11_leastOf : MethodName := ⟨RX11, "leastOf", "(I)I"⟩
abbrev cX11_mostOf : ByteArray := prog_13_method_3_code
def yX11_mostOf : MethodName := ⟨RX11, "mostOf", "(I)I"⟩
abbrev cX11_waysOf : ByteArray := prog_13_method_4_code
def yX11_waysOf : MethodName := ⟨RX11, "waysOf", "(II)I"⟩
abbrev cX11_allWays : ByteArray := prog_13_method_5_code
def yX11_allWays : MethodName := ⟨RX11, "allWays", "(I)I"⟩
abbrev cX11_in : ByteArray := prog_13_method_6_code
def yX11_in : MethodName := ⟨RX11, "in", "(JJJ)Z"⟩
abbrev cX11_copy : ByteArray := prog_13_method_7_code
def yX11_copy : MethodName := ⟨RX11, "copy", "([I[I)V"⟩
abbrev cX11_common : ByteArray := prog_13_method_8_code
def yX11_common : MethodName := ⟨RX11, "common", "(JJ)J"⟩
abbrev cX11_letter : ByteArray := prog_13_method_9_code
def yX11_letter : MethodName := ⟨RX11, "letter", "(I)I"⟩
abbrev cX11_blank : ByteArray := prog_13_method_10_code
def yX11_blank : MethodName := ⟨RX11, "blank", "()I"⟩
abbrev cX11_sortBy : ByteArray := prog_13_method_11_code
def yX11_sortBy : MethodName := ⟨RX11, "sortBy", "(I)I"⟩
abbrev cX11_kindBy : ByteArray := prog_13_method_12_code
def yX11_kindBy : MethodName := ⟨RX11, "kindBy", "(I)I"⟩
abbrev cX11_go : ByteArray := prog_13_method_13_code
def yX11_go : MethodName := ⟨RX11, "go", "(I)Z"⟩
abbrev cX11_faultOf : ByteArray := prog_13_method_14_code
def yX11_faultOf : MethodName := ⟨RX11, "faultOf", "()I"⟩
abbrev cX11_fault : ByteArray := prog_13_method_15_code
def yX11_fault : MethodName := ⟨RX11, "fault", "()I"⟩
abbrev cX11_hall : ByteArray := prog_13_method_16_code
def yX11_hall : MethodName := ⟨RX11, "hall", "()I"⟩
abbrev cX11_lacks : ByteArray := prog_13_method_17_code
def yX11_lacks : MethodName := ⟨RX11, "lacks", "()Z"⟩
abbrev cX11_isThing : ByteArray := prog_13_method_18_code
def yX11_isThing : MethodName := ⟨RX11, "isThing", "(I)Z"⟩
abbrev cX11_isOne : ByteArray := prog_13_method_19_code
def yX11_isOne : MethodName := ⟨RX11, "isOne", "(I)Z"⟩
abbrev cX11_isKings : ByteArray := prog_13_method_20_code
def yX11_isKings : MethodName := ⟨RX11, "isKings", "(I)Z"⟩
abbrev cX11_thing : ByteArray := prog_13_method_21_code
def yX11_thing : MethodName := ⟨RX11, "thing", "(II)I"⟩
abbrev cX11_tellDice : ByteArray := prog_13_method_22_code
def yX11_tellDice : MethodName := ⟨RX11, "tellDice", "(II)I"⟩
abbrev cX11_dice : ByteArray := prog_13_method_23_code
def yX11_dice : MethodName := ⟨RX11, "dice", "(II)I"⟩
abbrev cX11_as : ByteArray := prog_13_method_24_code
def yX11_as : MethodName := ⟨RX11, "as", "(II)I"⟩
abbrev cX11_ways : ByteArray := prog_13_method_25_code
def yX11_ways : MethodName := ⟨RX11, "ways", "(II)I"⟩
abbrev cX11_isRightNow : ByteArray := prog_13_method_26_code
def yX11_isRightNow : MethodName := ⟨RX11, "isRightNow", "()Z"⟩
abbrev cX11_goesOver : ByteArray := prog_13_method_27_code
def yX11_goesOver : MethodName := ⟨RX11, "goesOver", "(II)V"⟩
abbrev cX11_loses : ByteArray := prog_13_method_28_code
def yX11_loses : MethodName := ⟨RX11, "loses", "(I)V"⟩
abbrev cX11_play : ByteArray := prog_13_method_29_code
def yX11_play : MethodName := ⟨RX11, "play", "(IIII)I"⟩
abbrev cX11_waysBy : ByteArray := prog_13_method_30_code
def yX11_waysBy : MethodName := ⟨RX11, "waysBy", "(I)J"⟩
abbrev cX11_waysOfBoth : ByteArray := prog_13_method_31_code
def yX11_waysOfBoth : MethodName := ⟨RX11, "waysOfBoth", "()J"⟩
abbrev cX11_oddsOf : ByteArray := prog_13_method_32_code
def yX11_oddsOf : MethodName := ⟨RX11, "oddsOf", "(I)I"⟩
abbrev cX11_odds : ByteArray := prog_13_method_33_code
def yX11_odds : MethodName := ⟨RX11, "odds", "(I)I"⟩
abbrev cX11_backOf : ByteArray := prog_13_method_34_code
def yX11_backOf : MethodName := ⟨RX11, "backOf", "(III)J"⟩
abbrev cX11_back : ByteArray := prog_13_method_35_code
def yX11_back : MethodName := ⟨RX11, "back", "(III)J"⟩
abbrev cX11_isByLaw : ByteArray := prog_13_method_36_code
def yX11_isByLaw : MethodName := ⟨RX11, "isByLaw", "(II)Z"⟩
abbrev cX11_lawOf : ByteArray := prog_13_method_37_code
def yX11_lawOf : MethodName := ⟨RX11, "lawOf", "(II)I"⟩
abbrev cX11_laws : ByteArray := prog_13_method_38_code
def yX11_laws : MethodName := ⟨RX11, "laws", "(II)I"⟩
abbrev cX11_see : ByteArray := prog_13_method_39_code
def yX11_see : MethodName := ⟨RX11, "see", "(I)I"⟩
abbrev cX11_forget : ByteArray := prog_13_method_40_code
def yX11_forget : MethodName := ⟨RX11, "forget", "()I"⟩
abbrev cX11_productOf : ByteArray := prog_13_method_41_code
def yX11_productOf : MethodName := ⟨RX11, "productOf", "(I)J"⟩
abbrev cX11_allOf : ByteArray := prog_13_method_42_code
def yX11_allOf : MethodName := ⟨RX11, "allOf", "(I)J"⟩
abbrev cX11_whichOf : ByteArray := prog_13_method_43_code
def yX11_whichOf : MethodName := ⟨RX11, "whichOf", "()I"⟩
abbrev cX11_which : ByteArray := prog_13_method_44_code
def yX11_which : MethodName := ⟨RX11, "which", "()I"⟩
abbrev cX11_likelyOf : ByteArray := prog_13_method_45_code
def yX11_likelyOf : MethodName := ⟨RX11, "likelyOf", "()I"⟩
abbrev cX11_likely : ByteArray := prog_13_method_46_code
def yX11_likely : MethodName := ⟨RX11, "likely", "()I"⟩
abbrev cX11_draw : ByteArray := prog_13_method_47_code
def yX11_draw : MethodName := ⟨RX11, "draw", "(I)I"⟩
abbrev cX11_falls : ByteArray := prog_13_method_48_code
def yX11_falls : MethodName := ⟨RX11, "falls", "(I)I"⟩
abbrev cX11_leastKings : ByteArray := prog_13_method_49_code
def yX11_leastKings : MethodName := ⟨RX11, "leastKings", "()I"⟩
abbrev cX11_kingsMany : ByteArray := prog_13_method_50_code
def yX11_kingsMany : MethodName := ⟨RX11, "kingsMany", "()I"⟩
abbrev cX11_halls : ByteArray := prog_13_method_51_code
def yX11_halls : MethodName := ⟨RX11, "halls", "(III)I"⟩
abbrev cX11_image : ByteArray := prog_13_method_52_code
def yX11_image : MethodName := ⟨RX11, "image", "()I"⟩
abbrev cX11_restore : ByteArray := prog_13_method_53_code
def yX11_restore : MethodName := ⟨RX11, "restore", "()I"⟩
abbrev cX11_wrongMany : ByteArray := prog_13_method_54_code
def yX11_wrongMany : MethodName := ⟨RX11, "wrongMany", "()I"⟩
abbrev cX11_countOf : ByteArray := prog_13_method_55_code
def yX11_countOf : MethodName := ⟨RX11, "countOf", "(I)I"⟩
abbrev cX11_count : ByteArray := prog_13_method_56_code
def yX11_count : MethodName := ⟨RX11, "count", "(I)I"⟩
abbrev cX11_say : ByteArray := prog_13_method_57_code
def yX11_say : MethodName := ⟨RX11, "say", "(J)V"⟩
abbrev cX11_sayHall : ByteArray := prog_13_method_58_code
def yX11_sayHall : MethodName := ⟨RX11, "sayHall", "()V"⟩
abbrev cX11_digest : ByteArray := prog_13_method_59_code
def yX11_digest : MethodName := ⟨RX11, "digest", "()J"⟩
def RJ11 : String := "java/lang/Character"
def TJ11 : u_T := fun k => match k with
  | _ => ("", "", "", false)
def tyJ11 : Nat → FieldType := fun k => match k with
  | _ => .int
abbrev wsJ110 : List Cond := u_ws RJ11 TJ11 0
theorem nmJ11 : ∀ a, a < 0 → ∀ b, b < 0 → a ≠ b → (TJ11 a).2.1 ≠ (TJ11 b).2.1 := by decide +kernel
theorem tyJ11_ok : ∀ k, k < 0 → parseFieldDescriptor (TJ11 k).2.2.1 = some (tyJ11 k) := by decide +kernel
abbrev cJ11_isValidCodePoint_9a6ad : ByteArray := prog_14_method_11_code
def yJ11_isValidCodePoint_9a6ad : MethodName := ⟨RJ11, "isValidCodePoint", "(I)Z"⟩
abbrev cJ11_highSurrogate_5068e : ByteArray := prog_14_method_28_code
def yJ11_highSurrogate_5068e : MethodName := ⟨RJ11, "highSurrogate", "(I)C"⟩
abbrev cJ11_lowSurrogate_5068e : ByteArray := prog_14_method_29_code
def yJ11_lowSurrogate_5068e : MethodName := ⟨RJ11, "lowSurrogate", "(I)C"⟩
def RJ6 : String := "java/lang/Integer"
def TJ6 : u_T := fun k => match k with
  | _ => ("", "", "", false)
def tyJ6 : Nat → FieldType := fun k => match k with
  | _ => .int
abbrev wsJ60 : List Cond := u_ws RJ6 TJ6 0
theorem nmJ6 : ∀ a, a < 0 → ∀ b, b < 0 → a ≠ b → (TJ6 a).2.1 ≠ (TJ6 b).2.1 := by decide +kernel
theorem tyJ6_ok : ∀ k, k < 0 → parseFieldDescriptor (TJ6 k).2.2.1 = some (tyJ6 k) := by decide +kernel
abbrev cJ6_lowestOneBit_0f7a4 : ByteArray := prog_15_method_46_code
def yJ6_lowestOneBit_0f7a4 : MethodName := ⟨RJ6, "lowestOneBit", "(I)I"⟩
abbrev cJ6_bitCount_0f7a4 : ByteArray := prog_15_method_49_code
def yJ6_bitCount_0f7a4 : MethodName := ⟨RJ6, "bitCount", "(I)I"⟩
def RJ9 : String := "java/lang/Math"
def TJ9 : u_T := fun k => match k with
  | _ => ("", "", "", false)
def tyJ9 : Nat → FieldType := fun k => match k with
  | _ => .int
abbrev wsJ90 : List Cond := u_ws RJ9 TJ9 0
theorem nmJ9 : ∀ a, a < 0 → ∀ b, b < 0 → a ≠ b → (TJ9 a).2.1 ≠ (TJ9 b).2.1 := by decide +kernel
theorem tyJ9_ok : ∀ k, k < 0 → parseFieldDescriptor (TJ9 k).2.2.1 = some (tyJ9 k) := by decide +kernel
abbrev cJ9_max_7cf53 : ByteArray := prog_16_method_65_code
def yJ9_max_7cf53 : MethodName := ⟨RJ9, "max", "(II)I"⟩
abbrev cJ9_min_7cf53 : ByteArray := prog_16_method_69_code
def yJ9_min_7cf53 : MethodName := ⟨RJ9, "min", "(II)I"⟩
def RJ0 : String := "java/lang/String"
def TJ0 : u_T := fun k => match k with
  | _ => ("", "", "", false)
def tyJ0 : Nat → FieldType := fun k => match k with
  | _ => .int
abbrev wsJ00 : List Cond := u_ws RJ0 TJ0 0
theorem nmJ0 : ∀ a, a < 0 → ∀ b, b < 0 → a ≠ b → (TJ0 a).2.1 ≠ (TJ0 b).2.1 := by decide +kernel
theorem tyJ0_ok : ∀ k, k < 0 → parseFieldDescriptor (TJ0 k).2.2.1 = some (tyJ0 k) := by decide +kernel
abbrev cJ0_length_8abf5 : ByteArray := prog_17_method_54_code
def yJ0_length_8abf5 : MethodName := ⟨RJ0, "length", "()I"⟩
abbrev cJ0_indexOf_0f7a4 : ByteArray := prog_17_method_79_code
def yJ0_indexOf_0f7a4 : MethodName := ⟨RJ0, "indexOf", "(I)I"⟩
abbrev cJ0_indexOf_7cf53 : ByteArray := prog_17_method_80_code
def yJ0_indexOf_7cf53 : MethodName := ⟨RJ0, "indexOf", "(II)I"⟩
abbrev cJ0_coder_7d493 : ByteArray := prog_17_method_152_code
def yJ0_coder_7d493 : MethodName := ⟨RJ0, "coder", "()B"⟩
abbrev cJ0_isLatin1_aae02 : ByteArray := prog_17_method_154_code
def yJ0_isLatin1_aae02 : MethodName := ⟨RJ0, "isLatin1", "()Z"⟩
abbrev cJ0_checkBoundsBeginEnd_23922 : ByteArray := prog_17_method_158_code
def yJ0_checkBoundsBeginEnd_23922 : MethodName := ⟨RJ0, "checkBoundsBeginEnd", "(III)V"⟩
def RJ1 : String := "java/lang/StringLatin1"
def TJ1 : u_T := fun k => match k with
  | _ => ("", "", "", false)
def tyJ1 : Nat → FieldType := fun k => match k with
  | _ => .int
abbrev wsJ10 : List Cond := u_ws RJ1 TJ1 0
theorem nmJ1 : ∀ a, a < 0 → ∀ b, b < 0 → a ≠ b → (TJ1 a).2.1 ≠ (TJ1 b).2.1 := by decide +kernel
theorem tyJ1_ok : ∀ k, k < 0 → parseFieldDescriptor (TJ1 k).2.2.1 = some (tyJ1 k) := by decide +kernel
abbrev cJ1_canEncode_9a6ad : ByteArray := prog_18_method_4_code
def yJ1_canEncode_9a6ad : MethodName := ⟨RJ1, "canEncode", "(I)Z"⟩
abbrev cJ1_indexOf_4cfef : ByteArray := prog_18_method_22_code
def yJ1_indexOf_4cfef : MethodName := ⟨RJ1, "indexOf", "([BIII)I"⟩
abbrev cJ1_indexOfChar_4cfef : ByteArray := prog_18_method_23_code
def yJ1_indexOfChar_4cfef : MethodName := ⟨RJ1, "indexOfChar", "([BIII)I"⟩
def RJ2 : String := "java/lang/StringUTF16"
def TJ2 : u_T := fun k => match k with
  | _ => ("", "", "", false)
def tyJ2 : Nat → FieldType := fun k => match k with
  | _ => .int
abbrev wsJ20 : List Cond := u_ws RJ2 TJ2 0
theorem nmJ2 : ∀ a, a < 0 → ∀ b, b < 0 → a ≠ b → (TJ2 a).2.1 ≠ (TJ2 b).2.1 := by decide +kernel
theorem tyJ2_ok : ∀ k, k < 0 → parseFieldDescriptor (TJ2 k).2.2.1 = some (tyJ2 k) := by decide +kernel
abbrev cJ2_getChar_3b067 : ByteArray := prog_19_method_5_code
def yJ2_getChar_3b067 : MethodName := ⟨RJ2, "getChar", "([BI)C"⟩
abbrev cJ2_length_9d52b : ByteArray := prog_19_method_6_code
def yJ2_length_9d52b : MethodName := ⟨RJ2, "length", "([B)I"⟩
abbrev cJ2_indexOf_4cfef : ByteArray := prog_19_method_40_code
def yJ2_indexOf_4cfef : MethodName := ⟨RJ2, "indexOf", "([BIII)I"⟩
abbrev cJ2_indexOfChar_4cfef : ByteArray := prog_19_method_47_code
def yJ2_indexOfChar_4cfef : MethodName := ⟨RJ2, "indexOfChar", "([BIII)I"⟩
abbrev cJ2_indexOfCharUnsafe_4cfef : ByteArray := prog_19_method_48_code
def yJ2_indexOfCharUnsafe_4cfef : MethodName := ⟨RJ2, "indexOfCharUnsafe", "([BIII)I"⟩
abbrev cJ2_indexOfSupplementary_4cfef : ByteArray := prog_19_method_49_code
def yJ2_indexOfSupplementary_4cfef : MethodName := ⟨RJ2, "indexOfSupplementary", "([BIII)I"⟩
abbrev cJ2_checkBoundsBeginEnd_d044e : ByteArray := prog_19_method_93_code
def yJ2_checkBoundsBeginEnd_d044e : MethodName := ⟨RJ2, "checkBoundsBeginEnd", "(II[B)V"⟩
def RJ3 : String := "jdk/internal/util/Preconditions"
def TJ3 : u_T := fun k => match k with
  | _ => ("", "", "", false)
def tyJ3 : Nat → FieldType := fun k => match k with
  | _ => .int
abbrev wsJ30 : List Cond := u_ws RJ3 TJ3 0
theorem nmJ3 : ∀ a, a < 0 → ∀ b, b < 0 → a ≠ b → (TJ3 a).2.1 ≠ (TJ3 b).2.1 := by decide +kernel
theorem tyJ3_ok : ∀ k, k < 0 → parseFieldDescriptor (TJ3 k).2.2.1 = some (tyJ3 k) := by decide +kernel
abbrev cJ3_checkFromToIndex_8c36e : ByteArray := prog_20_method_12_code
def yJ3_checkFromToIndex_8c36e : MethodName := ⟨RJ3, "checkFromToIndex", "(IIILjava/util/function/BiFunction;)I"⟩
def RL : String := "KingdomAtDiceLaw"
abbrev cL_law : ByteArray := code
def yL_law : MethodName := ⟨RL, "law", "([I)Z"⟩
def wsX1_init : List Cond := .code yX1_init cX1_init 4 none :: ([.methodLink RX1 1 objectInit, .instanceMethod objectInit, .code objectInit ⟨#[0xb1]⟩ 1 none, .fieldLink RX1 7 "KingdomAtDice$Dice" "kind" "I", .fieldLink RX1 13 "KingdomAtDice$Dice" "least" "I", .fieldLink RX1 16 "KingdomAtDice$Dice" "greatest" "I"] ++ wsX00 ++ wsX10 ++ wsX30 ++ wsX40 ++ wsX90)
def wsX3_init : List Cond := .code yX3_init cX3_init 3 none :: ([.methodLink RX3 1 yX1_init, .instanceMethod yX1_init, .initialized RX1, .code yX1_init cX1_init 4 none, .methodLink RX1 1 objectInit, .instanceMethod objectInit, .code objectInit ⟨#[0xb1]⟩ 1 none, .fieldLink RX1 7 "KingdomAtDice$Dice" "kind" "I", .fieldLink RX1 13 "KingdomAtDice$Dice" "least" "I", .fieldLink RX1 16 "KingdomAtDice$Dice" "greatest" "I"] ++ wsX00 ++ wsX10 ++ wsX30 ++ wsX40 ++ wsX90)
def wsX0_init : List Cond := .code yX0_init cX0_init 1 none :: ([.methodLink RX0 3 yX3_init, .instanceMethod yX3_init, .initialized RX3, .code yX3_init cX3_init 3 none, .methodLink RX3 1 yX1_init, .instanceMethod yX1_init, .initialized RX1, .code yX1_init cX1_init 4 none, .methodLink RX1 1 objectInit, .instanceMethod objectInit, .code objectInit ⟨#[0xb1]⟩ 1 none, .fieldLink RX1 7 "KingdomAtDice$Dice" "kind" "I", .fieldLink RX1 13 "KingdomAtDice$Dice" "least" "I", .fieldLink RX1 16 "KingdomAtDice$Dice" "greatest" "I"] ++ wsX00 ++ wsX10 ++ wsX30 ++ wsX40 ++ wsX90)
def wsX1_faces : List Cond := .code yX1_faces cX1_faces 1 (some .int) :: ([.fieldLink RX1 16 "KingdomAtDice$Dice" "greatest" "I", .fieldLink RX1 13 "KingdomAtDice$Dice" "least" "I"] ++ wsX00 ++ wsX10 ++ wsX30 ++ wsX40 ++ wsX90)
def wsX1_wayMany : List Cond := .code yX1_wayMany cX1_wayMany 1 (some .int) :: ([.methodLink RX1 23 ⟨"KingdomAtDice$Dice", "faces", "()I"⟩, .sameMethod "KingdomAtDice$Dice" "KingdomAtDice$Dice" "faces" "()I", .selects RX0 ⟨"KingdomAtDice$Dice", "faces", "()I"⟩ yX1_faces, .instanceMethod yX1_faces, .initialized RX1, .code yX1_faces cX1_faces 1 (some .int), .fieldLink RX1 16 "KingdomAtDice$Dice" "greatest" "I", .fieldLink RX1 13 "KingdomAtDice$Dice" "least" "I", .methodLink RX1 23 yX1_faces, .selects RX1 yX1_faces yX1_faces, .selects RX3 ⟨"KingdomAtDice$Dice", "faces", "()I"⟩ yX1_faces, .selects RX4 ⟨"KingdomAtDice$Dice", "faces", "()I"⟩ yX1_faces, .selects RX9 ⟨"KingdomAtDice$Dice", "faces", "()I"⟩ yX1_faces] ++ wsX00 ++ wsX10 ++ wsX30 ++ wsX40 ++ wsX90)
def wsX9_wayMany : List Cond := .code yX9_wayMany cX9_wayMany 1 (some .int) :: ([.methodLink RX9 9 ⟨"KingdomAtDice$Twins", "faces", "()I"⟩, .sameMethod "KingdomAtDice$Twins" "KingdomAtDice$Dice" "faces" "()I", .selects RX9 ⟨"KingdomAtDice$Twins", "faces", "()I"⟩ yX1_faces, .instanceMethod yX1_faces, .initialized RX1, .code yX1_faces cX1_faces 1 (some .int), .fieldLink RX1 16 "KingdomAtDice$Dice" "greatest" "I", .fieldLink RX1 13 "KingdomAtDice$Dice" "least" "I"] ++ wsX00 ++ wsX10 ++ wsX30 ++ wsX40 ++ wsX90)
def wsX1_tell_r1 : List Cond := [Cond.fieldLink RX1 7 "KingdomAtDice$Dice" "kind" "I", Cond.fieldLink RX1 13 "KingdomAtDice$Dice" "least" "I", Cond.fieldLink RX1 16 "KingdomAtDice$Dice" "greatest" "I", Cond.methodLink RX1 19 ⟨"KingdomAtDice$Dice", "wayMany", "()I"⟩, Cond.sameMethod "KingdomAtDice$Dice" "KingdomAtDice$Dice" "wayMany" "()I", Cond.selects RX0 ⟨"KingdomAtDice$Dice", "wayMany", "()I"⟩ yX1_wayMany, Cond.instanceMethod yX1_wayMany, Cond.initialized RX1, Cond.code yX1_wayMany cX1_wayMany 1 (some .int), Cond.methodLink RX1 23 ⟨"KingdomAtDice$Dice", "faces", "()I"⟩, Cond.sameMethod "KingdomAtDice$Dice" "KingdomAtDice$Dice" "faces" "()I", Cond.selects RX0 ⟨"KingdomAtDice$Dice", "faces", "()I"⟩ yX1_faces, Cond.instanceMethod yX1_faces, Cond.code yX1_faces cX1_faces 1 (some .int), Cond.methodLink RX1 23 yX1_faces, Cond.selects RX1 yX1_faces yX1_faces, Cond.selects RX3 ⟨"KingdomAtDice$Dice", "faces", "()I"⟩ yX1_faces, Cond.selects RX4 ⟨"KingdomAtDice$Dice", "faces", "()I"⟩ yX1_faces, Cond.selects RX9 ⟨"KingdomAtDice$Dice", "faces", "()I"⟩ yX1_faces, Cond.methodLink RX1 19 yX1_wayMany, Cond.selects RX1 yX1_wayMany yX1_wayMany, Cond.selects RX3 ⟨"KingdomAtDice$Dice", "wayMany", "()I"⟩ yX1_wayMany, Cond.selects RX4 ⟨"KingdomAtDice$Dice", "wayMany", "()I"⟩ yX1_wayMany, Cond.instanceMethod ⟨"KingdomAtDice$Dice", "wayMany", "()I"⟩]
def wsX1_tell_r2 : List Cond := [Cond.selects RX9 ⟨"KingdomAtDice$Dice", "wayMany", "()I"⟩ yX9_wayMany, Cond.instanceMethod yX9_wayMany, Cond.initialized RX9, Cond.code yX9_wayMany cX9_wayMany 1 (some .int), Cond.methodLink RX9 9 ⟨"KingdomAtDice$Twins", "faces", "()I"⟩, Cond.sameMethod "KingdomAtDice$Twins" "KingdomAtDice$Dice" "faces" "()I", Cond.selects RX9 ⟨"KingdomAtDice$Twins", "faces", "()I"⟩ yX1_faces]
def wsX1_tell : List Cond := .code yX1_tell cX1_tell 2 (some .int) :: ((wsX1_tell_r1 ++ wsX1_tell_r2) ++ wsX00 ++ wsX10 ++ wsX30 ++ wsX40 ++ wsX90)
def wsX10_isSum : List Cond := .code yX10_isSum cX10_isSum 1 (some .boolean) :: ([])
def wsX1_waysOf : List Cond := .code yX1_waysOf cX1_waysOf 5 (some .int) :: ([.fieldLink RX1 13 "KingdomAtDice$Dice" "least" "I", .fieldLink RX1 16 "KingdomAtDice$Dice" "greatest" "I", .static yX10_isSum, .initialized RX10, .code yX10_isSum cX10_isSum 1 (some .boolean)] ++ wsX00 ++ wsX10 ++ wsX30 ++ wsX40 ++ wsX90)
def wsX2_next : List Cond := .code yX2_next cX2_next 2 (some .int) :: ([.constantLong RX2 13 (1103515245), .fieldLink RX2 7 "KingdomAtDice$Draws" "seed" "J", .constantLong RX2 15 (12345), .constantLong RX2 17 (2147483648), .constantLong RX2 19 (65536)] ++ wsX20)
def wsX1_fall : List Cond := .code yX1_fall cX1_fall 3 (some .int) :: ([.fieldLink RX1 13 "KingdomAtDice$Dice" "least" "I", .methodLink RX1 23 ⟨"KingdomAtDice$Dice", "faces", "()I"⟩, .sameMethod "KingdomAtDice$Dice" "KingdomAtDice$Dice" "faces" "()I", .selects RX0 ⟨"KingdomAtDice$Dice", "faces", "()I"⟩ yX1_faces, .instanceMethod yX1_faces, .initialized RX1, .code yX1_faces cX1_faces 1 (some .int), .fieldLink RX1 16 "KingdomAtDice$Dice" "greatest" "I", .methodLink RX1 23 yX1_faces, .selects RX1 yX1_faces yX1_faces, .selects RX3 ⟨"KingdomAtDice$Dice", "faces", "()I"⟩ yX1_faces, .selects RX4 ⟨"KingdomAtDice$Dice", "faces", "()I"⟩ yX1_faces, .selects RX9 ⟨"KingdomAtDice$Dice", "faces", "()I"⟩ yX1_faces, .instanceMethod yX2_next, .initialized RX2, .selects RX2 yX2_next yX2_next, .code yX2_next cX2_next 2 (some .int), .constantLong RX2 13 (1103515245), .fieldLink RX2 7 "KingdomAtDice$Draws" "seed" "J", .constantLong RX2 15 (12345), .constantLong RX2 17 (2147483648), .constantLong RX2 19 (65536)] ++ wsX00 ++ wsX10 ++ wsX30 ++ wsX40 ++ wsX90 ++ wsX20)
def wsX2_init : List Cond := .code yX2_init cX2_init 1 none :: ([.methodLink RX2 1 objectInit, .instanceMethod objectInit, .code objectInit ⟨#[0xb1]⟩ 1 none, .fieldLink RX2 7 "KingdomAtDice$Draws" "seed" "J"] ++ wsX20)
def wsX2_begin : List Cond := .code yX2_begin cX2_begin 2 none :: ([.fieldLink RX2 7 "KingdomAtDice$Draws" "seed" "J"] ++ wsX20)
def wsX2_seedNow : List Cond := .code yX2_seedNow cX2_seedNow 1 (some .int) :: ([.fieldLink RX2 7 "KingdomAtDice$Draws" "seed" "J"] ++ wsX20)
def wsX4_init : List Cond := .code yX4_init cX4_init 1 none :: ([.methodLink RX4 3 yX1_init, .instanceMethod yX1_init, .initialized RX1, .code yX1_init cX1_init 4 none, .methodLink RX1 1 objectInit, .instanceMethod objectInit, .code objectInit ⟨#[0xb1]⟩ 1 none, .fieldLink RX1 7 "KingdomAtDice$Dice" "kind" "I", .fieldLink RX1 13 "KingdomAtDice$Dice" "least" "I", .fieldLink RX1 16 "KingdomAtDice$Dice" "greatest" "I"] ++ wsX00 ++ wsX10 ++ wsX30 ++ wsX40 ++ wsX90)
def wsX5_init : List Cond := .code yX5_init cX5_init 1 none :: ([.methodLink RX5 3 objectInit, .instanceMethod objectInit, .code objectInit ⟨#[0xb1]⟩ 1 none, .arrayClass .int, .fieldLink RX5 9 "KingdomAtDice$Odds" "ways" "[I", .fieldLink RX5 15 "KingdomAtDice$Odds" "total" "I"] ++ wsX50)
def wsX5_outcomeOf : List Cond := .code yX5_outcomeOf cX5_outcomeOf 2 (some .int) :: ([])
def wsX9_waysOf : List Cond := .code yX9_waysOf cX9_waysOf 2 (some .int) :: ([.static yX10_isSum, .initialized RX10, .code yX10_isSum cX10_isSum 1 (some .boolean)])
def wsX5_reckon_r1 : List Cond := [Cond.fieldLink RX5 9 "KingdomAtDice$Odds" "ways" "[I", Cond.fieldLink RX5 15 "KingdomAtDice$Odds" "total" "I", Cond.methodLink RX5 19 yX5_outcomeOf, Cond.static yX5_outcomeOf, Cond.initialized RX5, Cond.code yX5_outcomeOf cX5_outcomeOf 2 (some .int), Cond.methodLink RX5 23 ⟨"KingdomAtDice$Dice", "waysOf", "(I)I"⟩, Cond.sameMethod "KingdomAtDice$Dice" "KingdomAtDice$Dice" "waysOf" "(I)I", Cond.selects RX0 ⟨"KingdomAtDice$Dice", "waysOf", "(I)I"⟩ yX1_waysOf, Cond.instanceMethod yX1_waysOf, Cond.initialized RX1, Cond.code yX1_waysOf cX1_waysOf 5 (some .int), Cond.fieldLink RX1 13 "KingdomAtDice$Dice" "least" "I", Cond.fieldLink RX1 16 "KingdomAtDice$Dice" "greatest" "I", Cond.static yX10_isSum, Cond.initialized RX10, Cond.code yX10_isSum cX10_isSum 1 (some .boolean), Cond.methodLink RX5 23 yX1_waysOf, Cond.selects RX1 yX1_waysOf yX1_waysOf, Cond.selects RX3 ⟨"KingdomAtDice$Dice", "waysOf", "(I)I"⟩ yX1_waysOf, Cond.selects RX4 ⟨"KingdomAtDice$Dice", "waysOf", "(I)I"⟩ yX1_waysOf, Cond.instanceMethod ⟨"KingdomAtDice$Dice", "waysOf", "(I)I"⟩, Cond.selects RX9 ⟨"KingdomAtDice$Dice", "waysOf", "(I)I"⟩ yX9_waysOf, Cond.instanceMethod yX9_waysOf]
def wsX5_reckon_r2 : List Cond := [Cond.initialized RX9, Cond.code yX9_waysOf cX9_waysOf 2 (some .int), Cond.methodLink RX5 29 ⟨"KingdomAtDice$Dice", "wayMany", "()I"⟩, Cond.sameMethod "KingdomAtDice$Dice" "KingdomAtDice$Dice" "wayMany" "()I", Cond.selects RX0 ⟨"KingdomAtDice$Dice", "wayMany", "()I"⟩ yX1_wayMany, Cond.instanceMethod yX1_wayMany, Cond.code yX1_wayMany cX1_wayMany 1 (some .int), Cond.methodLink RX1 23 ⟨"KingdomAtDice$Dice", "faces", "()I"⟩, Cond.sameMethod "KingdomAtDice$Dice" "KingdomAtDice$Dice" "faces" "()I", Cond.selects RX0 ⟨"KingdomAtDice$Dice", "faces", "()I"⟩ yX1_faces, Cond.instanceMethod yX1_faces, Cond.code yX1_faces cX1_faces 1 (some .int), Cond.methodLink RX1 23 yX1_faces, Cond.selects RX1 yX1_faces yX1_faces, Cond.selects RX3 ⟨"KingdomAtDice$Dice", "faces", "()I"⟩ yX1_faces, Cond.selects RX4 ⟨"KingdomAtDice$Dice", "faces", "()I"⟩ yX1_faces, Cond.selects RX9 ⟨"KingdomAtDice$Dice", "faces", "()I"⟩ yX1_faces, Cond.methodLink RX5 29 yX1_wayMany, Cond.selects RX1 yX1_wayMany yX1_wayMany, Cond.selects RX3 ⟨"KingdomAtDice$Dice", "wayMany", "()I"⟩ yX1_wayMany, Cond.selects RX4 ⟨"KingdomAtDice$Dice", "wayMany", "()I"⟩ yX1_wayMany, Cond.instanceMethod ⟨"KingdomAtDice$Dice", "wayMany", "()I"⟩, Cond.selects RX9 ⟨"KingdomAtDice$Dice", "wayMany", "()I"⟩ yX9_wayMany, Cond.instanceMethod yX9_wayMany]
def wsX5_reckon_r3 : List Cond := [Cond.code yX9_wayMany cX9_wayMany 1 (some .int), Cond.methodLink RX9 9 ⟨"KingdomAtDice$Twins", "faces", "()I"⟩, Cond.sameMethod "KingdomAtDice$Twins" "KingdomAtDice$Dice" "faces" "()I", Cond.selects RX9 ⟨"KingdomAtDice$Twins", "faces", "()I"⟩ yX1_faces]
def wsX5_reckon : List Cond := .code yX5_reckon cX5_reckon 5 none :: ((wsX5_reckon_r1 ++ (wsX5_reckon_r2 ++ wsX5_reckon_r3)) ++ wsX50 ++ wsX00 ++ wsX10 ++ wsX30 ++ wsX40 ++ wsX90)
def wsX10_isBelow : List Cond := .code yX10_isBelow cX10_isBelow 2 (some .boolean) :: ([])
def wsX5_waysTo : List Cond := .code yX5_waysTo cX5_waysTo 2 (some .int) :: ([.fieldLink RX5 9 "KingdomAtDice$Odds" "ways" "[I", .static yX10_isBelow, .initialized RX10, .code yX10_isBelow cX10_isBelow 2 (some .boolean)] ++ wsX50)
def wsX6_init : List Cond := .code yX6_init cX6_init 1 none :: ([.methodLink RX6 3 objectInit, .instanceMethod objectInit, .code objectInit ⟨#[0xb1]⟩ 1 none, .arrayClass .int, .fieldLink RX6 9 "KingdomAtDice$Page" "codes" "[I", .fieldLink RX6 15 "KingdomAtDice$Page" "length" "I"] ++ wsX60)
def wsX6_isFull : List Cond := .code yX6_isFull cX6_isFull 1 (some .boolean) :: ([.fieldLink RX6 15 "KingdomAtDice$Page" "length" "I", .fieldLink RX6 9 "KingdomAtDice$Page" "codes" "[I"] ++ wsX60)
def wsX6_push : List Cond := .code yX6_push cX6_push 2 (some .int) :: ([.fieldLink RX6 9 "KingdomAtDice$Page" "codes" "[I", .fieldLink RX6 15 "KingdomAtDice$Page" "length" "I", .methodLink RX6 19 yX6_isFull, .instanceMethod yX6_isFull, .selects RX6 yX6_isFull yX6_isFull, .initialized RX6, .code yX6_isFull cX6_isFull 1 (some .boolean)] ++ wsX60)
def wsX6_clear : List Cond := .code yX6_clear cX6_clear 2 (some .int) :: ([.fieldLink RX6 15 "KingdomAtDice$Page" "length" "I"] ++ wsX60)
def wsX6_codeAt : List Cond := .code yX6_codeAt cX6_codeAt 2 (some .int) :: ([.fieldLink RX6 15 "KingdomAtDice$Page" "length" "I", .fieldLink RX6 9 "KingdomAtDice$Page" "codes" "[I", .static yX10_isBelow, .initialized RX10, .code yX10_isBelow cX10_isBelow 2 (some .boolean)] ++ wsX60)
def wsJ0_isLatin1_aae02 : List Cond := .code yJ0_isLatin1_aae02 cJ0_isLatin1_aae02 1 (some .boolean) :: ([.fieldLink RJ0 38 "java/lang/String" "COMPACT_STRINGS" "Z", .fieldLink RJ0 15 "java/lang/String" "coder" "B"])
def wsJ0_coder_7d493 : List Cond := .code yJ0_coder_7d493 cJ0_coder_7d493 1 (some .byte) :: ([.fieldLink RJ0 38 "java/lang/String" "COMPACT_STRINGS" "Z", .fieldLink RJ0 15 "java/lang/String" "coder" "B"])
def wsJ0_length_8abf5 : List Cond := .code yJ0_length_8abf5 cJ0_length_8abf5 1 (some .int) :: ([.fieldLink RJ0 9 "java/lang/String" "value" "[B", .methodLink RJ0 335 yJ0_coder_7d493, .instanceMethod yJ0_coder_7d493, .selects RJ0 yJ0_coder_7d493 yJ0_coder_7d493, .initialized RJ0, .code yJ0_coder_7d493 cJ0_coder_7d493 1 (some .byte), .fieldLink RJ0 38 "java/lang/String" "COMPACT_STRINGS" "Z", .fieldLink RJ0 15 "java/lang/String" "coder" "B"])
def wsJ1_canEncode_9a6ad : List Cond := .code yJ1_canEncode_9a6ad cJ1_canEncode_9a6ad 1 (some .boolean) :: ([])
def wsJ1_indexOfChar_4cfef : List Cond := .code yJ1_indexOfChar_4cfef cJ1_indexOfChar_4cfef 6 (some .int) :: ([])
def wsJ1_indexOf_4cfef : List Cond := .code yJ1_indexOf_4cfef cJ1_indexOf_4cfef 4 (some .int) :: ([.methodLink RJ1 92 Lib.Math.max.name, .static Lib.Math.max.name, .initialized "java/lang/Math", .code Lib.Math.max.name Lib.Math.max.code 2 (some .int), .methodLink RJ1 38 Lib.Math.min.name, .static Lib.Math.min.name, .code Lib.Math.min.name Lib.Math.min.code 2 (some .int), .methodLink RJ1 88 yJ1_canEncode_9a6ad, .static yJ1_canEncode_9a6ad, .initialized RJ1, .code yJ1_canEncode_9a6ad cJ1_canEncode_9a6ad 1 (some .boolean), .methodLink RJ1 95 yJ1_indexOfChar_4cfef, .static yJ1_indexOfChar_4cfef, .code yJ1_indexOfChar_4cfef cJ1_indexOfChar_4cfef 6 (some .int)])
def wsJ2_length_9d52b : List Cond := .code yJ2_length_9d52b cJ2_length_9d52b 1 (some .int) :: ([])
def wsJ3_checkFromToIndex_8c36e : List Cond := .code yJ3_checkFromToIndex_8c36e cJ3_checkFromToIndex_8c36e 4 (some .int) :: ([])
def wsJ0_checkBoundsBeginEnd_23922 : List Cond := .code yJ0_checkBoundsBeginEnd_23922 cJ0_checkBoundsBeginEnd_23922 3 none :: ([.fieldLink RJ0 1053 "jdk/internal/util/Preconditions" "SIOOBE_FORMATTER" "Ljava/util/function/BiFunction;", .methodLink RJ0 1062 yJ3_checkFromToIndex_8c36e, .static yJ3_checkFromToIndex_8c36e, .initialized RJ3, .code yJ3_checkFromToIndex_8c36e cJ3_checkFromToIndex_8c36e 4 (some .int)])
def wsJ2_checkBoundsBeginEnd_d044e : List Cond := .code yJ2_checkBoundsBeginEnd_d044e cJ2_checkBoundsBeginEnd_d044e 3 none :: ([.methodLink RJ2 48 yJ2_length_9d52b, .static yJ2_length_9d52b, .initialized RJ2, .code yJ2_length_9d52b cJ2_length_9d52b 1 (some .int), .methodLink RJ2 241 yJ0_checkBoundsBeginEnd_23922, .static yJ0_checkBoundsBeginEnd_23922, .initialized RJ0, .code yJ0_checkBoundsBeginEnd_23922 cJ0_checkBoundsBeginEnd_23922 3 none, .fieldLink RJ0 1053 "jdk/internal/util/Preconditions" "SIOOBE_FORMATTER" "Ljava/util/function/BiFunction;", .methodLink RJ0 1062 yJ3_checkFromToIndex_8c36e, .static yJ3_checkFromToIndex_8c36e, .initialized RJ3, .code yJ3_checkFromToIndex_8c36e cJ3_checkFromToIndex_8c36e 4 (some .int)])
def wsJ2_getChar_3b067 : List Cond := .code yJ2_getChar_3b067 cJ2_getChar_3b067 2 (some .char) :: ([.fieldLink RJ2 44 "java/lang/StringUTF16" "$assertionsDisabled" "Z", .fieldLink RJ2 59 "java/lang/StringUTF16" "HI_BYTE_SHIFT" "I", .fieldLink RJ2 63 "java/lang/StringUTF16" "LO_BYTE_SHIFT" "I", .methodLink RJ2 48 yJ2_length_9d52b, .static yJ2_length_9d52b, .initialized RJ2, .code yJ2_length_9d52b cJ2_length_9d52b 1 (some .int)])
def wsJ2_indexOfCharUnsafe_4cfef : List Cond := .code yJ2_indexOfCharUnsafe_4cfef cJ2_indexOfCharUnsafe_4cfef 5 (some .int) :: ([.methodLink RJ2 71 yJ2_getChar_3b067, .static yJ2_getChar_3b067, .initialized RJ2, .code yJ2_getChar_3b067 cJ2_getChar_3b067 2 (some .char), .fieldLink RJ2 44 "java/lang/StringUTF16" "$assertionsDisabled" "Z", .fieldLink RJ2 59 "java/lang/StringUTF16" "HI_BYTE_SHIFT" "I", .fieldLink RJ2 63 "java/lang/StringUTF16" "LO_BYTE_SHIFT" "I", .methodLink RJ2 48 yJ2_length_9d52b, .static yJ2_length_9d52b, .code yJ2_length_9d52b cJ2_length_9d52b 1 (some .int)])
def wsJ2_indexOfChar_4cfef_r1 : List Cond := [Cond.methodLink RJ2 96 yJ2_checkBoundsBeginEnd_d044e, Cond.static yJ2_checkBoundsBeginEnd_d044e, Cond.initialized RJ2, Cond.code yJ2_checkBoundsBeginEnd_d044e cJ2_checkBoundsBeginEnd_d044e 3 none, Cond.methodLink RJ2 48 yJ2_length_9d52b, Cond.static yJ2_length_9d52b, Cond.code yJ2_length_9d52b cJ2_length_9d52b 1 (some .int), Cond.methodLink RJ2 241 yJ0_checkBoundsBeginEnd_23922, Cond.static yJ0_checkBoundsBeginEnd_23922, Cond.initialized RJ0, Cond.code yJ0_checkBoundsBeginEnd_23922 cJ0_checkBoundsBeginEnd_23922 3 none, Cond.fieldLink RJ0 1053 "jdk/internal/util/Preconditions" "SIOOBE_FORMATTER" "Ljava/util/function/BiFunction;", Cond.methodLink RJ0 1062 yJ3_checkFromToIndex_8c36e, Cond.static yJ3_checkFromToIndex_8c36e, Cond.initialized RJ3, Cond.code yJ3_checkFromToIndex_8c36e cJ3_checkFromToIndex_8c36e 4 (some .int), Cond.methodLink RJ2 244 yJ2_indexOfCharUnsafe_4cfef, Cond.static yJ2_indexOfCharUnsafe_4cfef, Cond.code yJ2_indexOfCharUnsafe_4cfef cJ2_indexOfCharUnsafe_4cfef 5 (some .int), Cond.methodLink RJ2 71 yJ2_getChar_3b067, Cond.static yJ2_getChar_3b067, Cond.code yJ2_getChar_3b067 cJ2_getChar_3b067 2 (some .char), Cond.fieldLink RJ2 44 "java/lang/StringUTF16" "$assertionsDisabled" "Z", Cond.fieldLink RJ2 59 "java/lang/StringUTF16" "HI_BYTE_SHIFT" "I"]
def wsJ2_indexOfChar_4cfef_r2 : List Cond := [Cond.fieldLink RJ2 63 "java/lang/StringUTF16" "LO_BYTE_SHIFT" "I"]
def wsJ2_indexOfChar_4cfef : List Cond := .code yJ2_indexOfChar_4cfef cJ2_indexOfChar_4cfef 4 (some .int) :: ((wsJ2_indexOfChar_4cfef_r1 ++ wsJ2_indexOfChar_4cfef_r2))
def wsJ11_isValidCodePoint_9a6ad : List Cond := .code yJ11_isValidCodePoint_9a6ad cJ11_isValidCodePoint_9a6ad 2 (some .boolean) :: ([])
def wsJ11_highSurrogate_5068e : List Cond := .code yJ11_highSurrogate_5068e cJ11_highSurrogate_5068e 1 (some .char) :: ([.constant RJ11 110 (55232)])
def wsJ11_lowSurrogate_5068e : List Cond := .code yJ11_lowSurrogate_5068e cJ11_lowSurrogate_5068e 1 (some .char) :: ([.constant RJ11 76 (56320)])
def wsJ2_indexOfSupplementary_4cfef_r1 : List Cond := [Cond.methodLink RJ2 164 yJ11_isValidCodePoint_9a6ad, Cond.static yJ11_isValidCodePoint_9a6ad, Cond.initialized RJ11, Cond.code yJ11_isValidCodePoint_9a6ad cJ11_isValidCodePoint_9a6ad 2 (some .boolean), Cond.methodLink RJ2 157 yJ11_highSurrogate_5068e, Cond.static yJ11_highSurrogate_5068e, Cond.code yJ11_highSurrogate_5068e cJ11_highSurrogate_5068e 1 (some .char), Cond.constant RJ11 110 (55232), Cond.methodLink RJ2 161 yJ11_lowSurrogate_5068e, Cond.static yJ11_lowSurrogate_5068e, Cond.code yJ11_lowSurrogate_5068e cJ11_lowSurrogate_5068e 1 (some .char), Cond.constant RJ11 76 (56320), Cond.methodLink RJ2 96 yJ2_checkBoundsBeginEnd_d044e, Cond.static yJ2_checkBoundsBeginEnd_d044e, Cond.initialized RJ2, Cond.code yJ2_checkBoundsBeginEnd_d044e cJ2_checkBoundsBeginEnd_d044e 3 none, Cond.methodLink RJ2 48 yJ2_length_9d52b, Cond.static yJ2_length_9d52b, Cond.code yJ2_length_9d52b cJ2_length_9d52b 1 (some .int), Cond.methodLink RJ2 241 yJ0_checkBoundsBeginEnd_23922, Cond.static yJ0_checkBoundsBeginEnd_23922, Cond.initialized RJ0, Cond.code yJ0_checkBoundsBeginEnd_23922 cJ0_checkBoundsBeginEnd_23922 3 none, Cond.fieldLink RJ0 1053 "jdk/internal/util/Preconditions" "SIOOBE_FORMATTER" "Ljava/util/function/BiFunction;"]
def wsJ2_indexOfSupplementary_4cfef_r2 : List Cond := [Cond.methodLink RJ0 1062 yJ3_checkFromToIndex_8c36e, Cond.static yJ3_checkFromToIndex_8c36e, Cond.initialized RJ3, Cond.code yJ3_checkFromToIndex_8c36e cJ3_checkFromToIndex_8c36e 4 (some .int), Cond.methodLink RJ2 71 yJ2_getChar_3b067, Cond.static yJ2_getChar_3b067, Cond.code yJ2_getChar_3b067 cJ2_getChar_3b067 2 (some .char), Cond.fieldLink RJ2 44 "java/lang/StringUTF16" "$assertionsDisabled" "Z", Cond.fieldLink RJ2 59 "java/lang/StringUTF16" "HI_BYTE_SHIFT" "I", Cond.fieldLink RJ2 63 "java/lang/StringUTF16" "LO_BYTE_SHIFT" "I"]
def wsJ2_indexOfSupplementary_4cfef : List Cond := .code yJ2_indexOfSupplementary_4cfef cJ2_indexOfSupplementary_4cfef 7 (some .int) :: ((wsJ2_indexOfSupplementary_4cfef_r1 ++ wsJ2_indexOfSupplementary_4cfef_r2))
def wsJ2_indexOf_4cfef_r1 : List Cond := [Cond.methodLink RJ2 224 Lib.Math.max.name, Cond.static Lib.Math.max.name, Cond.initialized "java/lang/Math", Cond.code Lib.Math.max.name Lib.Math.max.code 2 (some .int), Cond.methodLink RJ2 183 Lib.Math.min.name, Cond.static Lib.Math.min.name, Cond.code Lib.Math.min.name Lib.Math.min.code 2 (some .int), Cond.constant RJ2 227 (65536), Cond.methodLink RJ2 228 yJ2_indexOfChar_4cfef, Cond.static yJ2_indexOfChar_4cfef, Cond.initialized RJ2, Cond.code yJ2_indexOfChar_4cfef cJ2_indexOfChar_4cfef 4 (some .int), Cond.methodLink RJ2 96 yJ2_checkBoundsBeginEnd_d044e, Cond.static yJ2_checkBoundsBeginEnd_d044e, Cond.code yJ2_checkBoundsBeginEnd_d044e cJ2_checkBoundsBeginEnd_d044e 3 none, Cond.methodLink RJ2 48 yJ2_length_9d52b, Cond.static yJ2_length_9d52b, Cond.code yJ2_length_9d52b cJ2_length_9d52b 1 (some .int), Cond.methodLink RJ2 241 yJ0_checkBoundsBeginEnd_23922, Cond.static yJ0_checkBoundsBeginEnd_23922, Cond.initialized RJ0, Cond.code yJ0_checkBoundsBeginEnd_23922 cJ0_checkBoundsBeginEnd_23922 3 none, Cond.fieldLink RJ0 1053 "jdk/internal/util/Preconditions" "SIOOBE_FORMATTER" "Ljava/util/function/BiFunction;", Cond.methodLink RJ0 1062 yJ3_checkFromToIndex_8c36e]
def wsJ2_indexOf_4cfef_r2 : List Cond := [Cond.static yJ3_checkFromToIndex_8c36e, Cond.initialized RJ3, Cond.code yJ3_checkFromToIndex_8c36e cJ3_checkFromToIndex_8c36e 4 (some .int), Cond.methodLink RJ2 244 yJ2_indexOfCharUnsafe_4cfef, Cond.static yJ2_indexOfCharUnsafe_4cfef, Cond.code yJ2_indexOfCharUnsafe_4cfef cJ2_indexOfCharUnsafe_4cfef 5 (some .int), Cond.methodLink RJ2 71 yJ2_getChar_3b067, Cond.static yJ2_getChar_3b067, Cond.code yJ2_getChar_3b067 cJ2_getChar_3b067 2 (some .char), Cond.fieldLink RJ2 44 "java/lang/StringUTF16" "$assertionsDisabled" "Z", Cond.fieldLink RJ2 59 "java/lang/StringUTF16" "HI_BYTE_SHIFT" "I", Cond.fieldLink RJ2 63 "java/lang/StringUTF16" "LO_BYTE_SHIFT" "I", Cond.methodLink RJ2 232 yJ2_indexOfSupplementary_4cfef, Cond.static yJ2_indexOfSupplementary_4cfef, Cond.code yJ2_indexOfSupplementary_4cfef cJ2_indexOfSupplementary_4cfef 7 (some .int), Cond.methodLink RJ2 164 yJ11_isValidCodePoint_9a6ad, Cond.static yJ11_isValidCodePoint_9a6ad, Cond.initialized RJ11, Cond.code yJ11_isValidCodePoint_9a6ad cJ11_isValidCodePoint_9a6ad 2 (some .boolean), Cond.methodLink RJ2 157 yJ11_highSurrogate_5068e, Cond.static yJ11_highSurrogate_5068e, Cond.code yJ11_highSurrogate_5068e cJ11_highSurrogate_5068e 1 (some .char), Cond.constant RJ11 110 (55232), Cond.methodLink RJ2 161 yJ11_lowSurrogate_5068e]
def wsJ2_indexOf_4cfef_r3 : List Cond := [Cond.static yJ11_lowSurrogate_5068e, Cond.code yJ11_lowSurrogate_5068e cJ11_lowSurrogate_5068e 1 (some .char), Cond.constant RJ11 76 (56320)]
def wsJ2_indexOf_4cfef : List Cond := .code yJ2_indexOf_4cfef cJ2_indexOf_4cfef 4 (some .int) :: ((wsJ2_indexOf_4cfef_r1 ++ (wsJ2_indexOf_4cfef_r2 ++ wsJ2_indexOf_4cfef_r3)))
def wsJ0_indexOf_7cf53_r1 : List Cond := [Cond.fieldLink RJ0 9 "java/lang/String" "value" "[B", Cond.methodLink RJ0 492 yJ0_isLatin1_aae02, Cond.instanceMethod yJ0_isLatin1_aae02, Cond.selects RJ0 yJ0_isLatin1_aae02 yJ0_isLatin1_aae02, Cond.initialized RJ0, Cond.code yJ0_isLatin1_aae02 cJ0_isLatin1_aae02 1 (some .boolean), Cond.fieldLink RJ0 38 "java/lang/String" "COMPACT_STRINGS" "Z", Cond.fieldLink RJ0 15 "java/lang/String" "coder" "B", Cond.methodLink RJ0 505 yJ0_length_8abf5, Cond.instanceMethod yJ0_length_8abf5, Cond.selects RJ0 yJ0_length_8abf5 yJ0_length_8abf5, Cond.code yJ0_length_8abf5 cJ0_length_8abf5 1 (some .int), Cond.methodLink RJ0 335 yJ0_coder_7d493, Cond.instanceMethod yJ0_coder_7d493, Cond.selects RJ0 yJ0_coder_7d493 yJ0_coder_7d493, Cond.code yJ0_coder_7d493 cJ0_coder_7d493 1 (some .byte), Cond.methodLink RJ0 637 yJ1_indexOf_4cfef, Cond.static yJ1_indexOf_4cfef, Cond.initialized RJ1, Cond.code yJ1_indexOf_4cfef cJ1_indexOf_4cfef 4 (some .int), Cond.methodLink RJ1 92 Lib.Math.max.name, Cond.static Lib.Math.max.name, Cond.initialized "java/lang/Math", Cond.code Lib.Math.max.name Lib.Math.max.code 2 (some .int)]
def wsJ0_indexOf_7cf53_r2 : List Cond := [Cond.methodLink RJ1 38 Lib.Math.min.name, Cond.static Lib.Math.min.name, Cond.code Lib.Math.min.name Lib.Math.min.code 2 (some .int), Cond.methodLink RJ1 88 yJ1_canEncode_9a6ad, Cond.static yJ1_canEncode_9a6ad, Cond.code yJ1_canEncode_9a6ad cJ1_canEncode_9a6ad 1 (some .boolean), Cond.methodLink RJ1 95 yJ1_indexOfChar_4cfef, Cond.static yJ1_indexOfChar_4cfef, Cond.code yJ1_indexOfChar_4cfef cJ1_indexOfChar_4cfef 6 (some .int), Cond.methodLink RJ0 640 yJ2_indexOf_4cfef, Cond.static yJ2_indexOf_4cfef, Cond.initialized RJ2, Cond.code yJ2_indexOf_4cfef cJ2_indexOf_4cfef 4 (some .int), Cond.methodLink RJ2 224 Lib.Math.max.name, Cond.methodLink RJ2 183 Lib.Math.min.name, Cond.constant RJ2 227 (65536), Cond.methodLink RJ2 228 yJ2_indexOfChar_4cfef, Cond.static yJ2_indexOfChar_4cfef, Cond.code yJ2_indexOfChar_4cfef cJ2_indexOfChar_4cfef 4 (some .int), Cond.methodLink RJ2 96 yJ2_checkBoundsBeginEnd_d044e, Cond.static yJ2_checkBoundsBeginEnd_d044e, Cond.code yJ2_checkBoundsBeginEnd_d044e cJ2_checkBoundsBeginEnd_d044e 3 none, Cond.methodLink RJ2 48 yJ2_length_9d52b, Cond.static yJ2_length_9d52b]
def wsJ0_indexOf_7cf53_r3 : List Cond := [Cond.code yJ2_length_9d52b cJ2_length_9d52b 1 (some .int), Cond.methodLink RJ2 241 yJ0_checkBoundsBeginEnd_23922, Cond.static yJ0_checkBoundsBeginEnd_23922, Cond.code yJ0_checkBoundsBeginEnd_23922 cJ0_checkBoundsBeginEnd_23922 3 none, Cond.fieldLink RJ0 1053 "jdk/internal/util/Preconditions" "SIOOBE_FORMATTER" "Ljava/util/function/BiFunction;", Cond.methodLink RJ0 1062 yJ3_checkFromToIndex_8c36e, Cond.static yJ3_checkFromToIndex_8c36e, Cond.initialized RJ3, Cond.code yJ3_checkFromToIndex_8c36e cJ3_checkFromToIndex_8c36e 4 (some .int), Cond.methodLink RJ2 244 yJ2_indexOfCharUnsafe_4cfef, Cond.static yJ2_indexOfCharUnsafe_4cfef, Cond.code yJ2_indexOfCharUnsafe_4cfef cJ2_indexOfCharUnsafe_4cfef 5 (some .int), Cond.methodLink RJ2 71 yJ2_getChar_3b067, Cond.static yJ2_getChar_3b067, Cond.code yJ2_getChar_3b067 cJ2_getChar_3b067 2 (some .char), Cond.fieldLink RJ2 44 "java/lang/StringUTF16" "$assertionsDisabled" "Z", Cond.fieldLink RJ2 59 "java/lang/StringUTF16" "HI_BYTE_SHIFT" "I", Cond.fieldLink RJ2 63 "java/lang/StringUTF16" "LO_BYTE_SHIFT" "I", Cond.methodLink RJ2 232 yJ2_indexOfSupplementary_4cfef, Cond.static yJ2_indexOfSupplementary_4cfef, Cond.code yJ2_indexOfSupplementary_4cfef cJ2_indexOfSupplementary_4cfef 7 (some .int), Cond.methodLink RJ2 164 yJ11_isValidCodePoint_9a6ad, Cond.static yJ11_isValidCodePoint_9a6ad, Cond.initialized RJ11]
def wsJ0_indexOf_7cf53_r4 : List Cond := [Cond.code yJ11_isValidCodePoint_9a6ad cJ11_isValidCodePoint_9a6ad 2 (some .boolean), Cond.methodLink RJ2 157 yJ11_highSurrogate_5068e, Cond.static yJ11_highSurrogate_5068e, Cond.code yJ11_highSurrogate_5068e cJ11_highSurrogate_5068e 1 (some .char), Cond.constant RJ11 110 (55232), Cond.methodLink RJ2 161 yJ11_lowSurrogate_5068e, Cond.static yJ11_lowSurrogate_5068e, Cond.code yJ11_lowSurrogate_5068e cJ11_lowSurrogate_5068e 1 (some .char), Cond.constant RJ11 76 (56320)]
def wsJ0_indexOf_7cf53 : List Cond := .code yJ0_indexOf_7cf53 cJ0_indexOf_7cf53 3 (some .int) :: ((wsJ0_indexOf_7cf53_r1 ++ (wsJ0_indexOf_7cf53_r2 ++ (wsJ0_indexOf_7cf53_r3 ++ wsJ0_indexOf_7cf53_r4))))
def wsJ0_indexOf_0f7a4_r1 : List Cond := [Cond.methodLink RJ0 633 yJ0_indexOf_7cf53, Cond.instanceMethod yJ0_indexOf_7cf53, Cond.selects RJ0 yJ0_indexOf_7cf53 yJ0_indexOf_7cf53, Cond.initialized RJ0, Cond.code yJ0_indexOf_7cf53 cJ0_indexOf_7cf53 3 (some .int), Cond.fieldLink RJ0 9 "java/lang/String" "value" "[B", Cond.methodLink RJ0 492 yJ0_isLatin1_aae02, Cond.instanceMethod yJ0_isLatin1_aae02, Cond.selects RJ0 yJ0_isLatin1_aae02 yJ0_isLatin1_aae02, Cond.code yJ0_isLatin1_aae02 cJ0_isLatin1_aae02 1 (some .boolean), Cond.fieldLink RJ0 38 "java/lang/String" "COMPACT_STRINGS" "Z", Cond.fieldLink RJ0 15 "java/lang/String" "coder" "B", Cond.methodLink RJ0 505 yJ0_length_8abf5, Cond.instanceMethod yJ0_length_8abf5, Cond.selects RJ0 yJ0_length_8abf5 yJ0_length_8abf5, Cond.code yJ0_length_8abf5 cJ0_length_8abf5 1 (some .int), Cond.methodLink RJ0 335 yJ0_coder_7d493, Cond.instanceMethod yJ0_coder_7d493, Cond.selects RJ0 yJ0_coder_7d493 yJ0_coder_7d493, Cond.code yJ0_coder_7d493 cJ0_coder_7d493 1 (some .byte), Cond.methodLink RJ0 637 yJ1_indexOf_4cfef, Cond.static yJ1_indexOf_4cfef, Cond.initialized RJ1, Cond.code yJ1_indexOf_4cfef cJ1_indexOf_4cfef 4 (some .int)]
def wsJ0_indexOf_0f7a4_r2 : List Cond := [Cond.methodLink RJ1 92 Lib.Math.max.name, Cond.static Lib.Math.max.name, Cond.initialized "java/lang/Math", Cond.code Lib.Math.max.name Lib.Math.max.code 2 (some .int), Cond.methodLink RJ1 38 Lib.Math.min.name, Cond.static Lib.Math.min.name, Cond.code Lib.Math.min.name Lib.Math.min.code 2 (some .int), Cond.methodLink RJ1 88 yJ1_canEncode_9a6ad, Cond.static yJ1_canEncode_9a6ad, Cond.code yJ1_canEncode_9a6ad cJ1_canEncode_9a6ad 1 (some .boolean), Cond.methodLink RJ1 95 yJ1_indexOfChar_4cfef, Cond.static yJ1_indexOfChar_4cfef, Cond.code yJ1_indexOfChar_4cfef cJ1_indexOfChar_4cfef 6 (some .int), Cond.methodLink RJ0 640 yJ2_indexOf_4cfef, Cond.static yJ2_indexOf_4cfef, Cond.initialized RJ2, Cond.code yJ2_indexOf_4cfef cJ2_indexOf_4cfef 4 (some .int), Cond.methodLink RJ2 224 Lib.Math.max.name, Cond.methodLink RJ2 183 Lib.Math.min.name, Cond.constant RJ2 227 (65536), Cond.methodLink RJ2 228 yJ2_indexOfChar_4cfef, Cond.static yJ2_indexOfChar_4cfef, Cond.code yJ2_indexOfChar_4cfef cJ2_indexOfChar_4cfef 4 (some .int), Cond.methodLink RJ2 96 yJ2_checkBoundsBeginEnd_d044e]
def wsJ0_indexOf_0f7a4_r3 : List Cond := [Cond.static yJ2_checkBoundsBeginEnd_d044e, Cond.code yJ2_checkBoundsBeginEnd_d044e cJ2_checkBoundsBeginEnd_d044e 3 none, Cond.methodLink RJ2 48 yJ2_length_9d52b, Cond.static yJ2_length_9d52b, Cond.code yJ2_length_9d52b cJ2_length_9d52b 1 (some .int), Cond.methodLink RJ2 241 yJ0_checkBoundsBeginEnd_23922, Cond.static yJ0_checkBoundsBeginEnd_23922, Cond.code yJ0_checkBoundsBeginEnd_23922 cJ0_checkBoundsBeginEnd_23922 3 none, Cond.fieldLink RJ0 1053 "jdk/internal/util/Preconditions" "SIOOBE_FORMATTER" "Ljava/util/function/BiFunction;", Cond.methodLink RJ0 1062 yJ3_checkFromToIndex_8c36e, Cond.static yJ3_checkFromToIndex_8c36e, Cond.initialized RJ3, Cond.code yJ3_checkFromToIndex_8c36e cJ3_checkFromToIndex_8c36e 4 (some .int), Cond.methodLink RJ2 244 yJ2_indexOfCharUnsafe_4cfef, Cond.static yJ2_indexOfCharUnsafe_4cfef, Cond.code yJ2_indexOfCharUnsafe_4cfef cJ2_indexOfCharUnsafe_4cfef 5 (some .int), Cond.methodLink RJ2 71 yJ2_getChar_3b067, Cond.static yJ2_getChar_3b067, Cond.code yJ2_getChar_3b067 cJ2_getChar_3b067 2 (some .char), Cond.fieldLink RJ2 44 "java/lang/StringUTF16" "$assertionsDisabled" "Z", Cond.fieldLink RJ2 59 "java/lang/StringUTF16" "HI_BYTE_SHIFT" "I", Cond.fieldLink RJ2 63 "java/lang/StringUTF16" "LO_BYTE_SHIFT" "I", Cond.methodLink RJ2 232 yJ2_indexOfSupplementary_4cfef, Cond.static yJ2_indexOfSupplementary_4cfef]
def wsJ0_indexOf_0f7a4_r4 : List Cond := [Cond.code yJ2_indexOfSupplementary_4cfef cJ2_indexOfSupplementary_4cfef 7 (some .int), Cond.methodLink RJ2 164 yJ11_isValidCodePoint_9a6ad, Cond.static yJ11_isValidCodePoint_9a6ad, Cond.initialized RJ11, Cond.code yJ11_isValidCodePoint_9a6ad cJ11_isValidCodePoint_9a6ad 2 (some .boolean), Cond.methodLink RJ2 157 yJ11_highSurrogate_5068e, Cond.static yJ11_highSurrogate_5068e, Cond.code yJ11_highSurrogate_5068e cJ11_highSurrogate_5068e 1 (some .char), Cond.constant RJ11 110 (55232), Cond.methodLink RJ2 161 yJ11_lowSurrogate_5068e, Cond.static yJ11_lowSurrogate_5068e, Cond.code yJ11_lowSurrogate_5068e cJ11_lowSurrogate_5068e 1 (some .char), Cond.constant RJ11 76 (56320)]
def wsJ0_indexOf_0f7a4 : List Cond := .code yJ0_indexOf_0f7a4 cJ0_indexOf_0f7a4 2 (some .int) :: ((wsJ0_indexOf_0f7a4_r1 ++ (wsJ0_indexOf_0f7a4_r2 ++ (wsJ0_indexOf_0f7a4_r3 ++ wsJ0_indexOf_0f7a4_r4))))
def wsX6_fitsBehind_r1 : List Cond := [Cond.methodLink RX6 40 yJ0_indexOf_0f7a4, Cond.instanceMethod yJ0_indexOf_0f7a4, Cond.selects RJ0 yJ0_indexOf_0f7a4 yJ0_indexOf_0f7a4, Cond.initialized RJ0, Cond.code yJ0_indexOf_0f7a4 cJ0_indexOf_0f7a4 2 (some .int), Cond.methodLink RJ0 633 yJ0_indexOf_7cf53, Cond.instanceMethod yJ0_indexOf_7cf53, Cond.selects RJ0 yJ0_indexOf_7cf53 yJ0_indexOf_7cf53, Cond.code yJ0_indexOf_7cf53 cJ0_indexOf_7cf53 3 (some .int), Cond.fieldLink RJ0 9 "java/lang/String" "value" "[B", Cond.methodLink RJ0 492 yJ0_isLatin1_aae02, Cond.instanceMethod yJ0_isLatin1_aae02, Cond.selects RJ0 yJ0_isLatin1_aae02 yJ0_isLatin1_aae02, Cond.code yJ0_isLatin1_aae02 cJ0_isLatin1_aae02 1 (some .boolean), Cond.fieldLink RJ0 38 "java/lang/String" "COMPACT_STRINGS" "Z", Cond.fieldLink RJ0 15 "java/lang/String" "coder" "B", Cond.methodLink RJ0 505 yJ0_length_8abf5, Cond.instanceMethod yJ0_length_8abf5, Cond.selects RJ0 yJ0_length_8abf5 yJ0_length_8abf5, Cond.code yJ0_length_8abf5 cJ0_length_8abf5 1 (some .int), Cond.methodLink RJ0 335 yJ0_coder_7d493, Cond.instanceMethod yJ0_coder_7d493, Cond.selects RJ0 yJ0_coder_7d493 yJ0_coder_7d493, Cond.code yJ0_coder_7d493 cJ0_coder_7d493 1 (some .byte)]
def wsX6_fitsBehind_r2 : List Cond := [Cond.methodLink RJ0 637 yJ1_indexOf_4cfef, Cond.static yJ1_indexOf_4cfef, Cond.initialized RJ1, Cond.code yJ1_indexOf_4cfef cJ1_indexOf_4cfef 4 (some .int), Cond.methodLink RJ1 92 Lib.Math.max.name, Cond.static Lib.Math.max.name, Cond.initialized "java/lang/Math", Cond.code Lib.Math.max.name Lib.Math.max.code 2 (some .int), Cond.methodLink RJ1 38 Lib.Math.min.name, Cond.static Lib.Math.min.name, Cond.code Lib.Math.min.name Lib.Math.min.code 2 (some .int), Cond.methodLink RJ1 88 yJ1_canEncode_9a6ad, Cond.static yJ1_canEncode_9a6ad, Cond.code yJ1_canEncode_9a6ad cJ1_canEncode_9a6ad 1 (some .boolean), Cond.methodLink RJ1 95 yJ1_indexOfChar_4cfef, Cond.static yJ1_indexOfChar_4cfef, Cond.code yJ1_indexOfChar_4cfef cJ1_indexOfChar_4cfef 6 (some .int), Cond.methodLink RJ0 640 yJ2_indexOf_4cfef, Cond.static yJ2_indexOf_4cfef, Cond.initialized RJ2, Cond.code yJ2_indexOf_4cfef cJ2_indexOf_4cfef 4 (some .int), Cond.methodLink RJ2 224 Lib.Math.max.name, Cond.methodLink RJ2 183 Lib.Math.min.name, Cond.constant RJ2 227 (65536)]
def wsX6_fitsBehind_r3 : List Cond := [Cond.methodLink RJ2 228 yJ2_indexOfChar_4cfef, Cond.static yJ2_indexOfChar_4cfef, Cond.code yJ2_indexOfChar_4cfef cJ2_indexOfChar_4cfef 4 (some .int), Cond.methodLink RJ2 96 yJ2_checkBoundsBeginEnd_d044e, Cond.static yJ2_checkBoundsBeginEnd_d044e, Cond.code yJ2_checkBoundsBeginEnd_d044e cJ2_checkBoundsBeginEnd_d044e 3 none, Cond.methodLink RJ2 48 yJ2_length_9d52b, Cond.static yJ2_length_9d52b, Cond.code yJ2_length_9d52b cJ2_length_9d52b 1 (some .int), Cond.methodLink RJ2 241 yJ0_checkBoundsBeginEnd_23922, Cond.static yJ0_checkBoundsBeginEnd_23922, Cond.code yJ0_checkBoundsBeginEnd_23922 cJ0_checkBoundsBeginEnd_23922 3 none, Cond.fieldLink RJ0 1053 "jdk/internal/util/Preconditions" "SIOOBE_FORMATTER" "Ljava/util/function/BiFunction;", Cond.methodLink RJ0 1062 yJ3_checkFromToIndex_8c36e, Cond.static yJ3_checkFromToIndex_8c36e, Cond.initialized RJ3, Cond.code yJ3_checkFromToIndex_8c36e cJ3_checkFromToIndex_8c36e 4 (some .int), Cond.methodLink RJ2 244 yJ2_indexOfCharUnsafe_4cfef, Cond.static yJ2_indexOfCharUnsafe_4cfef, Cond.code yJ2_indexOfCharUnsafe_4cfef cJ2_indexOfCharUnsafe_4cfef 5 (some .int), Cond.methodLink RJ2 71 yJ2_getChar_3b067, Cond.static yJ2_getChar_3b067, Cond.code yJ2_getChar_3b067 cJ2_getChar_3b067 2 (some .char), Cond.fieldLink RJ2 44 "java/lang/StringUTF16" "$assertionsDisabled" "Z"]
def wsX6_fitsBehind_r4 : List Cond := [Cond.fieldLink RJ2 59 "java/lang/StringUTF16" "HI_BYTE_SHIFT" "I", Cond.fieldLink RJ2 63 "java/lang/StringUTF16" "LO_BYTE_SHIFT" "I", Cond.methodLink RJ2 232 yJ2_indexOfSupplementary_4cfef, Cond.static yJ2_indexOfSupplementary_4cfef, Cond.code yJ2_indexOfSupplementary_4cfef cJ2_indexOfSupplementary_4cfef 7 (some .int), Cond.methodLink RJ2 164 yJ11_isValidCodePoint_9a6ad, Cond.static yJ11_isValidCodePoint_9a6ad, Cond.initialized RJ11, Cond.code yJ11_isValidCodePoint_9a6ad cJ11_isValidCodePoint_9a6ad 2 (some .boolean), Cond.methodLink RJ2 157 yJ11_highSurrogate_5068e, Cond.static yJ11_highSurrogate_5068e, Cond.code yJ11_highSurrogate_5068e cJ11_highSurrogate_5068e 1 (some .char), Cond.constant RJ11 110 (55232), Cond.methodLink RJ2 161 yJ11_lowSurrogate_5068e, Cond.static yJ11_lowSurrogate_5068e, Cond.code yJ11_lowSurrogate_5068e cJ11_lowSurrogate_5068e 1 (some .char), Cond.constant RJ11 76 (56320)]
def wsX6_fitsBehind : List Cond := .code yX6_fitsBehind cX6_fitsBehind 2 (some .boolean) :: ((wsX6_fitsBehind_r1 ++ (wsX6_fitsBehind_r2 ++ (wsX6_fitsBehind_r3 ++ wsX6_fitsBehind_r4))))
def wsX6_fitsThings_r1 : List Cond := [Cond.methodLink RX6 40 yJ0_indexOf_0f7a4, Cond.instanceMethod yJ0_indexOf_0f7a4, Cond.selects RJ0 yJ0_indexOf_0f7a4 yJ0_indexOf_0f7a4, Cond.initialized RJ0, Cond.code yJ0_indexOf_0f7a4 cJ0_indexOf_0f7a4 2 (some .int), Cond.methodLink RJ0 633 yJ0_indexOf_7cf53, Cond.instanceMethod yJ0_indexOf_7cf53, Cond.selects RJ0 yJ0_indexOf_7cf53 yJ0_indexOf_7cf53, Cond.code yJ0_indexOf_7cf53 cJ0_indexOf_7cf53 3 (some .int), Cond.fieldLink RJ0 9 "java/lang/String" "value" "[B", Cond.methodLink RJ0 492 yJ0_isLatin1_aae02, Cond.instanceMethod yJ0_isLatin1_aae02, Cond.selects RJ0 yJ0_isLatin1_aae02 yJ0_isLatin1_aae02, Cond.code yJ0_isLatin1_aae02 cJ0_isLatin1_aae02 1 (some .boolean), Cond.fieldLink RJ0 38 "java/lang/String" "COMPACT_STRINGS" "Z", Cond.fieldLink RJ0 15 "java/lang/String" "coder" "B", Cond.methodLink RJ0 505 yJ0_length_8abf5, Cond.instanceMethod yJ0_length_8abf5, Cond.selects RJ0 yJ0_length_8abf5 yJ0_length_8abf5, Cond.code yJ0_length_8abf5 cJ0_length_8abf5 1 (some .int), Cond.methodLink RJ0 335 yJ0_coder_7d493, Cond.instanceMethod yJ0_coder_7d493, Cond.selects RJ0 yJ0_coder_7d493 yJ0_coder_7d493, Cond.code yJ0_coder_7d493 cJ0_coder_7d493 1 (some .byte)]
def wsX6_fitsThings_r2 : List Cond := [Cond.methodLink RJ0 637 yJ1_indexOf_4cfef, Cond.static yJ1_indexOf_4cfef, Cond.initialized RJ1, Cond.code yJ1_indexOf_4cfef cJ1_indexOf_4cfef 4 (some .int), Cond.methodLink RJ1 92 Lib.Math.max.name, Cond.static Lib.Math.max.name, Cond.initialized "java/lang/Math", Cond.code Lib.Math.max.name Lib.Math.max.code 2 (some .int), Cond.methodLink RJ1 38 Lib.Math.min.name, Cond.static Lib.Math.min.name, Cond.code Lib.Math.min.name Lib.Math.min.code 2 (some .int), Cond.methodLink RJ1 88 yJ1_canEncode_9a6ad, Cond.static yJ1_canEncode_9a6ad, Cond.code yJ1_canEncode_9a6ad cJ1_canEncode_9a6ad 1 (some .boolean), Cond.methodLink RJ1 95 yJ1_indexOfChar_4cfef, Cond.static yJ1_indexOfChar_4cfef, Cond.code yJ1_indexOfChar_4cfef cJ1_indexOfChar_4cfef 6 (some .int), Cond.methodLink RJ0 640 yJ2_indexOf_4cfef, Cond.static yJ2_indexOf_4cfef, Cond.initialized RJ2, Cond.code yJ2_indexOf_4cfef cJ2_indexOf_4cfef 4 (some .int), Cond.methodLink RJ2 224 Lib.Math.max.name, Cond.methodLink RJ2 183 Lib.Math.min.name, Cond.constant RJ2 227 (65536)]
def wsX6_fitsThings_r3 : List Cond := [Cond.methodLink RJ2 228 yJ2_indexOfChar_4cfef, Cond.static yJ2_indexOfChar_4cfef, Cond.code yJ2_indexOfChar_4cfef cJ2_indexOfChar_4cfef 4 (some .int), Cond.methodLink RJ2 96 yJ2_checkBoundsBeginEnd_d044e, Cond.static yJ2_checkBoundsBeginEnd_d044e, Cond.code yJ2_checkBoundsBeginEnd_d044e cJ2_checkBoundsBeginEnd_d044e 3 none, Cond.methodLink RJ2 48 yJ2_length_9d52b, Cond.static yJ2_length_9d52b, Cond.code yJ2_length_9d52b cJ2_length_9d52b 1 (some .int), Cond.methodLink RJ2 241 yJ0_checkBoundsBeginEnd_23922, Cond.static yJ0_checkBoundsBeginEnd_23922, Cond.code yJ0_checkBoundsBeginEnd_23922 cJ0_checkBoundsBeginEnd_23922 3 none, Cond.fieldLink RJ0 1053 "jdk/internal/util/Preconditions" "SIOOBE_FORMATTER" "Ljava/util/function/BiFunction;", Cond.methodLink RJ0 1062 yJ3_checkFromToIndex_8c36e, Cond.static yJ3_checkFromToIndex_8c36e, Cond.initialized RJ3, Cond.code yJ3_checkFromToIndex_8c36e cJ3_checkFromToIndex_8c36e 4 (some .int), Cond.methodLink RJ2 244 yJ2_indexOfCharUnsafe_4cfef, Cond.static yJ2_indexOfCharUnsafe_4cfef, Cond.code yJ2_indexOfCharUnsafe_4cfef cJ2_indexOfCharUnsafe_4cfef 5 (some .int), Cond.methodLink RJ2 71 yJ2_getChar_3b067, Cond.static yJ2_getChar_3b067, Cond.code yJ2_getChar_3b067 cJ2_getChar_3b067 2 (some .char), Cond.fieldLink RJ2 44 "java/lang/StringUTF16" "$assertionsDisabled" "Z"]
def wsX6_fitsThings_r4 : List Cond := [Cond.fieldLink RJ2 59 "java/lang/StringUTF16" "HI_BYTE_SHIFT" "I", Cond.fieldLink RJ2 63 "java/lang/StringUTF16" "LO_BYTE_SHIFT" "I", Cond.methodLink RJ2 232 yJ2_indexOfSupplementary_4cfef, Cond.static yJ2_indexOfSupplementary_4cfef, Cond.code yJ2_indexOfSupplementary_4cfef cJ2_indexOfSupplementary_4cfef 7 (some .int), Cond.methodLink RJ2 164 yJ11_isValidCodePoint_9a6ad, Cond.static yJ11_isValidCodePoint_9a6ad, Cond.initialized RJ11, Cond.code yJ11_isValidCodePoint_9a6ad cJ11_isValidCodePoint_9a6ad 2 (some .boolean), Cond.methodLink RJ2 157 yJ11_highSurrogate_5068e, Cond.static yJ11_highSurrogate_5068e, Cond.code yJ11_highSurrogate_5068e cJ11_highSurrogate_5068e 1 (some .char), Cond.constant RJ11 110 (55232), Cond.methodLink RJ2 161 yJ11_lowSurrogate_5068e, Cond.static yJ11_lowSurrogate_5068e, Cond.code yJ11_lowSurrogate_5068e cJ11_lowSurrogate_5068e 1 (some .char), Cond.constant RJ11 76 (56320)]
def wsX6_fitsThings : List Cond := .code yX6_fitsThings cX6_fitsThings 4 (some .boolean) :: ((wsX6_fitsThings_r1 ++ (wsX6_fitsThings_r2 ++ (wsX6_fitsThings_r3 ++ wsX6_fitsThings_r4))))
def wsX6_faultPlace_r1 : List Cond := [Cond.fieldLink RX6 15 "KingdomAtDice$Page" "length" "I", Cond.methodLink RX6 27 yX6_codeAt, Cond.instanceMethod yX6_codeAt, Cond.selects RX6 yX6_codeAt yX6_codeAt, Cond.initialized RX6, Cond.code yX6_codeAt cX6_codeAt 2 (some .int), Cond.fieldLink RX6 9 "KingdomAtDice$Page" "codes" "[I", Cond.static yX10_isBelow, Cond.initialized RX10, Cond.code yX10_isBelow cX10_isBelow 2 (some .boolean), Cond.methodLink RX6 31 yX6_fitsBehind, Cond.static yX6_fitsBehind, Cond.code yX6_fitsBehind cX6_fitsBehind 2 (some .boolean), Cond.methodLink RX6 40 yJ0_indexOf_0f7a4, Cond.instanceMethod yJ0_indexOf_0f7a4, Cond.selects RJ0 yJ0_indexOf_0f7a4 yJ0_indexOf_0f7a4, Cond.initialized RJ0, Cond.code yJ0_indexOf_0f7a4 cJ0_indexOf_0f7a4 2 (some .int), Cond.methodLink RJ0 633 yJ0_indexOf_7cf53, Cond.instanceMethod yJ0_indexOf_7cf53, Cond.selects RJ0 yJ0_indexOf_7cf53 yJ0_indexOf_7cf53, Cond.code yJ0_indexOf_7cf53 cJ0_indexOf_7cf53 3 (some .int), Cond.fieldLink RJ0 9 "java/lang/String" "value" "[B", Cond.methodLink RJ0 492 yJ0_isLatin1_aae02]
def wsX6_faultPlace_r2 : List Cond := [Cond.instanceMethod yJ0_isLatin1_aae02, Cond.selects RJ0 yJ0_isLatin1_aae02 yJ0_isLatin1_aae02, Cond.code yJ0_isLatin1_aae02 cJ0_isLatin1_aae02 1 (some .boolean), Cond.fieldLink RJ0 38 "java/lang/String" "COMPACT_STRINGS" "Z", Cond.fieldLink RJ0 15 "java/lang/String" "coder" "B", Cond.methodLink RJ0 505 yJ0_length_8abf5, Cond.instanceMethod yJ0_length_8abf5, Cond.selects RJ0 yJ0_length_8abf5 yJ0_length_8abf5, Cond.code yJ0_length_8abf5 cJ0_length_8abf5 1 (some .int), Cond.methodLink RJ0 335 yJ0_coder_7d493, Cond.instanceMethod yJ0_coder_7d493, Cond.selects RJ0 yJ0_coder_7d493 yJ0_coder_7d493, Cond.code yJ0_coder_7d493 cJ0_coder_7d493 1 (some .byte), Cond.methodLink RJ0 637 yJ1_indexOf_4cfef, Cond.static yJ1_indexOf_4cfef, Cond.initialized RJ1, Cond.code yJ1_indexOf_4cfef cJ1_indexOf_4cfef 4 (some .int), Cond.methodLink RJ1 92 Lib.Math.max.name, Cond.static Lib.Math.max.name, Cond.initialized "java/lang/Math", Cond.code Lib.Math.max.name Lib.Math.max.code 2 (some .int), Cond.methodLink RJ1 38 Lib.Math.min.name, Cond.static Lib.Math.min.name, Cond.code Lib.Math.min.name Lib.Math.min.code 2 (some .int)]
def wsX6_faultPlace_r3 : List Cond := [Cond.methodLink RJ1 88 yJ1_canEncode_9a6ad, Cond.static yJ1_canEncode_9a6ad, Cond.code yJ1_canEncode_9a6ad cJ1_canEncode_9a6ad 1 (some .boolean), Cond.methodLink RJ1 95 yJ1_indexOfChar_4cfef, Cond.static yJ1_indexOfChar_4cfef, Cond.code yJ1_indexOfChar_4cfef cJ1_indexOfChar_4cfef 6 (some .int), Cond.methodLink RJ0 640 yJ2_indexOf_4cfef, Cond.static yJ2_indexOf_4cfef, Cond.initialized RJ2, Cond.code yJ2_indexOf_4cfef cJ2_indexOf_4cfef 4 (some .int), Cond.methodLink RJ2 224 Lib.Math.max.name, Cond.methodLink RJ2 183 Lib.Math.min.name, Cond.constant RJ2 227 (65536), Cond.methodLink RJ2 228 yJ2_indexOfChar_4cfef, Cond.static yJ2_indexOfChar_4cfef, Cond.code yJ2_indexOfChar_4cfef cJ2_indexOfChar_4cfef 4 (some .int), Cond.methodLink RJ2 96 yJ2_checkBoundsBeginEnd_d044e, Cond.static yJ2_checkBoundsBeginEnd_d044e, Cond.code yJ2_checkBoundsBeginEnd_d044e cJ2_checkBoundsBeginEnd_d044e 3 none, Cond.methodLink RJ2 48 yJ2_length_9d52b, Cond.static yJ2_length_9d52b, Cond.code yJ2_length_9d52b cJ2_length_9d52b 1 (some .int), Cond.methodLink RJ2 241 yJ0_checkBoundsBeginEnd_23922, Cond.static yJ0_checkBoundsBeginEnd_23922]
def wsX6_faultPlace_r4 : List Cond := [Cond.code yJ0_checkBoundsBeginEnd_23922 cJ0_checkBoundsBeginEnd_23922 3 none, Cond.fieldLink RJ0 1053 "jdk/internal/util/Preconditions" "SIOOBE_FORMATTER" "Ljava/util/function/BiFunction;", Cond.methodLink RJ0 1062 yJ3_checkFromToIndex_8c36e, Cond.static yJ3_checkFromToIndex_8c36e, Cond.initialized RJ3, Cond.code yJ3_checkFromToIndex_8c36e cJ3_checkFromToIndex_8c36e 4 (some .int), Cond.methodLink RJ2 244 yJ2_indexOfCharUnsafe_4cfef, Cond.static yJ2_indexOfCharUnsafe_4cfef, Cond.code yJ2_indexOfCharUnsafe_4cfef cJ2_indexOfCharUnsafe_4cfef 5 (some .int), Cond.methodLink RJ2 71 yJ2_getChar_3b067, Cond.static yJ2_getChar_3b067, Cond.code yJ2_getChar_3b067 cJ2_getChar_3b067 2 (some .char), Cond.fieldLink RJ2 44 "java/lang/StringUTF16" "$assertionsDisabled" "Z", Cond.fieldLink RJ2 59 "java/lang/StringUTF16" "HI_BYTE_SHIFT" "I", Cond.fieldLink RJ2 63 "java/lang/StringUTF16" "LO_BYTE_SHIFT" "I", Cond.methodLink RJ2 232 yJ2_indexOfSupplementary_4cfef, Cond.static yJ2_indexOfSupplementary_4cfef, Cond.code yJ2_indexOfSupplementary_4cfef cJ2_indexOfSupplementary_4cfef 7 (some .int), Cond.methodLink RJ2 164 yJ11_isValidCodePoint_9a6ad, Cond.static yJ11_isValidCodePoint_9a6ad, Cond.initialized RJ11, Cond.code yJ11_isValidCodePoint_9a6ad cJ11_isValidCodePoint_9a6ad 2 (some .boolean), Cond.methodLink RJ2 157 yJ11_highSurrogate_5068e, Cond.static yJ11_highSurrogate_5068e]
def wsX6_faultPlace_r5 : List Cond := [Cond.code yJ11_highSurrogate_5068e cJ11_highSurrogate_5068e 1 (some .char), Cond.constant RJ11 110 (55232), Cond.methodLink RJ2 161 yJ11_lowSurrogate_5068e, Cond.static yJ11_lowSurrogate_5068e, Cond.code yJ11_lowSurrogate_5068e cJ11_lowSurrogate_5068e 1 (some .char), Cond.constant RJ11 76 (56320), Cond.methodLink RX6 34 yX6_fitsThings, Cond.static yX6_fitsThings, Cond.code yX6_fitsThings cX6_fitsThings 4 (some .boolean)]
def wsX6_faultPlace : List Cond := .code yX6_faultPlace cX6_faultPlace 5 (some .int) :: ((wsX6_faultPlace_r1 ++ (wsX6_faultPlace_r2 ++ (wsX6_faultPlace_r3 ++ (wsX6_faultPlace_r4 ++ wsX6_faultPlace_r5)))) ++ wsX60)
def wsX6_isHall_r1 : List Cond := [Cond.fieldLink RX6 15 "KingdomAtDice$Page" "length" "I", Cond.methodLink RX6 27 yX6_codeAt, Cond.instanceMethod yX6_codeAt, Cond.selects RX6 yX6_codeAt yX6_codeAt, Cond.initialized RX6, Cond.code yX6_codeAt cX6_codeAt 2 (some .int), Cond.fieldLink RX6 9 "KingdomAtDice$Page" "codes" "[I", Cond.static yX10_isBelow, Cond.initialized RX10, Cond.code yX10_isBelow cX10_isBelow 2 (some .boolean), Cond.methodLink RX6 47 yX6_faultPlace, Cond.instanceMethod yX6_faultPlace, Cond.selects RX6 yX6_faultPlace yX6_faultPlace, Cond.code yX6_faultPlace cX6_faultPlace 5 (some .int), Cond.methodLink RX6 31 yX6_fitsBehind, Cond.static yX6_fitsBehind, Cond.code yX6_fitsBehind cX6_fitsBehind 2 (some .boolean), Cond.methodLink RX6 40 yJ0_indexOf_0f7a4, Cond.instanceMethod yJ0_indexOf_0f7a4, Cond.selects RJ0 yJ0_indexOf_0f7a4 yJ0_indexOf_0f7a4, Cond.initialized RJ0, Cond.code yJ0_indexOf_0f7a4 cJ0_indexOf_0f7a4 2 (some .int), Cond.methodLink RJ0 633 yJ0_indexOf_7cf53, Cond.instanceMethod yJ0_indexOf_7cf53]
def wsX6_isHall_r2 : List Cond := [Cond.selects RJ0 yJ0_indexOf_7cf53 yJ0_indexOf_7cf53, Cond.code yJ0_indexOf_7cf53 cJ0_indexOf_7cf53 3 (some .int), Cond.fieldLink RJ0 9 "java/lang/String" "value" "[B", Cond.methodLink RJ0 492 yJ0_isLatin1_aae02, Cond.instanceMethod yJ0_isLatin1_aae02, Cond.selects RJ0 yJ0_isLatin1_aae02 yJ0_isLatin1_aae02, Cond.code yJ0_isLatin1_aae02 cJ0_isLatin1_aae02 1 (some .boolean), Cond.fieldLink RJ0 38 "java/lang/String" "COMPACT_STRINGS" "Z", Cond.fieldLink RJ0 15 "java/lang/String" "coder" "B", Cond.methodLink RJ0 505 yJ0_length_8abf5, Cond.instanceMethod yJ0_length_8abf5, Cond.selects RJ0 yJ0_length_8abf5 yJ0_length_8abf5, Cond.code yJ0_length_8abf5 cJ0_length_8abf5 1 (some .int), Cond.methodLink RJ0 335 yJ0_coder_7d493, Cond.instanceMethod yJ0_coder_7d493, Cond.selects RJ0 yJ0_coder_7d493 yJ0_coder_7d493, Cond.code yJ0_coder_7d493 cJ0_coder_7d493 1 (some .byte), Cond.methodLink RJ0 637 yJ1_indexOf_4cfef, Cond.static yJ1_indexOf_4cfef, Cond.initialized RJ1, Cond.code yJ1_indexOf_4cfef cJ1_indexOf_4cfef 4 (some .int), Cond.methodLink RJ1 92 Lib.Math.max.name, Cond.static Lib.Math.max.name, Cond.initialized "java/lang/Math"]
def wsX6_isHall_r3 : List Cond := [Cond.code Lib.Math.max.name Lib.Math.max.code 2 (some .int), Cond.methodLink RJ1 38 Lib.Math.min.name, Cond.static Lib.Math.min.name, Cond.code Lib.Math.min.name Lib.Math.min.code 2 (some .int), Cond.methodLink RJ1 88 yJ1_canEncode_9a6ad, Cond.static yJ1_canEncode_9a6ad, Cond.code yJ1_canEncode_9a6ad cJ1_canEncode_9a6ad 1 (some .boolean), Cond.methodLink RJ1 95 yJ1_indexOfChar_4cfef, Cond.static yJ1_indexOfChar_4cfef, Cond.code yJ1_indexOfChar_4cfef cJ1_indexOfChar_4cfef 6 (some .int), Cond.methodLink RJ0 640 yJ2_indexOf_4cfef, Cond.static yJ2_indexOf_4cfef, Cond.initialized RJ2, Cond.code yJ2_indexOf_4cfef cJ2_indexOf_4cfef 4 (some .int), Cond.methodLink RJ2 224 Lib.Math.max.name, Cond.methodLink RJ2 183 Lib.Math.min.name, Cond.constant RJ2 227 (65536), Cond.methodLink RJ2 228 yJ2_indexOfChar_4cfef, Cond.static yJ2_indexOfChar_4cfef, Cond.code yJ2_indexOfChar_4cfef cJ2_indexOfChar_4cfef 4 (some .int), Cond.methodLink RJ2 96 yJ2_checkBoundsBeginEnd_d044e, Cond.static yJ2_checkBoundsBeginEnd_d044e, Cond.code yJ2_checkBoundsBeginEnd_d044e cJ2_checkBoundsBeginEnd_d044e 3 none, Cond.methodLink RJ2 48 yJ2_length_9d52b]
def wsX6_isHall_r4 : List Cond := [Cond.static yJ2_length_9d52b, Cond.code yJ2_length_9d52b cJ2_length_9d52b 1 (some .int), Cond.methodLink RJ2 241 yJ0_checkBoundsBeginEnd_23922, Cond.static yJ0_checkBoundsBeginEnd_23922, Cond.code yJ0_checkBoundsBeginEnd_23922 cJ0_checkBoundsBeginEnd_23922 3 none, Cond.fieldLink RJ0 1053 "jdk/internal/util/Preconditions" "SIOOBE_FORMATTER" "Ljava/util/function/BiFunction;", Cond.methodLink RJ0 1062 yJ3_checkFromToIndex_8c36e, Cond.static yJ3_checkFromToIndex_8c36e, Cond.initialized RJ3, Cond.code yJ3_checkFromToIndex_8c36e cJ3_checkFromToIndex_8c36e 4 (some .int), Cond.methodLink RJ2 244 yJ2_indexOfCharUnsafe_4cfef, Cond.static yJ2_indexOfCharUnsafe_4cfef, Cond.code yJ2_indexOfCharUnsafe_4cfef cJ2_indexOfCharUnsafe_4cfef 5 (some .int), Cond.methodLink RJ2 71 yJ2_getChar_3b067, Cond.static yJ2_getChar_3b067, Cond.code yJ2_getChar_3b067 cJ2_getChar_3b067 2 (some .char), Cond.fieldLink RJ2 44 "java/lang/StringUTF16" "$assertionsDisabled" "Z", Cond.fieldLink RJ2 59 "java/lang/StringUTF16" "HI_BYTE_SHIFT" "I", Cond.fieldLink RJ2 63 "java/lang/StringUTF16" "LO_BYTE_SHIFT" "I", Cond.methodLink RJ2 232 yJ2_indexOfSupplementary_4cfef, Cond.static yJ2_indexOfSupplementary_4cfef, Cond.code yJ2_indexOfSupplementary_4cfef cJ2_indexOfSupplementary_4cfef 7 (some .int), Cond.methodLink RJ2 164 yJ11_isValidCodePoint_9a6ad, Cond.static yJ11_isValidCodePoint_9a6ad]
def wsX6_isHall_r5 : List Cond := [Cond.initialized RJ11, Cond.code yJ11_isValidCodePoint_9a6ad cJ11_isValidCodePoint_9a6ad 2 (some .boolean), Cond.methodLink RJ2 157 yJ11_highSurrogate_5068e, Cond.static yJ11_highSurrogate_5068e, Cond.code yJ11_highSurrogate_5068e cJ11_highSurrogate_5068e 1 (some .char), Cond.constant RJ11 110 (55232), Cond.methodLink RJ2 161 yJ11_lowSurrogate_5068e, Cond.static yJ11_lowSurrogate_5068e, Cond.code yJ11_lowSurrogate_5068e cJ11_lowSurrogate_5068e 1 (some .char), Cond.constant RJ11 76 (56320), Cond.methodLink RX6 34 yX6_fitsThings, Cond.static yX6_fitsThings, Cond.code yX6_fitsThings cX6_fitsThings 4 (some .boolean)]
def wsX6_isHall : List Cond := .code yX6_isHall cX6_isHall 1 (some .boolean) :: ((wsX6_isHall_r1 ++ (wsX6_isHall_r2 ++ (wsX6_isHall_r3 ++ (wsX6_isHall_r4 ++ wsX6_isHall_r5)))) ++ wsX60)
def wsX6_hallThings : List Cond := .code yX6_hallThings cX6_hallThings 1 (some .int) :: ([.fieldLink RX6 15 "KingdomAtDice$Page" "length" "I"] ++ wsX60)
def wsX6_hallSort_r1 : List Cond := [Cond.methodLink RX6 27 yX6_codeAt, Cond.instanceMethod yX6_codeAt, Cond.selects RX6 yX6_codeAt yX6_codeAt, Cond.initialized RX6, Cond.code yX6_codeAt cX6_codeAt 2 (some .int), Cond.fieldLink RX6 15 "KingdomAtDice$Page" "length" "I", Cond.fieldLink RX6 9 "KingdomAtDice$Page" "codes" "[I", Cond.static yX10_isBelow, Cond.initialized RX10, Cond.code yX10_isBelow cX10_isBelow 2 (some .boolean), Cond.methodLink RX6 40 yJ0_indexOf_0f7a4, Cond.instanceMethod yJ0_indexOf_0f7a4, Cond.selects RJ0 yJ0_indexOf_0f7a4 yJ0_indexOf_0f7a4, Cond.initialized RJ0, Cond.code yJ0_indexOf_0f7a4 cJ0_indexOf_0f7a4 2 (some .int), Cond.methodLink RJ0 633 yJ0_indexOf_7cf53, Cond.instanceMethod yJ0_indexOf_7cf53, Cond.selects RJ0 yJ0_indexOf_7cf53 yJ0_indexOf_7cf53, Cond.code yJ0_indexOf_7cf53 cJ0_indexOf_7cf53 3 (some .int), Cond.fieldLink RJ0 9 "java/lang/String" "value" "[B", Cond.methodLink RJ0 492 yJ0_isLatin1_aae02, Cond.instanceMethod yJ0_isLatin1_aae02, Cond.selects RJ0 yJ0_isLatin1_aae02 yJ0_isLatin1_aae02, Cond.code yJ0_isLatin1_aae02 cJ0_isLatin1_aae02 1 (some .boolean)]
def wsX6_hallSort_r2 : List Cond := [Cond.fieldLink RJ0 38 "java/lang/String" "COMPACT_STRINGS" "Z", Cond.fieldLink RJ0 15 "java/lang/String" "coder" "B", Cond.methodLink RJ0 505 yJ0_length_8abf5, Cond.instanceMethod yJ0_length_8abf5, Cond.selects RJ0 yJ0_length_8abf5 yJ0_length_8abf5, Cond.code yJ0_length_8abf5 cJ0_length_8abf5 1 (some .int), Cond.methodLink RJ0 335 yJ0_coder_7d493, Cond.instanceMethod yJ0_coder_7d493, Cond.selects RJ0 yJ0_coder_7d493 yJ0_coder_7d493, Cond.code yJ0_coder_7d493 cJ0_coder_7d493 1 (some .byte), Cond.methodLink RJ0 637 yJ1_indexOf_4cfef, Cond.static yJ1_indexOf_4cfef, Cond.initialized RJ1, Cond.code yJ1_indexOf_4cfef cJ1_indexOf_4cfef 4 (some .int), Cond.methodLink RJ1 92 Lib.Math.max.name, Cond.static Lib.Math.max.name, Cond.initialized "java/lang/Math", Cond.code Lib.Math.max.name Lib.Math.max.code 2 (some .int), Cond.methodLink RJ1 38 Lib.Math.min.name, Cond.static Lib.Math.min.name, Cond.code Lib.Math.min.name Lib.Math.min.code 2 (some .int), Cond.methodLink RJ1 88 yJ1_canEncode_9a6ad, Cond.static yJ1_canEncode_9a6ad, Cond.code yJ1_canEncode_9a6ad cJ1_canEncode_9a6ad 1 (some .boolean)]
def wsX6_hallSort_r3 : List Cond := [Cond.methodLink RJ1 95 yJ1_indexOfChar_4cfef, Cond.static yJ1_indexOfChar_4cfef, Cond.code yJ1_indexOfChar_4cfef cJ1_indexOfChar_4cfef 6 (some .int), Cond.methodLink RJ0 640 yJ2_indexOf_4cfef, Cond.static yJ2_indexOf_4cfef, Cond.initialized RJ2, Cond.code yJ2_indexOf_4cfef cJ2_indexOf_4cfef 4 (some .int), Cond.methodLink RJ2 224 Lib.Math.max.name, Cond.methodLink RJ2 183 Lib.Math.min.name, Cond.constant RJ2 227 (65536), Cond.methodLink RJ2 228 yJ2_indexOfChar_4cfef, Cond.static yJ2_indexOfChar_4cfef, Cond.code yJ2_indexOfChar_4cfef cJ2_indexOfChar_4cfef 4 (some .int), Cond.methodLink RJ2 96 yJ2_checkBoundsBeginEnd_d044e, Cond.static yJ2_checkBoundsBeginEnd_d044e, Cond.code yJ2_checkBoundsBeginEnd_d044e cJ2_checkBoundsBeginEnd_d044e 3 none, Cond.methodLink RJ2 48 yJ2_length_9d52b, Cond.static yJ2_length_9d52b, Cond.code yJ2_length_9d52b cJ2_length_9d52b 1 (some .int), Cond.methodLink RJ2 241 yJ0_checkBoundsBeginEnd_23922, Cond.static yJ0_checkBoundsBeginEnd_23922, Cond.code yJ0_checkBoundsBeginEnd_23922 cJ0_checkBoundsBeginEnd_23922 3 none, Cond.fieldLink RJ0 1053 "jdk/internal/util/Preconditions" "SIOOBE_FORMATTER" "Ljava/util/function/BiFunction;", Cond.methodLink RJ0 1062 yJ3_checkFromToIndex_8c36e]
def wsX6_hallSort_r4 : List Cond := [Cond.static yJ3_checkFromToIndex_8c36e, Cond.initialized RJ3, Cond.code yJ3_checkFromToIndex_8c36e cJ3_checkFromToIndex_8c36e 4 (some .int), Cond.methodLink RJ2 244 yJ2_indexOfCharUnsafe_4cfef, Cond.static yJ2_indexOfCharUnsafe_4cfef, Cond.code yJ2_indexOfCharUnsafe_4cfef cJ2_indexOfCharUnsafe_4cfef 5 (some .int), Cond.methodLink RJ2 71 yJ2_getChar_3b067, Cond.static yJ2_getChar_3b067, Cond.code yJ2_getChar_3b067 cJ2_getChar_3b067 2 (some .char), Cond.fieldLink RJ2 44 "java/lang/StringUTF16" "$assertionsDisabled" "Z", Cond.fieldLink RJ2 59 "java/lang/StringUTF16" "HI_BYTE_SHIFT" "I", Cond.fieldLink RJ2 63 "java/lang/StringUTF16" "LO_BYTE_SHIFT" "I", Cond.methodLink RJ2 232 yJ2_indexOfSupplementary_4cfef, Cond.static yJ2_indexOfSupplementary_4cfef, Cond.code yJ2_indexOfSupplementary_4cfef cJ2_indexOfSupplementary_4cfef 7 (some .int), Cond.methodLink RJ2 164 yJ11_isValidCodePoint_9a6ad, Cond.static yJ11_isValidCodePoint_9a6ad, Cond.initialized RJ11, Cond.code yJ11_isValidCodePoint_9a6ad cJ11_isValidCodePoint_9a6ad 2 (some .boolean), Cond.methodLink RJ2 157 yJ11_highSurrogate_5068e, Cond.static yJ11_highSurrogate_5068e, Cond.code yJ11_highSurrogate_5068e cJ11_highSurrogate_5068e 1 (some .char), Cond.constant RJ11 110 (55232), Cond.methodLink RJ2 161 yJ11_lowSurrogate_5068e]
def wsX6_hallSort_r5 : List Cond := [Cond.static yJ11_lowSurrogate_5068e, Cond.code yJ11_lowSurrogate_5068e cJ11_lowSurrogate_5068e 1 (some .char), Cond.constant RJ11 76 (56320)]
def wsX6_hallSort : List Cond := .code yX6_hallSort cX6_hallSort 2 (some .int) :: ((wsX6_hallSort_r1 ++ (wsX6_hallSort_r2 ++ (wsX6_hallSort_r3 ++ (wsX6_hallSort_r4 ++ wsX6_hallSort_r5)))) ++ wsX60)
def wsX6_hallWorth : List Cond := .code yX6_hallWorth cX6_hallWorth 2 (some .int) :: ([.methodLink RX6 27 yX6_codeAt, .instanceMethod yX6_codeAt, .selects RX6 yX6_codeAt yX6_codeAt, .initialized RX6, .code yX6_codeAt cX6_codeAt 2 (some .int), .fieldLink RX6 15 "KingdomAtDice$Page" "length" "I", .fieldLink RX6 9 "KingdomAtDice$Page" "codes" "[I", .static yX10_isBelow, .initialized RX10, .code yX10_isBelow cX10_isBelow 2 (some .boolean)] ++ wsX60)
def wsX6_kingKindCode : List Cond := .code yX6_kingKindCode cX6_kingKindCode 1 (some .int) :: ([.fieldLink RX6 15 "KingdomAtDice$Page" "length" "I", .methodLink RX6 27 yX6_codeAt, .instanceMethod yX6_codeAt, .selects RX6 yX6_codeAt yX6_codeAt, .initialized RX6, .code yX6_codeAt cX6_codeAt 2 (some .int), .fieldLink RX6 9 "KingdomAtDice$Page" "codes" "[I", .static yX10_isBelow, .initialized RX10, .code yX10_isBelow cX10_isBelow 2 (some .boolean)] ++ wsX60)
def wsX6_cousinKindCode : List Cond := .code yX6_cousinKindCode cX6_cousinKindCode 1 (some .int) :: ([.fieldLink RX6 15 "KingdomAtDice$Page" "length" "I", .methodLink RX6 27 yX6_codeAt, .instanceMethod yX6_codeAt, .selects RX6 yX6_codeAt yX6_codeAt, .initialized RX6, .code yX6_codeAt cX6_codeAt 2 (some .int), .fieldLink RX6 9 "KingdomAtDice$Page" "codes" "[I", .static yX10_isBelow, .initialized RX10, .code yX10_isBelow cX10_isBelow 2 (some .boolean)] ++ wsX60)
def wsX8_init : List Cond := .code yX8_init cX8_init 1 none :: ([.methodLink RX8 3 objectInit, .instanceMethod objectInit, .code objectInit ⟨#[0xb1]⟩ 1 none, .fieldLink RX8 9 "KingdomAtDice$Thing" "sort" "I", .fieldLink RX8 15 "KingdomAtDice$Thing" "worth" "I", .fieldLink RX8 18 "KingdomAtDice$Thing" "isKings" "Z", .fieldLink RX8 22 "KingdomAtDice$Thing" "lostBy" "I", .fieldLink RX8 25 "KingdomAtDice$Thing" "rightly" "I", .fieldLink RX8 28 "KingdomAtDice$Thing" "overs" "I"] ++ wsX80)
def wsX7_init : List Cond := .code yX7_init cX7_init 2 none :: ([.methodLink RX7 3 objectInit, .instanceMethod objectInit, .code objectInit ⟨#[0xb1]⟩ 1 none, .classLink RX7 9 RX8, .fieldLink RX7 11 "KingdomAtDice$Standing" "things" "[LKingdomAtDice$Thing;", .instantiable RX8 6, .initialized RX8, .arrayClass .int, .fieldLink RX7 18 "KingdomAtDice$Standing" "seen" "[I", .fieldLink RX7 22 "KingdomAtDice$Standing" "thingMany" "I", .fieldLink RX7 26 "KingdomAtDice$Standing" "gold" "I", .fieldLink RX7 29 "KingdomAtDice$Standing" "throwMany" "I", .fieldLink RX7 32 "KingdomAtDice$Standing" "seenMany" "I", .instanceMethod yX8_init, .code yX8_init cX8_init 1 none, .methodLink RX8 3 objectInit, .fieldLink RX8 9 "KingdomAtDice$Thing" "sort" "I", .fieldLink RX8 15 "KingdomAtDice$Thing" "worth" "I", .fieldLink RX8 18 "KingdomAtDice$Thing" "isKings" "Z", .fieldLink RX8 22 "KingdomAtDice$Thing" "lostBy" "I", .fieldLink RX8 25 "KingdomAtDice$Thing" "rightly" "I", .fieldLink RX8 28 "KingdomAtDice$Thing" "overs" "I"] ++ wsX70 ++ wsX80)
def wsX8_begin : List Cond := .code yX8_begin cX8_begin 3 none :: ([.fieldLink RX8 9 "KingdomAtDice$Thing" "sort" "I", .fieldLink RX8 15 "KingdomAtDice$Thing" "worth" "I", .fieldLink RX8 18 "KingdomAtDice$Thing" "isKings" "Z", .fieldLink RX8 22 "KingdomAtDice$Thing" "lostBy" "I", .fieldLink RX8 25 "KingdomAtDice$Thing" "rightly" "I", .fieldLink RX8 28 "KingdomAtDice$Thing" "overs" "I"] ++ wsX80)
def wsX7_begin_r1 : List Cond := [Cond.fieldLink RX7 11 "KingdomAtDice$Standing" "things" "[LKingdomAtDice$Thing;", Cond.methodLink RX7 41 Lib.Math.min.name, Cond.static Lib.Math.min.name, Cond.initialized "java/lang/Math", Cond.code Lib.Math.min.name Lib.Math.min.code 2 (some .int), Cond.fieldLink RX7 22 "KingdomAtDice$Standing" "thingMany" "I", Cond.fieldLink RX7 26 "KingdomAtDice$Standing" "gold" "I", Cond.fieldLink RX7 29 "KingdomAtDice$Standing" "throwMany" "I", Cond.fieldLink RX7 32 "KingdomAtDice$Standing" "seenMany" "I", Cond.instanceMethod yX6_hallThings, Cond.initialized RX6, Cond.selects RX6 yX6_hallThings yX6_hallThings, Cond.code yX6_hallThings cX6_hallThings 1 (some .int), Cond.fieldLink RX6 15 "KingdomAtDice$Page" "length" "I", Cond.instanceMethod yX6_hallSort, Cond.selects RX6 yX6_hallSort yX6_hallSort, Cond.code yX6_hallSort cX6_hallSort 2 (some .int), Cond.methodLink RX6 27 yX6_codeAt, Cond.instanceMethod yX6_codeAt, Cond.selects RX6 yX6_codeAt yX6_codeAt, Cond.code yX6_codeAt cX6_codeAt 2 (some .int), Cond.fieldLink RX6 9 "KingdomAtDice$Page" "codes" "[I", Cond.static yX10_isBelow, Cond.initialized RX10]
def wsX7_begin_r2 : List Cond := [Cond.code yX10_isBelow cX10_isBelow 2 (some .boolean), Cond.methodLink RX6 40 yJ0_indexOf_0f7a4, Cond.instanceMethod yJ0_indexOf_0f7a4, Cond.selects RJ0 yJ0_indexOf_0f7a4 yJ0_indexOf_0f7a4, Cond.initialized RJ0, Cond.code yJ0_indexOf_0f7a4 cJ0_indexOf_0f7a4 2 (some .int), Cond.methodLink RJ0 633 yJ0_indexOf_7cf53, Cond.instanceMethod yJ0_indexOf_7cf53, Cond.selects RJ0 yJ0_indexOf_7cf53 yJ0_indexOf_7cf53, Cond.code yJ0_indexOf_7cf53 cJ0_indexOf_7cf53 3 (some .int), Cond.fieldLink RJ0 9 "java/lang/String" "value" "[B", Cond.methodLink RJ0 492 yJ0_isLatin1_aae02, Cond.instanceMethod yJ0_isLatin1_aae02, Cond.selects RJ0 yJ0_isLatin1_aae02 yJ0_isLatin1_aae02, Cond.code yJ0_isLatin1_aae02 cJ0_isLatin1_aae02 1 (some .boolean), Cond.fieldLink RJ0 38 "java/lang/String" "COMPACT_STRINGS" "Z", Cond.fieldLink RJ0 15 "java/lang/String" "coder" "B", Cond.methodLink RJ0 505 yJ0_length_8abf5, Cond.instanceMethod yJ0_length_8abf5, Cond.selects RJ0 yJ0_length_8abf5 yJ0_length_8abf5, Cond.code yJ0_length_8abf5 cJ0_length_8abf5 1 (some .int), Cond.methodLink RJ0 335 yJ0_coder_7d493, Cond.instanceMethod yJ0_coder_7d493, Cond.selects RJ0 yJ0_coder_7d493 yJ0_coder_7d493]
def wsX7_begin_r3 : List Cond := [Cond.code yJ0_coder_7d493 cJ0_coder_7d493 1 (some .byte), Cond.methodLink RJ0 637 yJ1_indexOf_4cfef, Cond.static yJ1_indexOf_4cfef, Cond.initialized RJ1, Cond.code yJ1_indexOf_4cfef cJ1_indexOf_4cfef 4 (some .int), Cond.methodLink RJ1 92 Lib.Math.max.name, Cond.static Lib.Math.max.name, Cond.code Lib.Math.max.name Lib.Math.max.code 2 (some .int), Cond.methodLink RJ1 38 Lib.Math.min.name, Cond.methodLink RJ1 88 yJ1_canEncode_9a6ad, Cond.static yJ1_canEncode_9a6ad, Cond.code yJ1_canEncode_9a6ad cJ1_canEncode_9a6ad 1 (some .boolean), Cond.methodLink RJ1 95 yJ1_indexOfChar_4cfef, Cond.static yJ1_indexOfChar_4cfef, Cond.code yJ1_indexOfChar_4cfef cJ1_indexOfChar_4cfef 6 (some .int), Cond.methodLink RJ0 640 yJ2_indexOf_4cfef, Cond.static yJ2_indexOf_4cfef, Cond.initialized RJ2, Cond.code yJ2_indexOf_4cfef cJ2_indexOf_4cfef 4 (some .int), Cond.methodLink RJ2 224 Lib.Math.max.name, Cond.methodLink RJ2 183 Lib.Math.min.name, Cond.constant RJ2 227 (65536), Cond.methodLink RJ2 228 yJ2_indexOfChar_4cfef, Cond.static yJ2_indexOfChar_4cfef]
def wsX7_begin_r4 : List Cond := [Cond.code yJ2_indexOfChar_4cfef cJ2_indexOfChar_4cfef 4 (some .int), Cond.methodLink RJ2 96 yJ2_checkBoundsBeginEnd_d044e, Cond.static yJ2_checkBoundsBeginEnd_d044e, Cond.code yJ2_checkBoundsBeginEnd_d044e cJ2_checkBoundsBeginEnd_d044e 3 none, Cond.methodLink RJ2 48 yJ2_length_9d52b, Cond.static yJ2_length_9d52b, Cond.code yJ2_length_9d52b cJ2_length_9d52b 1 (some .int), Cond.methodLink RJ2 241 yJ0_checkBoundsBeginEnd_23922, Cond.static yJ0_checkBoundsBeginEnd_23922, Cond.code yJ0_checkBoundsBeginEnd_23922 cJ0_checkBoundsBeginEnd_23922 3 none, Cond.fieldLink RJ0 1053 "jdk/internal/util/Preconditions" "SIOOBE_FORMATTER" "Ljava/util/function/BiFunction;", Cond.methodLink RJ0 1062 yJ3_checkFromToIndex_8c36e, Cond.static yJ3_checkFromToIndex_8c36e, Cond.initialized RJ3, Cond.code yJ3_checkFromToIndex_8c36e cJ3_checkFromToIndex_8c36e 4 (some .int), Cond.methodLink RJ2 244 yJ2_indexOfCharUnsafe_4cfef, Cond.static yJ2_indexOfCharUnsafe_4cfef, Cond.code yJ2_indexOfCharUnsafe_4cfef cJ2_indexOfCharUnsafe_4cfef 5 (some .int), Cond.methodLink RJ2 71 yJ2_getChar_3b067, Cond.static yJ2_getChar_3b067, Cond.code yJ2_getChar_3b067 cJ2_getChar_3b067 2 (some .char), Cond.fieldLink RJ2 44 "java/lang/StringUTF16" "$assertionsDisabled" "Z", Cond.fieldLink RJ2 59 "java/lang/StringUTF16" "HI_BYTE_SHIFT" "I", Cond.fieldLink RJ2 63 "java/lang/StringUTF16" "LO_BYTE_SHIFT" "I"]
def wsX7_begin_r5 : List Cond := [Cond.methodLink RJ2 232 yJ2_indexOfSupplementary_4cfef, Cond.static yJ2_indexOfSupplementary_4cfef, Cond.code yJ2_indexOfSupplementary_4cfef cJ2_indexOfSupplementary_4cfef 7 (some .int), Cond.methodLink RJ2 164 yJ11_isValidCodePoint_9a6ad, Cond.static yJ11_isValidCodePoint_9a6ad, Cond.initialized RJ11, Cond.code yJ11_isValidCodePoint_9a6ad cJ11_isValidCodePoint_9a6ad 2 (some .boolean), Cond.methodLink RJ2 157 yJ11_highSurrogate_5068e, Cond.static yJ11_highSurrogate_5068e, Cond.code yJ11_highSurrogate_5068e cJ11_highSurrogate_5068e 1 (some .char), Cond.constant RJ11 110 (55232), Cond.methodLink RJ2 161 yJ11_lowSurrogate_5068e, Cond.static yJ11_lowSurrogate_5068e, Cond.code yJ11_lowSurrogate_5068e cJ11_lowSurrogate_5068e 1 (some .char), Cond.constant RJ11 76 (56320), Cond.instanceMethod yX6_hallWorth, Cond.selects RX6 yX6_hallWorth yX6_hallWorth, Cond.code yX6_hallWorth cX6_hallWorth 2 (some .int), Cond.instanceMethod yX8_begin, Cond.initialized RX8, Cond.selects RX8 yX8_begin yX8_begin, Cond.code yX8_begin cX8_begin 3 none, Cond.fieldLink RX8 9 "KingdomAtDice$Thing" "sort" "I", Cond.fieldLink RX8 15 "KingdomAtDice$Thing" "worth" "I"]
def wsX7_begin_r6 : List Cond := [Cond.fieldLink RX8 18 "KingdomAtDice$Thing" "isKings" "Z", Cond.fieldLink RX8 22 "KingdomAtDice$Thing" "lostBy" "I", Cond.fieldLink RX8 25 "KingdomAtDice$Thing" "rightly" "I", Cond.fieldLink RX8 28 "KingdomAtDice$Thing" "overs" "I"]
def wsX7_begin : List Cond := .code yX7_begin cX7_begin 3 none :: ((wsX7_begin_r1 ++ (wsX7_begin_r2 ++ (wsX7_begin_r3 ++ (wsX7_begin_r4 ++ (wsX7_begin_r5 ++ wsX7_begin_r6))))) ++ wsX70 ++ wsX60 ++ wsX80)
def wsX8_copy : List Cond := .code yX8_copy cX8_copy 2 none :: ([.fieldLink RX8 9 "KingdomAtDice$Thing" "sort" "I", .fieldLink RX8 15 "KingdomAtDice$Thing" "worth" "I", .fieldLink RX8 18 "KingdomAtDice$Thing" "isKings" "Z", .fieldLink RX8 22 "KingdomAtDice$Thing" "lostBy" "I", .fieldLink RX8 25 "KingdomAtDice$Thing" "rightly" "I", .fieldLink RX8 28 "KingdomAtDice$Thing" "overs" "I"] ++ wsX80)
def wsX7_copy : List Cond := .code yX7_copy cX7_copy 3 none :: ([.fieldLink RX7 11 "KingdomAtDice$Standing" "things" "[LKingdomAtDice$Thing;", .fieldLink RX7 18 "KingdomAtDice$Standing" "seen" "[I", .fieldLink RX7 22 "KingdomAtDice$Standing" "thingMany" "I", .fieldLink RX7 26 "KingdomAtDice$Standing" "gold" "I", .fieldLink RX7 29 "KingdomAtDice$Standing" "throwMany" "I", .fieldLink RX7 32 "KingdomAtDice$Standing" "seenMany" "I", .instanceMethod yX8_copy, .initialized RX8, .selects RX8 yX8_copy yX8_copy, .code yX8_copy cX8_copy 2 none, .fieldLink RX8 9 "KingdomAtDice$Thing" "sort" "I", .fieldLink RX8 15 "KingdomAtDice$Thing" "worth" "I", .fieldLink RX8 18 "KingdomAtDice$Thing" "isKings" "Z", .fieldLink RX8 22 "KingdomAtDice$Thing" "lostBy" "I", .fieldLink RX8 25 "KingdomAtDice$Thing" "rightly" "I", .fieldLink RX8 28 "KingdomAtDice$Thing" "overs" "I"] ++ wsX70 ++ wsX80)
def wsX7_hasHall : List Cond := .code yX7_hasHall cX7_hasHall 1 (some .boolean) :: ([.fieldLink RX7 22 "KingdomAtDice$Standing" "thingMany" "I"] ++ wsX70)
def wsX7_has : List Cond := .code yX7_has cX7_has 2 (some .boolean) :: ([.fieldLink RX7 22 "KingdomAtDice$Standing" "thingMany" "I", .static yX10_isBelow, .initialized RX10, .code yX10_isBelow cX10_isBelow 2 (some .boolean)] ++ wsX70)
def wsX7_mayStake : List Cond := .code yX7_mayStake cX7_mayStake 3 (some .boolean) :: ([.fieldLink RX7 11 "KingdomAtDice$Standing" "things" "[LKingdomAtDice$Thing;", .methodLink RX7 66 yX7_has, .instanceMethod yX7_has, .selects RX7 yX7_has yX7_has, .initialized RX7, .code yX7_has cX7_has 2 (some .boolean), .fieldLink RX7 22 "KingdomAtDice$Standing" "thingMany" "I", .static yX10_isBelow, .initialized RX10, .code yX10_isBelow cX10_isBelow 2 (some .boolean)] ++ wsX70 ++ wsX80)
def wsX7_isSelfKings : List Cond := .code yX7_isSelfKings cX7_isSelfKings 2 (some .boolean) :: ([.fieldLink RX7 22 "KingdomAtDice$Standing" "thingMany" "I", .fieldLink RX7 11 "KingdomAtDice$Standing" "things" "[LKingdomAtDice$Thing;"] ++ wsX70 ++ wsX80)
def wsX8_lose : List Cond := .code yX8_lose cX8_lose 3 none :: ([.fieldLink RX8 18 "KingdomAtDice$Thing" "isKings" "Z", .fieldLink RX8 22 "KingdomAtDice$Thing" "lostBy" "I", .fieldLink RX8 25 "KingdomAtDice$Thing" "rightly" "I", .fieldLink RX8 28 "KingdomAtDice$Thing" "overs" "I"] ++ wsX80)
def wsX8_comeBack : List Cond := .code yX8_comeBack cX8_comeBack 1 none :: ([.fieldLink RX8 18 "KingdomAtDice$Thing" "isKings" "Z", .fieldLink RX8 28 "KingdomAtDice$Thing" "overs" "I"] ++ wsX80)
def wsX7_settle_r1 : List Cond := [Cond.fieldLink RX7 29 "KingdomAtDice$Standing" "throwMany" "I", Cond.fieldLink RX7 11 "KingdomAtDice$Standing" "things" "[LKingdomAtDice$Thing;", Cond.fieldLink RX7 26 "KingdomAtDice$Standing" "gold" "I", Cond.methodLink RX7 77 yX7_mayStake, Cond.instanceMethod yX7_mayStake, Cond.selects RX7 yX7_mayStake yX7_mayStake, Cond.initialized RX7, Cond.code yX7_mayStake cX7_mayStake 3 (some .boolean), Cond.methodLink RX7 66 yX7_has, Cond.instanceMethod yX7_has, Cond.selects RX7 yX7_has yX7_has, Cond.code yX7_has cX7_has 2 (some .boolean), Cond.fieldLink RX7 22 "KingdomAtDice$Standing" "thingMany" "I", Cond.static yX10_isBelow, Cond.initialized RX10, Cond.code yX10_isBelow cX10_isBelow 2 (some .boolean), Cond.methodLink RX7 80 yX7_isSelfKings, Cond.instanceMethod yX7_isSelfKings, Cond.selects RX7 yX7_isSelfKings yX7_isSelfKings, Cond.code yX7_isSelfKings cX7_isSelfKings 2 (some .boolean), Cond.instanceMethod yX8_lose, Cond.initialized RX8, Cond.selects RX8 yX8_lose yX8_lose, Cond.code yX8_lose cX8_lose 3 none]
def wsX7_settle_r2 : List Cond := [Cond.fieldLink RX8 18 "KingdomAtDice$Thing" "isKings" "Z", Cond.fieldLink RX8 22 "KingdomAtDice$Thing" "lostBy" "I", Cond.fieldLink RX8 25 "KingdomAtDice$Thing" "rightly" "I", Cond.fieldLink RX8 28 "KingdomAtDice$Thing" "overs" "I", Cond.instanceMethod yX8_comeBack, Cond.selects RX8 yX8_comeBack yX8_comeBack, Cond.code yX8_comeBack cX8_comeBack 1 none]
def wsX7_settle : List Cond := .code yX7_settle cX7_settle 5 (some .int) :: ((wsX7_settle_r1 ++ wsX7_settle_r2) ++ wsX70 ++ wsX80)
def wsX7_stakesFor : List Cond := .code yX7_stakesFor cX7_stakesFor 4 (some .int) :: ([.fieldLink RX7 22 "KingdomAtDice$Standing" "thingMany" "I", .methodLink RX7 77 yX7_mayStake, .instanceMethod yX7_mayStake, .selects RX7 yX7_mayStake yX7_mayStake, .initialized RX7, .code yX7_mayStake cX7_mayStake 3 (some .boolean), .fieldLink RX7 11 "KingdomAtDice$Standing" "things" "[LKingdomAtDice$Thing;", .methodLink RX7 66 yX7_has, .instanceMethod yX7_has, .selects RX7 yX7_has yX7_has, .code yX7_has cX7_has 2 (some .boolean), .static yX10_isBelow, .initialized RX10, .code yX10_isBelow cX10_isBelow 2 (some .boolean)] ++ wsX70 ++ wsX80)
def wsX8_isWronglyLost : List Cond := .code yX8_isWronglyLost cX8_isWronglyLost 1 (some .boolean) :: ([.fieldLink RX8 18 "KingdomAtDice$Thing" "isKings" "Z", .fieldLink RX8 25 "KingdomAtDice$Thing" "rightly" "I"] ++ wsX80)
def wsX8_isKingsBy : List Cond := .code yX8_isKingsBy cX8_isKingsBy 2 (some .boolean) :: ([.fieldLink RX8 18 "KingdomAtDice$Thing" "isKings" "Z", .fieldLink RX8 9 "KingdomAtDice$Thing" "sort" "I", .methodLink RX8 31 yX8_isWronglyLost, .instanceMethod yX8_isWronglyLost, .selects RX8 yX8_isWronglyLost yX8_isWronglyLost, .initialized RX8, .code yX8_isWronglyLost cX8_isWronglyLost 1 (some .boolean), .fieldLink RX8 25 "KingdomAtDice$Thing" "rightly" "I"] ++ wsX80)
def wsX7_kingsBy : List Cond := .code yX7_kingsBy cX7_kingsBy 4 (some .int) :: ([.fieldLink RX7 22 "KingdomAtDice$Standing" "thingMany" "I", .fieldLink RX7 11 "KingdomAtDice$Standing" "things" "[LKingdomAtDice$Thing;", .instanceMethod yX8_isKingsBy, .initialized RX8, .selects RX8 yX8_isKingsBy yX8_isKingsBy, .code yX8_isKingsBy cX8_isKingsBy 2 (some .boolean), .fieldLink RX8 18 "KingdomAtDice$Thing" "isKings" "Z", .fieldLink RX8 9 "KingdomAtDice$Thing" "sort" "I", .methodLink RX8 31 yX8_isWronglyLost, .instanceMethod yX8_isWronglyLost, .selects RX8 yX8_isWronglyLost yX8_isWronglyLost, .code yX8_isWronglyLost cX8_isWronglyLost 1 (some .boolean), .fieldLink RX8 25 "KingdomAtDice$Thing" "rightly" "I"] ++ wsX70 ++ wsX80)
def wsX7_worthOf : List Cond := .code yX7_worthOf cX7_worthOf 4 (some .int) :: ([.fieldLink RX7 22 "KingdomAtDice$Standing" "thingMany" "I", .fieldLink RX7 11 "KingdomAtDice$Standing" "things" "[LKingdomAtDice$Thing;"] ++ wsX70 ++ wsX80)
def wsX7_wrongMany : List Cond := .code yX7_wrongMany cX7_wrongMany 3 (some .int) :: ([.fieldLink RX7 22 "KingdomAtDice$Standing" "thingMany" "I", .fieldLink RX7 11 "KingdomAtDice$Standing" "things" "[LKingdomAtDice$Thing;", .instanceMethod yX8_isWronglyLost, .initialized RX8, .selects RX8 yX8_isWronglyLost yX8_isWronglyLost, .code yX8_isWronglyLost cX8_isWronglyLost 1 (some .boolean), .fieldLink RX8 18 "KingdomAtDice$Thing" "isKings" "Z", .fieldLink RX8 25 "KingdomAtDice$Thing" "rightly" "I"] ++ wsX70 ++ wsX80)
def wsX7_addSeen : List Cond := .code yX7_addSeen cX7_addSeen 2 (some .int) :: ([.fieldLink RX7 32 "KingdomAtDice$Standing" "seenMany" "I", .fieldLink RX7 18 "KingdomAtDice$Standing" "seen" "[I", .static yX10_isBelow, .initialized RX10, .code yX10_isBelow cX10_isBelow 2 (some .boolean)] ++ wsX70)
def wsX7_clearSeen : List Cond := .code yX7_clearSeen cX7_clearSeen 2 (some .int) :: ([.fieldLink RX7 32 "KingdomAtDice$Standing" "seenMany" "I"] ++ wsX70)
def wsX7_waysSeenBy : List Cond := .code yX7_waysSeenBy cX7_waysSeenBy 5 (some .long) :: ([.fieldLink RX7 32 "KingdomAtDice$Standing" "seenMany" "I", .fieldLink RX7 18 "KingdomAtDice$Standing" "seen" "[I", .methodLink RX7 100 ⟨"KingdomAtDice$Dice", "waysOf", "(I)I"⟩, .sameMethod "KingdomAtDice$Dice" "KingdomAtDice$Dice" "waysOf" "(I)I", .selects RX0 ⟨"KingdomAtDice$Dice", "waysOf", "(I)I"⟩ yX1_waysOf, .instanceMethod yX1_waysOf, .initialized RX1, .code yX1_waysOf cX1_waysOf 5 (some .int), .fieldLink RX1 13 "KingdomAtDice$Dice" "least" "I", .fieldLink RX1 16 "KingdomAtDice$Dice" "greatest" "I", .static yX10_isSum, .initialized RX10, .code yX10_isSum cX10_isSum 1 (some .boolean), .methodLink RX7 100 yX1_waysOf, .selects RX1 yX1_waysOf yX1_waysOf, .selects RX3 ⟨"KingdomAtDice$Dice", "waysOf", "(I)I"⟩ yX1_waysOf, .selects RX4 ⟨"KingdomAtDice$Dice", "waysOf", "(I)I"⟩ yX1_waysOf, .instanceMethod ⟨"KingdomAtDice$Dice", "waysOf", "(I)I"⟩, .selects RX9 ⟨"KingdomAtDice$Dice", "waysOf", "(I)I"⟩ yX9_waysOf, .instanceMethod yX9_waysOf, .initialized RX9, .code yX9_waysOf cX9_waysOf 2 (some .int)] ++ wsX70 ++ wsX00 ++ wsX10 ++ wsX30 ++ wsX40 ++ wsX90)
def wsX8_tell : List Cond := .code yX8_tell cX8_tell 2 (some .int) :: ([.fieldLink RX8 9 "KingdomAtDice$Thing" "sort" "I", .fieldLink RX8 15 "KingdomAtDice$Thing" "worth" "I", .fieldLink RX8 18 "KingdomAtDice$Thing" "isKings" "Z", .fieldLink RX8 22 "KingdomAtDice$Thing" "lostBy" "I", .fieldLink RX8 25 "KingdomAtDice$Thing" "rightly" "I", .fieldLink RX8 28 "KingdomAtDice$Thing" "overs" "I"] ++ wsX80)
def wsX9_init : List Cond := .code yX9_init cX9_init 1 none :: ([.methodLink RX9 3 yX1_init, .instanceMethod yX1_init, .initialized RX1, .code yX1_init cX1_init 4 none, .methodLink RX1 1 objectInit, .instanceMethod objectInit, .code objectInit ⟨#[0xb1]⟩ 1 none, .fieldLink RX1 7 "KingdomAtDice$Dice" "kind" "I", .fieldLink RX1 13 "KingdomAtDice$Dice" "least" "I", .fieldLink RX1 16 "KingdomAtDice$Dice" "greatest" "I"] ++ wsX00 ++ wsX10 ++ wsX30 ++ wsX40 ++ wsX90)
def wsX9_fall : List Cond := .code yX9_fall cX9_fall 2 (some .int) :: ([.fieldLink RX9 19 "KingdomAtDice$Twins" "least" "I", .sameField "KingdomAtDice$Twins" "KingdomAtDice$Dice" "least" "I", .methodLink RX9 9 ⟨"KingdomAtDice$Twins", "faces", "()I"⟩, .sameMethod "KingdomAtDice$Twins" "KingdomAtDice$Dice" "faces" "()I", .selects RX9 ⟨"KingdomAtDice$Twins", "faces", "()I"⟩ yX1_faces, .instanceMethod yX1_faces, .initialized RX1, .code yX1_faces cX1_faces 1 (some .int), .fieldLink RX1 16 "KingdomAtDice$Dice" "greatest" "I", .fieldLink RX1 13 "KingdomAtDice$Dice" "least" "I", .instanceMethod yX2_next, .initialized RX2, .selects RX2 yX2_next yX2_next, .code yX2_next cX2_next 2 (some .int), .constantLong RX2 13 (1103515245), .fieldLink RX2 7 "KingdomAtDice$Draws" "seed" "J", .constantLong RX2 15 (12345), .constantLong RX2 17 (2147483648), .constantLong RX2 19 (65536)] ++ wsX00 ++ wsX10 ++ wsX30 ++ wsX40 ++ wsX90 ++ wsX20)
def wsX10_init_r1 : List Cond := [Cond.methodLink RX10 1 objectInit, Cond.instanceMethod objectInit, Cond.code objectInit ⟨#[0xb1]⟩ 1 none, Cond.classLink RX10 7 RX6, Cond.instantiable RX6 2, Cond.initialized RX6, Cond.fieldLink RX10 10 "KingdomAtDice" "page" "LKingdomAtDice$Page;", Cond.classLink RX10 16 RX1, Cond.instantiable RX1 3, Cond.initialized RX1, Cond.classLink RX10 21 RX3, Cond.instantiable RX3 3, Cond.initialized RX3, Cond.classLink RX10 26 RX9, Cond.instantiable RX9 3, Cond.initialized RX9, Cond.classLink RX10 29 RX4, Cond.instantiable RX4 3, Cond.initialized RX4, Cond.classLink RX10 32 RX0, Cond.instantiable RX0 3, Cond.initialized RX0, Cond.fieldLink RX10 35 "KingdomAtDice" "kinds" "[LKingdomAtDice$Dice;", Cond.classLink RX10 39 RX5]
def wsX10_init_r2 : List Cond := [Cond.instantiable RX5 2, Cond.initialized RX5, Cond.fieldLink RX10 42 "KingdomAtDice" "odds" "LKingdomAtDice$Odds;", Cond.classLink RX10 46 RX2, Cond.instantiable RX2 1, Cond.initialized RX2, Cond.fieldLink RX10 49 "KingdomAtDice" "draws" "LKingdomAtDice$Draws;", Cond.classLink RX10 53 RX7, Cond.instantiable RX7 6, Cond.initialized RX7, Cond.fieldLink RX10 56 "KingdomAtDice" "now" "LKingdomAtDice$Standing;", Cond.fieldLink RX10 60 "KingdomAtDice" "kept" "LKingdomAtDice$Standing;", Cond.fieldLink RX10 63 "KingdomAtDice" "kingDice" "LKingdomAtDice$Dice;", Cond.fieldLink RX10 67 "KingdomAtDice" "cousinDice" "LKingdomAtDice$Dice;", Cond.fieldLink RX10 70 "KingdomAtDice" "isKept" "Z", Cond.fieldLink RX10 74 "KingdomAtDice" "hallsRead" "I", Cond.instanceMethod yX6_init, Cond.code yX6_init cX6_init 1 none, Cond.methodLink RX6 3 objectInit, Cond.arrayClass .int, Cond.fieldLink RX6 9 "KingdomAtDice$Page" "codes" "[I", Cond.fieldLink RX6 15 "KingdomAtDice$Page" "length" "I", Cond.methodLink RX10 18 yX1_init, Cond.instanceMethod yX1_init]
def wsX10_init_r3 : List Cond := [Cond.code yX1_init cX1_init 4 none, Cond.methodLink RX1 1 objectInit, Cond.fieldLink RX1 7 "KingdomAtDice$Dice" "kind" "I", Cond.fieldLink RX1 13 "KingdomAtDice$Dice" "least" "I", Cond.fieldLink RX1 16 "KingdomAtDice$Dice" "greatest" "I", Cond.methodLink RX10 23 yX3_init, Cond.instanceMethod yX3_init, Cond.code yX3_init cX3_init 3 none, Cond.methodLink RX3 1 yX1_init, Cond.methodLink RX10 28 yX9_init, Cond.instanceMethod yX9_init, Cond.code yX9_init cX9_init 1 none, Cond.methodLink RX9 3 yX1_init, Cond.methodLink RX10 31 yX4_init, Cond.instanceMethod yX4_init, Cond.code yX4_init cX4_init 1 none, Cond.methodLink RX4 3 yX1_init, Cond.methodLink RX10 34 yX0_init, Cond.instanceMethod yX0_init, Cond.code yX0_init cX0_init 1 none, Cond.methodLink RX0 3 yX3_init, Cond.instanceMethod yX5_init, Cond.code yX5_init cX5_init 1 none, Cond.methodLink RX5 3 objectInit]
def wsX10_init_r4 : List Cond := [Cond.fieldLink RX5 9 "KingdomAtDice$Odds" "ways" "[I", Cond.fieldLink RX5 15 "KingdomAtDice$Odds" "total" "I", Cond.instanceMethod yX2_init, Cond.code yX2_init cX2_init 1 none, Cond.methodLink RX2 1 objectInit, Cond.fieldLink RX2 7 "KingdomAtDice$Draws" "seed" "J", Cond.instanceMethod yX7_init, Cond.code yX7_init cX7_init 2 none, Cond.methodLink RX7 3 objectInit, Cond.classLink RX7 9 RX8, Cond.fieldLink RX7 11 "KingdomAtDice$Standing" "things" "[LKingdomAtDice$Thing;", Cond.instantiable RX8 6, Cond.initialized RX8, Cond.fieldLink RX7 18 "KingdomAtDice$Standing" "seen" "[I", Cond.fieldLink RX7 22 "KingdomAtDice$Standing" "thingMany" "I", Cond.fieldLink RX7 26 "KingdomAtDice$Standing" "gold" "I", Cond.fieldLink RX7 29 "KingdomAtDice$Standing" "throwMany" "I", Cond.fieldLink RX7 32 "KingdomAtDice$Standing" "seenMany" "I", Cond.instanceMethod yX8_init, Cond.code yX8_init cX8_init 1 none, Cond.methodLink RX8 3 objectInit, Cond.fieldLink RX8 9 "KingdomAtDice$Thing" "sort" "I", Cond.fieldLink RX8 15 "KingdomAtDice$Thing" "worth" "I", Cond.fieldLink RX8 18 "KingdomAtDice$Thing" "isKings" "Z"]
def wsX10_init_r5 : List Cond := [Cond.fieldLink RX8 22 "KingdomAtDice$Thing" "lostBy" "I", Cond.fieldLink RX8 25 "KingdomAtDice$Thing" "rightly" "I", Cond.fieldLink RX8 28 "KingdomAtDice$Thing" "overs" "I"]
def wsX10_init : List Cond := .code yX10_init cX10_init 1 none :: ((wsX10_init_r1 ++ (wsX10_init_r2 ++ (wsX10_init_r3 ++ (wsX10_init_r4 ++ wsX10_init_r5)))) ++ wsX60 ++ wsX100 ++ wsX10 ++ wsX30 ++ wsX90 ++ wsX40 ++ wsX00 ++ wsX50 ++ wsX20 ++ wsX70 ++ wsX80)
def wsX10_letter : List Cond := .code yX10_letter cX10_letter 2 (some .int) :: ([.fieldLink RX10 10 "KingdomAtDice" "page" "LKingdomAtDice$Page;", .instanceMethod yX6_isFull, .initialized RX6, .selects RX6 yX6_isFull yX6_isFull, .code yX6_isFull cX6_isFull 1 (some .boolean), .fieldLink RX6 15 "KingdomAtDice$Page" "length" "I", .fieldLink RX6 9 "KingdomAtDice$Page" "codes" "[I", .instanceMethod yX6_push, .selects RX6 yX6_push yX6_push, .code yX6_push cX6_push 2 (some .int), .methodLink RX6 19 yX6_isFull] ++ wsX100 ++ wsX60)
def wsX10_blank : List Cond := .code yX10_blank cX10_blank 1 (some .int) :: ([.fieldLink RX10 10 "KingdomAtDice" "page" "LKingdomAtDice$Page;", .instanceMethod yX6_clear, .initialized RX6, .selects RX6 yX6_clear yX6_clear, .code yX6_clear cX6_clear 2 (some .int), .fieldLink RX6 15 "KingdomAtDice$Page" "length" "I"] ++ wsX100 ++ wsX60)
def wsX10_fault_r1 : List Cond := [Cond.fieldLink RX10 10 "KingdomAtDice" "page" "LKingdomAtDice$Page;", Cond.instanceMethod yX6_faultPlace, Cond.initialized RX6, Cond.selects RX6 yX6_faultPlace yX6_faultPlace, Cond.code yX6_faultPlace cX6_faultPlace 5 (some .int), Cond.fieldLink RX6 15 "KingdomAtDice$Page" "length" "I", Cond.methodLink RX6 27 yX6_codeAt, Cond.instanceMethod yX6_codeAt, Cond.selects RX6 yX6_codeAt yX6_codeAt, Cond.code yX6_codeAt cX6_codeAt 2 (some .int), Cond.fieldLink RX6 9 "KingdomAtDice$Page" "codes" "[I", Cond.static yX10_isBelow, Cond.initialized RX10, Cond.code yX10_isBelow cX10_isBelow 2 (some .boolean), Cond.methodLink RX6 31 yX6_fitsBehind, Cond.static yX6_fitsBehind, Cond.code yX6_fitsBehind cX6_fitsBehind 2 (some .boolean), Cond.methodLink RX6 40 yJ0_indexOf_0f7a4, Cond.instanceMethod yJ0_indexOf_0f7a4, Cond.selects RJ0 yJ0_indexOf_0f7a4 yJ0_indexOf_0f7a4, Cond.initialized RJ0, Cond.code yJ0_indexOf_0f7a4 cJ0_indexOf_0f7a4 2 (some .int), Cond.methodLink RJ0 633 yJ0_indexOf_7cf53, Cond.instanceMethod yJ0_indexOf_7cf53]
def wsX10_fault_r2 : List Cond := [Cond.selects RJ0 yJ0_indexOf_7cf53 yJ0_indexOf_7cf53, Cond.code yJ0_indexOf_7cf53 cJ0_indexOf_7cf53 3 (some .int), Cond.fieldLink RJ0 9 "java/lang/String" "value" "[B", Cond.methodLink RJ0 492 yJ0_isLatin1_aae02, Cond.instanceMethod yJ0_isLatin1_aae02, Cond.selects RJ0 yJ0_isLatin1_aae02 yJ0_isLatin1_aae02, Cond.code yJ0_isLatin1_aae02 cJ0_isLatin1_aae02 1 (some .boolean), Cond.fieldLink RJ0 38 "java/lang/String" "COMPACT_STRINGS" "Z", Cond.fieldLink RJ0 15 "java/lang/String" "coder" "B", Cond.methodLink RJ0 505 yJ0_length_8abf5, Cond.instanceMethod yJ0_length_8abf5, Cond.selects RJ0 yJ0_length_8abf5 yJ0_length_8abf5, Cond.code yJ0_length_8abf5 cJ0_length_8abf5 1 (some .int), Cond.methodLink RJ0 335 yJ0_coder_7d493, Cond.instanceMethod yJ0_coder_7d493, Cond.selects RJ0 yJ0_coder_7d493 yJ0_coder_7d493, Cond.code yJ0_coder_7d493 cJ0_coder_7d493 1 (some .byte), Cond.methodLink RJ0 637 yJ1_indexOf_4cfef, Cond.static yJ1_indexOf_4cfef, Cond.initialized RJ1, Cond.code yJ1_indexOf_4cfef cJ1_indexOf_4cfef 4 (some .int), Cond.methodLink RJ1 92 Lib.Math.max.name, Cond.static Lib.Math.max.name, Cond.initialized "java/lang/Math"]
def wsX10_fault_r3 : List Cond := [Cond.code Lib.Math.max.name Lib.Math.max.code 2 (some .int), Cond.methodLink RJ1 38 Lib.Math.min.name, Cond.static Lib.Math.min.name, Cond.code Lib.Math.min.name Lib.Math.min.code 2 (some .int), Cond.methodLink RJ1 88 yJ1_canEncode_9a6ad, Cond.static yJ1_canEncode_9a6ad, Cond.code yJ1_canEncode_9a6ad cJ1_canEncode_9a6ad 1 (some .boolean), Cond.methodLink RJ1 95 yJ1_indexOfChar_4cfef, Cond.static yJ1_indexOfChar_4cfef, Cond.code yJ1_indexOfChar_4cfef cJ1_indexOfChar_4cfef 6 (some .int), Cond.methodLink RJ0 640 yJ2_indexOf_4cfef, Cond.static yJ2_indexOf_4cfef, Cond.initialized RJ2, Cond.code yJ2_indexOf_4cfef cJ2_indexOf_4cfef 4 (some .int), Cond.methodLink RJ2 224 Lib.Math.max.name, Cond.methodLink RJ2 183 Lib.Math.min.name, Cond.constant RJ2 227 (65536), Cond.methodLink RJ2 228 yJ2_indexOfChar_4cfef, Cond.static yJ2_indexOfChar_4cfef, Cond.code yJ2_indexOfChar_4cfef cJ2_indexOfChar_4cfef 4 (some .int), Cond.methodLink RJ2 96 yJ2_checkBoundsBeginEnd_d044e, Cond.static yJ2_checkBoundsBeginEnd_d044e, Cond.code yJ2_checkBoundsBeginEnd_d044e cJ2_checkBoundsBeginEnd_d044e 3 none, Cond.methodLink RJ2 48 yJ2_length_9d52b]
def wsX10_fault_r4 : List Cond := [Cond.static yJ2_length_9d52b, Cond.code yJ2_length_9d52b cJ2_length_9d52b 1 (some .int), Cond.methodLink RJ2 241 yJ0_checkBoundsBeginEnd_23922, Cond.static yJ0_checkBoundsBeginEnd_23922, Cond.code yJ0_checkBoundsBeginEnd_23922 cJ0_checkBoundsBeginEnd_23922 3 none, Cond.fieldLink RJ0 1053 "jdk/internal/util/Preconditions" "SIOOBE_FORMATTER" "Ljava/util/function/BiFunction;", Cond.methodLink RJ0 1062 yJ3_checkFromToIndex_8c36e, Cond.static yJ3_checkFromToIndex_8c36e, Cond.initialized RJ3, Cond.code yJ3_checkFromToIndex_8c36e cJ3_checkFromToIndex_8c36e 4 (some .int), Cond.methodLink RJ2 244 yJ2_indexOfCharUnsafe_4cfef, Cond.static yJ2_indexOfCharUnsafe_4cfef, Cond.code yJ2_indexOfCharUnsafe_4cfef cJ2_indexOfCharUnsafe_4cfef 5 (some .int), Cond.methodLink RJ2 71 yJ2_getChar_3b067, Cond.static yJ2_getChar_3b067, Cond.code yJ2_getChar_3b067 cJ2_getChar_3b067 2 (some .char), Cond.fieldLink RJ2 44 "java/lang/StringUTF16" "$assertionsDisabled" "Z", Cond.fieldLink RJ2 59 "java/lang/StringUTF16" "HI_BYTE_SHIFT" "I", Cond.fieldLink RJ2 63 "java/lang/StringUTF16" "LO_BYTE_SHIFT" "I", Cond.methodLink RJ2 232 yJ2_indexOfSupplementary_4cfef, Cond.static yJ2_indexOfSupplementary_4cfef, Cond.code yJ2_indexOfSupplementary_4cfef cJ2_indexOfSupplementary_4cfef 7 (some .int), Cond.methodLink RJ2 164 yJ11_isValidCodePoint_9a6ad, Cond.static yJ11_isValidCodePoint_9a6ad]
def wsX10_fault_r5 : List Cond := [Cond.initialized RJ11, Cond.code yJ11_isValidCodePoint_9a6ad cJ11_isValidCodePoint_9a6ad 2 (some .boolean), Cond.methodLink RJ2 157 yJ11_highSurrogate_5068e, Cond.static yJ11_highSurrogate_5068e, Cond.code yJ11_highSurrogate_5068e cJ11_highSurrogate_5068e 1 (some .char), Cond.constant RJ11 110 (55232), Cond.methodLink RJ2 161 yJ11_lowSurrogate_5068e, Cond.static yJ11_lowSurrogate_5068e, Cond.code yJ11_lowSurrogate_5068e cJ11_lowSurrogate_5068e 1 (some .char), Cond.constant RJ11 76 (56320), Cond.methodLink RX6 34 yX6_fitsThings, Cond.static yX6_fitsThings, Cond.code yX6_fitsThings cX6_fitsThings 4 (some .boolean)]
def wsX10_fault : List Cond := .code yX10_fault cX10_fault 1 (some .int) :: ((wsX10_fault_r1 ++ (wsX10_fault_r2 ++ (wsX10_fault_r3 ++ (wsX10_fault_r4 ++ wsX10_fault_r5)))) ++ wsX100 ++ wsX60)
def wsX10_diceByLetter_r1 : List Cond := [Cond.fieldLink RX10 35 "KingdomAtDice" "kinds" "[LKingdomAtDice$Dice;", Cond.methodLink RX10 292 yJ0_indexOf_0f7a4, Cond.instanceMethod yJ0_indexOf_0f7a4, Cond.selects RJ0 yJ0_indexOf_0f7a4 yJ0_indexOf_0f7a4, Cond.initialized RJ0, Cond.code yJ0_indexOf_0f7a4 cJ0_indexOf_0f7a4 2 (some .int), Cond.methodLink RJ0 633 yJ0_indexOf_7cf53, Cond.instanceMethod yJ0_indexOf_7cf53, Cond.selects RJ0 yJ0_indexOf_7cf53 yJ0_indexOf_7cf53, Cond.code yJ0_indexOf_7cf53 cJ0_indexOf_7cf53 3 (some .int), Cond.fieldLink RJ0 9 "java/lang/String" "value" "[B", Cond.methodLink RJ0 492 yJ0_isLatin1_aae02, Cond.instanceMethod yJ0_isLatin1_aae02, Cond.selects RJ0 yJ0_isLatin1_aae02 yJ0_isLatin1_aae02, Cond.code yJ0_isLatin1_aae02 cJ0_isLatin1_aae02 1 (some .boolean), Cond.fieldLink RJ0 38 "java/lang/String" "COMPACT_STRINGS" "Z", Cond.fieldLink RJ0 15 "java/lang/String" "coder" "B", Cond.methodLink RJ0 505 yJ0_length_8abf5, Cond.instanceMethod yJ0_length_8abf5, Cond.selects RJ0 yJ0_length_8abf5 yJ0_length_8abf5, Cond.code yJ0_length_8abf5 cJ0_length_8abf5 1 (some .int), Cond.methodLink RJ0 335 yJ0_coder_7d493, Cond.instanceMethod yJ0_coder_7d493, Cond.selects RJ0 yJ0_coder_7d493 yJ0_coder_7d493]
def wsX10_diceByLetter_r2 : List Cond := [Cond.code yJ0_coder_7d493 cJ0_coder_7d493 1 (some .byte), Cond.methodLink RJ0 637 yJ1_indexOf_4cfef, Cond.static yJ1_indexOf_4cfef, Cond.initialized RJ1, Cond.code yJ1_indexOf_4cfef cJ1_indexOf_4cfef 4 (some .int), Cond.methodLink RJ1 92 Lib.Math.max.name, Cond.static Lib.Math.max.name, Cond.initialized "java/lang/Math", Cond.code Lib.Math.max.name Lib.Math.max.code 2 (some .int), Cond.methodLink RJ1 38 Lib.Math.min.name, Cond.static Lib.Math.min.name, Cond.code Lib.Math.min.name Lib.Math.min.code 2 (some .int), Cond.methodLink RJ1 88 yJ1_canEncode_9a6ad, Cond.static yJ1_canEncode_9a6ad, Cond.code yJ1_canEncode_9a6ad cJ1_canEncode_9a6ad 1 (some .boolean), Cond.methodLink RJ1 95 yJ1_indexOfChar_4cfef, Cond.static yJ1_indexOfChar_4cfef, Cond.code yJ1_indexOfChar_4cfef cJ1_indexOfChar_4cfef 6 (some .int), Cond.methodLink RJ0 640 yJ2_indexOf_4cfef, Cond.static yJ2_indexOf_4cfef, Cond.initialized RJ2, Cond.code yJ2_indexOf_4cfef cJ2_indexOf_4cfef 4 (some .int), Cond.methodLink RJ2 224 Lib.Math.max.name, Cond.methodLink RJ2 183 Lib.Math.min.name]
def wsX10_diceByLetter_r3 : List Cond := [Cond.constant RJ2 227 (65536), Cond.methodLink RJ2 228 yJ2_indexOfChar_4cfef, Cond.static yJ2_indexOfChar_4cfef, Cond.code yJ2_indexOfChar_4cfef cJ2_indexOfChar_4cfef 4 (some .int), Cond.methodLink RJ2 96 yJ2_checkBoundsBeginEnd_d044e, Cond.static yJ2_checkBoundsBeginEnd_d044e, Cond.code yJ2_checkBoundsBeginEnd_d044e cJ2_checkBoundsBeginEnd_d044e 3 none, Cond.methodLink RJ2 48 yJ2_length_9d52b, Cond.static yJ2_length_9d52b, Cond.code yJ2_length_9d52b cJ2_length_9d52b 1 (some .int), Cond.methodLink RJ2 241 yJ0_checkBoundsBeginEnd_23922, Cond.static yJ0_checkBoundsBeginEnd_23922, Cond.code yJ0_checkBoundsBeginEnd_23922 cJ0_checkBoundsBeginEnd_23922 3 none, Cond.fieldLink RJ0 1053 "jdk/internal/util/Preconditions" "SIOOBE_FORMATTER" "Ljava/util/function/BiFunction;", Cond.methodLink RJ0 1062 yJ3_checkFromToIndex_8c36e, Cond.static yJ3_checkFromToIndex_8c36e, Cond.initialized RJ3, Cond.code yJ3_checkFromToIndex_8c36e cJ3_checkFromToIndex_8c36e 4 (some .int), Cond.methodLink RJ2 244 yJ2_indexOfCharUnsafe_4cfef, Cond.static yJ2_indexOfCharUnsafe_4cfef, Cond.code yJ2_indexOfCharUnsafe_4cfef cJ2_indexOfCharUnsafe_4cfef 5 (some .int), Cond.methodLink RJ2 71 yJ2_getChar_3b067, Cond.static yJ2_getChar_3b067, Cond.code yJ2_getChar_3b067 cJ2_getChar_3b067 2 (some .char)]
def wsX10_diceByLetter_r4 : List Cond := [Cond.fieldLink RJ2 44 "java/lang/StringUTF16" "$assertionsDisabled" "Z", Cond.fieldLink RJ2 59 "java/lang/StringUTF16" "HI_BYTE_SHIFT" "I", Cond.fieldLink RJ2 63 "java/lang/StringUTF16" "LO_BYTE_SHIFT" "I", Cond.methodLink RJ2 232 yJ2_indexOfSupplementary_4cfef, Cond.static yJ2_indexOfSupplementary_4cfef, Cond.code yJ2_indexOfSupplementary_4cfef cJ2_indexOfSupplementary_4cfef 7 (some .int), Cond.methodLink RJ2 164 yJ11_isValidCodePoint_9a6ad, Cond.static yJ11_isValidCodePoint_9a6ad, Cond.initialized RJ11, Cond.code yJ11_isValidCodePoint_9a6ad cJ11_isValidCodePoint_9a6ad 2 (some .boolean), Cond.methodLink RJ2 157 yJ11_highSurrogate_5068e, Cond.static yJ11_highSurrogate_5068e, Cond.code yJ11_highSurrogate_5068e cJ11_highSurrogate_5068e 1 (some .char), Cond.constant RJ11 110 (55232), Cond.methodLink RJ2 161 yJ11_lowSurrogate_5068e, Cond.static yJ11_lowSurrogate_5068e, Cond.code yJ11_lowSurrogate_5068e cJ11_lowSurrogate_5068e 1 (some .char), Cond.constant RJ11 76 (56320), Cond.methodLink RX10 121 yX10_isBelow, Cond.static yX10_isBelow, Cond.initialized RX10, Cond.code yX10_isBelow cX10_isBelow 2 (some .boolean)]
def wsX10_diceByLetter : List Cond := .code yX10_diceByLetter cX10_diceByLetter 3 (some (.object "KingdomAtDice$Dice")) :: ((wsX10_diceByLetter_r1 ++ (wsX10_diceByLetter_r2 ++ (wsX10_diceByLetter_r3 ++ wsX10_diceByLetter_r4))) ++ wsX100)
def wsX10_hall_r1 : List Cond := [Cond.fieldLink RX10 10 "KingdomAtDice" "page" "LKingdomAtDice$Page;", Cond.fieldLink RX10 56 "KingdomAtDice" "now" "LKingdomAtDice$Standing;", Cond.fieldLink RX10 63 "KingdomAtDice" "kingDice" "LKingdomAtDice$Dice;", Cond.fieldLink RX10 67 "KingdomAtDice" "cousinDice" "LKingdomAtDice$Dice;", Cond.fieldLink RX10 42 "KingdomAtDice" "odds" "LKingdomAtDice$Odds;", Cond.fieldLink RX10 70 "KingdomAtDice" "isKept" "Z", Cond.fieldLink RX10 74 "KingdomAtDice" "hallsRead" "I", Cond.instanceMethod yX6_isHall, Cond.initialized RX6, Cond.selects RX6 yX6_isHall yX6_isHall, Cond.code yX6_isHall cX6_isHall 1 (some .boolean), Cond.fieldLink RX6 15 "KingdomAtDice$Page" "length" "I", Cond.methodLink RX6 27 yX6_codeAt, Cond.instanceMethod yX6_codeAt, Cond.selects RX6 yX6_codeAt yX6_codeAt, Cond.code yX6_codeAt cX6_codeAt 2 (some .int), Cond.fieldLink RX6 9 "KingdomAtDice$Page" "codes" "[I", Cond.static yX10_isBelow, Cond.initialized RX10, Cond.code yX10_isBelow cX10_isBelow 2 (some .boolean), Cond.methodLink RX6 47 yX6_faultPlace, Cond.instanceMethod yX6_faultPlace, Cond.selects RX6 yX6_faultPlace yX6_faultPlace, Cond.code yX6_faultPlace cX6_faultPlace 5 (some .int)]
def wsX10_hall_r2 : List Cond := [Cond.methodLink RX6 31 yX6_fitsBehind, Cond.static yX6_fitsBehind, Cond.code yX6_fitsBehind cX6_fitsBehind 2 (some .boolean), Cond.methodLink RX6 40 yJ0_indexOf_0f7a4, Cond.instanceMethod yJ0_indexOf_0f7a4, Cond.selects RJ0 yJ0_indexOf_0f7a4 yJ0_indexOf_0f7a4, Cond.initialized RJ0, Cond.code yJ0_indexOf_0f7a4 cJ0_indexOf_0f7a4 2 (some .int), Cond.methodLink RJ0 633 yJ0_indexOf_7cf53, Cond.instanceMethod yJ0_indexOf_7cf53, Cond.selects RJ0 yJ0_indexOf_7cf53 yJ0_indexOf_7cf53, Cond.code yJ0_indexOf_7cf53 cJ0_indexOf_7cf53 3 (some .int), Cond.fieldLink RJ0 9 "java/lang/String" "value" "[B", Cond.methodLink RJ0 492 yJ0_isLatin1_aae02, Cond.instanceMethod yJ0_isLatin1_aae02, Cond.selects RJ0 yJ0_isLatin1_aae02 yJ0_isLatin1_aae02, Cond.code yJ0_isLatin1_aae02 cJ0_isLatin1_aae02 1 (some .boolean), Cond.fieldLink RJ0 38 "java/lang/String" "COMPACT_STRINGS" "Z", Cond.fieldLink RJ0 15 "java/lang/String" "coder" "B", Cond.methodLink RJ0 505 yJ0_length_8abf5, Cond.instanceMethod yJ0_length_8abf5, Cond.selects RJ0 yJ0_length_8abf5 yJ0_length_8abf5, Cond.code yJ0_length_8abf5 cJ0_length_8abf5 1 (some .int), Cond.methodLink RJ0 335 yJ0_coder_7d493]
def wsX10_hall_r3 : List Cond := [Cond.instanceMethod yJ0_coder_7d493, Cond.selects RJ0 yJ0_coder_7d493 yJ0_coder_7d493, Cond.code yJ0_coder_7d493 cJ0_coder_7d493 1 (some .byte), Cond.methodLink RJ0 637 yJ1_indexOf_4cfef, Cond.static yJ1_indexOf_4cfef, Cond.initialized RJ1, Cond.code yJ1_indexOf_4cfef cJ1_indexOf_4cfef 4 (some .int), Cond.methodLink RJ1 92 Lib.Math.max.name, Cond.static Lib.Math.max.name, Cond.initialized "java/lang/Math", Cond.code Lib.Math.max.name Lib.Math.max.code 2 (some .int), Cond.methodLink RJ1 38 Lib.Math.min.name, Cond.static Lib.Math.min.name, Cond.code Lib.Math.min.name Lib.Math.min.code 2 (some .int), Cond.methodLink RJ1 88 yJ1_canEncode_9a6ad, Cond.static yJ1_canEncode_9a6ad, Cond.code yJ1_canEncode_9a6ad cJ1_canEncode_9a6ad 1 (some .boolean), Cond.methodLink RJ1 95 yJ1_indexOfChar_4cfef, Cond.static yJ1_indexOfChar_4cfef, Cond.code yJ1_indexOfChar_4cfef cJ1_indexOfChar_4cfef 6 (some .int), Cond.methodLink RJ0 640 yJ2_indexOf_4cfef, Cond.static yJ2_indexOf_4cfef, Cond.initialized RJ2, Cond.code yJ2_indexOf_4cfef cJ2_indexOf_4cfef 4 (some .int)]
def wsX10_hall_r4 : List Cond := [Cond.methodLink RJ2 224 Lib.Math.max.name, Cond.methodLink RJ2 183 Lib.Math.min.name, Cond.constant RJ2 227 (65536), Cond.methodLink RJ2 228 yJ2_indexOfChar_4cfef, Cond.static yJ2_indexOfChar_4cfef, Cond.code yJ2_indexOfChar_4cfef cJ2_indexOfChar_4cfef 4 (some .int), Cond.methodLink RJ2 96 yJ2_checkBoundsBeginEnd_d044e, Cond.static yJ2_checkBoundsBeginEnd_d044e, Cond.code yJ2_checkBoundsBeginEnd_d044e cJ2_checkBoundsBeginEnd_d044e 3 none, Cond.methodLink RJ2 48 yJ2_length_9d52b, Cond.static yJ2_length_9d52b, Cond.code yJ2_length_9d52b cJ2_length_9d52b 1 (some .int), Cond.methodLink RJ2 241 yJ0_checkBoundsBeginEnd_23922, Cond.static yJ0_checkBoundsBeginEnd_23922, Cond.code yJ0_checkBoundsBeginEnd_23922 cJ0_checkBoundsBeginEnd_23922 3 none, Cond.fieldLink RJ0 1053 "jdk/internal/util/Preconditions" "SIOOBE_FORMATTER" "Ljava/util/function/BiFunction;", Cond.methodLink RJ0 1062 yJ3_checkFromToIndex_8c36e, Cond.static yJ3_checkFromToIndex_8c36e, Cond.initialized RJ3, Cond.code yJ3_checkFromToIndex_8c36e cJ3_checkFromToIndex_8c36e 4 (some .int), Cond.methodLink RJ2 244 yJ2_indexOfCharUnsafe_4cfef, Cond.static yJ2_indexOfCharUnsafe_4cfef, Cond.code yJ2_indexOfCharUnsafe_4cfef cJ2_indexOfCharUnsafe_4cfef 5 (some .int), Cond.methodLink RJ2 71 yJ2_getChar_3b067]
def wsX10_hall_r5 : List Cond := [Cond.static yJ2_getChar_3b067, Cond.code yJ2_getChar_3b067 cJ2_getChar_3b067 2 (some .char), Cond.fieldLink RJ2 44 "java/lang/StringUTF16" "$assertionsDisabled" "Z", Cond.fieldLink RJ2 59 "java/lang/StringUTF16" "HI_BYTE_SHIFT" "I", Cond.fieldLink RJ2 63 "java/lang/StringUTF16" "LO_BYTE_SHIFT" "I", Cond.methodLink RJ2 232 yJ2_indexOfSupplementary_4cfef, Cond.static yJ2_indexOfSupplementary_4cfef, Cond.code yJ2_indexOfSupplementary_4cfef cJ2_indexOfSupplementary_4cfef 7 (some .int), Cond.methodLink RJ2 164 yJ11_isValidCodePoint_9a6ad, Cond.static yJ11_isValidCodePoint_9a6ad, Cond.initialized RJ11, Cond.code yJ11_isValidCodePoint_9a6ad cJ11_isValidCodePoint_9a6ad 2 (some .boolean), Cond.methodLink RJ2 157 yJ11_highSurrogate_5068e, Cond.static yJ11_highSurrogate_5068e, Cond.code yJ11_highSurrogate_5068e cJ11_highSurrogate_5068e 1 (some .char), Cond.constant RJ11 110 (55232), Cond.methodLink RJ2 161 yJ11_lowSurrogate_5068e, Cond.static yJ11_lowSurrogate_5068e, Cond.code yJ11_lowSurrogate_5068e cJ11_lowSurrogate_5068e 1 (some .char), Cond.constant RJ11 76 (56320), Cond.methodLink RX6 34 yX6_fitsThings, Cond.static yX6_fitsThings, Cond.code yX6_fitsThings cX6_fitsThings 4 (some .boolean), Cond.instanceMethod yX7_begin]
def wsX10_hall_r6 : List Cond := [Cond.initialized RX7, Cond.selects RX7 yX7_begin yX7_begin, Cond.code yX7_begin cX7_begin 3 none, Cond.fieldLink RX7 11 "KingdomAtDice$Standing" "things" "[LKingdomAtDice$Thing;", Cond.methodLink RX7 41 Lib.Math.min.name, Cond.fieldLink RX7 22 "KingdomAtDice$Standing" "thingMany" "I", Cond.fieldLink RX7 26 "KingdomAtDice$Standing" "gold" "I", Cond.fieldLink RX7 29 "KingdomAtDice$Standing" "throwMany" "I", Cond.fieldLink RX7 32 "KingdomAtDice$Standing" "seenMany" "I", Cond.instanceMethod yX6_hallThings, Cond.selects RX6 yX6_hallThings yX6_hallThings, Cond.code yX6_hallThings cX6_hallThings 1 (some .int), Cond.instanceMethod yX6_hallSort, Cond.selects RX6 yX6_hallSort yX6_hallSort, Cond.code yX6_hallSort cX6_hallSort 2 (some .int), Cond.instanceMethod yX6_hallWorth, Cond.selects RX6 yX6_hallWorth yX6_hallWorth, Cond.code yX6_hallWorth cX6_hallWorth 2 (some .int), Cond.instanceMethod yX8_begin, Cond.initialized RX8, Cond.selects RX8 yX8_begin yX8_begin, Cond.code yX8_begin cX8_begin 3 none, Cond.fieldLink RX8 9 "KingdomAtDice$Thing" "sort" "I", Cond.fieldLink RX8 15 "KingdomAtDice$Thing" "worth" "I"]
def wsX10_hall_r7 : List Cond := [Cond.fieldLink RX8 18 "KingdomAtDice$Thing" "isKings" "Z", Cond.fieldLink RX8 22 "KingdomAtDice$Thing" "lostBy" "I", Cond.fieldLink RX8 25 "KingdomAtDice$Thing" "rightly" "I", Cond.fieldLink RX8 28 "KingdomAtDice$Thing" "overs" "I", Cond.instanceMethod yX6_kingKindCode, Cond.selects RX6 yX6_kingKindCode yX6_kingKindCode, Cond.code yX6_kingKindCode cX6_kingKindCode 1 (some .int), Cond.methodLink RX10 103 yX10_diceByLetter, Cond.instanceMethod yX10_diceByLetter, Cond.selects RX10 yX10_diceByLetter yX10_diceByLetter, Cond.code yX10_diceByLetter cX10_diceByLetter 3 (some (.object "KingdomAtDice$Dice")), Cond.fieldLink RX10 35 "KingdomAtDice" "kinds" "[LKingdomAtDice$Dice;", Cond.methodLink RX10 292 yJ0_indexOf_0f7a4, Cond.methodLink RX10 121 yX10_isBelow, Cond.instanceMethod yX6_cousinKindCode, Cond.selects RX6 yX6_cousinKindCode yX6_cousinKindCode, Cond.code yX6_cousinKindCode cX6_cousinKindCode 1 (some .int), Cond.instanceMethod yX5_reckon, Cond.initialized RX5, Cond.selects RX5 yX5_reckon yX5_reckon, Cond.code yX5_reckon cX5_reckon 5 none, Cond.fieldLink RX5 9 "KingdomAtDice$Odds" "ways" "[I", Cond.fieldLink RX5 15 "KingdomAtDice$Odds" "total" "I", Cond.methodLink RX5 19 yX5_outcomeOf]
def wsX10_hall_r8 : List Cond := [Cond.static yX5_outcomeOf, Cond.code yX5_outcomeOf cX5_outcomeOf 2 (some .int), Cond.methodLink RX5 23 ⟨"KingdomAtDice$Dice", "waysOf", "(I)I"⟩, Cond.sameMethod "KingdomAtDice$Dice" "KingdomAtDice$Dice" "waysOf" "(I)I", Cond.selects RX0 ⟨"KingdomAtDice$Dice", "waysOf", "(I)I"⟩ yX1_waysOf, Cond.instanceMethod yX1_waysOf, Cond.initialized RX1, Cond.code yX1_waysOf cX1_waysOf 5 (some .int), Cond.fieldLink RX1 13 "KingdomAtDice$Dice" "least" "I", Cond.fieldLink RX1 16 "KingdomAtDice$Dice" "greatest" "I", Cond.static yX10_isSum, Cond.code yX10_isSum cX10_isSum 1 (some .boolean), Cond.methodLink RX5 23 yX1_waysOf, Cond.selects RX1 yX1_waysOf yX1_waysOf, Cond.selects RX3 ⟨"KingdomAtDice$Dice", "waysOf", "(I)I"⟩ yX1_waysOf, Cond.selects RX4 ⟨"KingdomAtDice$Dice", "waysOf", "(I)I"⟩ yX1_waysOf, Cond.instanceMethod ⟨"KingdomAtDice$Dice", "waysOf", "(I)I"⟩, Cond.selects RX9 ⟨"KingdomAtDice$Dice", "waysOf", "(I)I"⟩ yX9_waysOf, Cond.instanceMethod yX9_waysOf, Cond.initialized RX9, Cond.code yX9_waysOf cX9_waysOf 2 (some .int), Cond.methodLink RX5 29 ⟨"KingdomAtDice$Dice", "wayMany", "()I"⟩, Cond.sameMethod "KingdomAtDice$Dice" "KingdomAtDice$Dice" "wayMany" "()I", Cond.selects RX0 ⟨"KingdomAtDice$Dice", "wayMany", "()I"⟩ yX1_wayMany]
def wsX10_hall_r9 : List Cond := [Cond.instanceMethod yX1_wayMany, Cond.code yX1_wayMany cX1_wayMany 1 (some .int), Cond.methodLink RX1 23 ⟨"KingdomAtDice$Dice", "faces", "()I"⟩, Cond.sameMethod "KingdomAtDice$Dice" "KingdomAtDice$Dice" "faces" "()I", Cond.selects RX0 ⟨"KingdomAtDice$Dice", "faces", "()I"⟩ yX1_faces, Cond.instanceMethod yX1_faces, Cond.code yX1_faces cX1_faces 1 (some .int), Cond.methodLink RX1 23 yX1_faces, Cond.selects RX1 yX1_faces yX1_faces, Cond.selects RX3 ⟨"KingdomAtDice$Dice", "faces", "()I"⟩ yX1_faces, Cond.selects RX4 ⟨"KingdomAtDice$Dice", "faces", "()I"⟩ yX1_faces, Cond.selects RX9 ⟨"KingdomAtDice$Dice", "faces", "()I"⟩ yX1_faces, Cond.methodLink RX5 29 yX1_wayMany, Cond.selects RX1 yX1_wayMany yX1_wayMany, Cond.selects RX3 ⟨"KingdomAtDice$Dice", "wayMany", "()I"⟩ yX1_wayMany, Cond.selects RX4 ⟨"KingdomAtDice$Dice", "wayMany", "()I"⟩ yX1_wayMany, Cond.instanceMethod ⟨"KingdomAtDice$Dice", "wayMany", "()I"⟩, Cond.selects RX9 ⟨"KingdomAtDice$Dice", "wayMany", "()I"⟩ yX9_wayMany, Cond.instanceMethod yX9_wayMany, Cond.code yX9_wayMany cX9_wayMany 1 (some .int), Cond.methodLink RX9 9 ⟨"KingdomAtDice$Twins", "faces", "()I"⟩, Cond.sameMethod "KingdomAtDice$Twins" "KingdomAtDice$Dice" "faces" "()I", Cond.selects RX9 ⟨"KingdomAtDice$Twins", "faces", "()I"⟩ yX1_faces, Cond.instanceMethod yX6_clear]
def wsX10_hall_r10 : List Cond := [Cond.selects RX6 yX6_clear yX6_clear, Cond.code yX6_clear cX6_clear 2 (some .int)]
def wsX10_hall : List Cond := .code yX10_hall cX10_hall 1 (some .int) :: ((wsX10_hall_r1 ++ (wsX10_hall_r2 ++ (wsX10_hall_r3 ++ (wsX10_hall_r4 ++ (wsX10_hall_r5 ++ (wsX10_hall_r6 ++ (wsX10_hall_r7 ++ (wsX10_hall_r8 ++ (wsX10_hall_r9 ++ wsX10_hall_r10))))))))) ++ wsX100 ++ wsX70 ++ wsX60 ++ wsX80 ++ wsX50 ++ wsX00 ++ wsX10 ++ wsX30 ++ wsX40 ++ wsX90)
def wsX10_thing : List Cond := .code yX10_thing cX10_thing 3 (some .int) :: ([.fieldLink RX10 56 "KingdomAtDice" "now" "LKingdomAtDice$Standing;", .instanceMethod yX7_has, .initialized RX7, .selects RX7 yX7_has yX7_has, .code yX7_has cX7_has 2 (some .boolean), .fieldLink RX7 22 "KingdomAtDice$Standing" "thingMany" "I", .static yX10_isBelow, .initialized RX10, .code yX10_isBelow cX10_isBelow 2 (some .boolean), .methodLink RX10 121 yX10_isBelow, .instanceMethod yX8_tell, .initialized RX8, .selects RX8 yX8_tell yX8_tell, .code yX8_tell cX8_tell 2 (some .int), .fieldLink RX8 9 "KingdomAtDice$Thing" "sort" "I", .fieldLink RX8 15 "KingdomAtDice$Thing" "worth" "I", .fieldLink RX8 18 "KingdomAtDice$Thing" "isKings" "Z", .fieldLink RX8 22 "KingdomAtDice$Thing" "lostBy" "I", .fieldLink RX8 25 "KingdomAtDice$Thing" "rightly" "I", .fieldLink RX8 28 "KingdomAtDice$Thing" "overs" "I"] ++ wsX100 ++ wsX70 ++ wsX80)
def wsX10_hasDice : List Cond := .code yX10_hasDice cX10_hasDice 2 (some .boolean) :: ([.fieldLink RX10 56 "KingdomAtDice" "now" "LKingdomAtDice$Standing;", .instanceMethod yX7_hasHall, .initialized RX7, .selects RX7 yX7_hasHall yX7_hasHall, .code yX7_hasHall cX7_hasHall 1 (some .boolean), .fieldLink RX7 22 "KingdomAtDice$Standing" "thingMany" "I"] ++ wsX100 ++ wsX70)
def wsX10_diceOf : List Cond := .code yX10_diceOf cX10_diceOf 2 (some (.object "KingdomAtDice$Dice")) :: ([.fieldLink RX10 63 "KingdomAtDice" "kingDice" "LKingdomAtDice$Dice;", .fieldLink RX10 67 "KingdomAtDice" "cousinDice" "LKingdomAtDice$Dice;"] ++ wsX100)
def wsX10_dice_r1 : List Cond := [Cond.methodLink RX10 134 yX10_hasDice, Cond.instanceMethod yX10_hasDice, Cond.selects RX10 yX10_hasDice yX10_hasDice, Cond.initialized RX10, Cond.code yX10_hasDice cX10_hasDice 2 (some .boolean), Cond.fieldLink RX10 56 "KingdomAtDice" "now" "LKingdomAtDice$Standing;", Cond.instanceMethod yX7_hasHall, Cond.initialized RX7, Cond.selects RX7 yX7_hasHall yX7_hasHall, Cond.code yX7_hasHall cX7_hasHall 1 (some .boolean), Cond.fieldLink RX7 22 "KingdomAtDice$Standing" "thingMany" "I", Cond.methodLink RX10 121 yX10_isBelow, Cond.static yX10_isBelow, Cond.code yX10_isBelow cX10_isBelow 2 (some .boolean), Cond.methodLink RX10 137 yX10_diceOf, Cond.instanceMethod yX10_diceOf, Cond.selects RX10 yX10_diceOf yX10_diceOf, Cond.code yX10_diceOf cX10_diceOf 2 (some (.object "KingdomAtDice$Dice")), Cond.fieldLink RX10 63 "KingdomAtDice" "kingDice" "LKingdomAtDice$Dice;", Cond.fieldLink RX10 67 "KingdomAtDice" "cousinDice" "LKingdomAtDice$Dice;", Cond.methodLink RX10 140 ⟨"KingdomAtDice$Dice", "tell", "(I)I"⟩, Cond.sameMethod "KingdomAtDice$Dice" "KingdomAtDice$Dice" "tell" "(I)I", Cond.selects RX0 ⟨"KingdomAtDice$Dice", "tell", "(I)I"⟩ yX1_tell, Cond.instanceMethod yX1_tell]
def wsX10_dice_r2 : List Cond := [Cond.initialized RX1, Cond.code yX1_tell cX1_tell 2 (some .int), Cond.fieldLink RX1 7 "KingdomAtDice$Dice" "kind" "I", Cond.fieldLink RX1 13 "KingdomAtDice$Dice" "least" "I", Cond.fieldLink RX1 16 "KingdomAtDice$Dice" "greatest" "I", Cond.methodLink RX1 19 ⟨"KingdomAtDice$Dice", "wayMany", "()I"⟩, Cond.sameMethod "KingdomAtDice$Dice" "KingdomAtDice$Dice" "wayMany" "()I", Cond.selects RX0 ⟨"KingdomAtDice$Dice", "wayMany", "()I"⟩ yX1_wayMany, Cond.instanceMethod yX1_wayMany, Cond.code yX1_wayMany cX1_wayMany 1 (some .int), Cond.methodLink RX1 23 ⟨"KingdomAtDice$Dice", "faces", "()I"⟩, Cond.sameMethod "KingdomAtDice$Dice" "KingdomAtDice$Dice" "faces" "()I", Cond.selects RX0 ⟨"KingdomAtDice$Dice", "faces", "()I"⟩ yX1_faces, Cond.instanceMethod yX1_faces, Cond.code yX1_faces cX1_faces 1 (some .int), Cond.methodLink RX1 23 yX1_faces, Cond.selects RX1 yX1_faces yX1_faces, Cond.selects RX3 ⟨"KingdomAtDice$Dice", "faces", "()I"⟩ yX1_faces, Cond.selects RX4 ⟨"KingdomAtDice$Dice", "faces", "()I"⟩ yX1_faces, Cond.selects RX9 ⟨"KingdomAtDice$Dice", "faces", "()I"⟩ yX1_faces, Cond.methodLink RX1 19 yX1_wayMany, Cond.selects RX1 yX1_wayMany yX1_wayMany, Cond.selects RX3 ⟨"KingdomAtDice$Dice", "wayMany", "()I"⟩ yX1_wayMany, Cond.selects RX4 ⟨"KingdomAtDice$Dice", "wayMany", "()I"⟩ yX1_wayMany]
def wsX10_dice_r3 : List Cond := [Cond.instanceMethod ⟨"KingdomAtDice$Dice", "wayMany", "()I"⟩, Cond.selects RX9 ⟨"KingdomAtDice$Dice", "wayMany", "()I"⟩ yX9_wayMany, Cond.instanceMethod yX9_wayMany, Cond.initialized RX9, Cond.code yX9_wayMany cX9_wayMany 1 (some .int), Cond.methodLink RX9 9 ⟨"KingdomAtDice$Twins", "faces", "()I"⟩, Cond.sameMethod "KingdomAtDice$Twins" "KingdomAtDice$Dice" "faces" "()I", Cond.selects RX9 ⟨"KingdomAtDice$Twins", "faces", "()I"⟩ yX1_faces, Cond.methodLink RX10 140 yX1_tell, Cond.selects RX1 yX1_tell yX1_tell, Cond.selects RX3 ⟨"KingdomAtDice$Dice", "tell", "(I)I"⟩ yX1_tell, Cond.selects RX4 ⟨"KingdomAtDice$Dice", "tell", "(I)I"⟩ yX1_tell, Cond.selects RX9 ⟨"KingdomAtDice$Dice", "tell", "(I)I"⟩ yX1_tell]
def wsX10_dice : List Cond := .code yX10_dice cX10_dice 3 (some .int) :: ((wsX10_dice_r1 ++ (wsX10_dice_r2 ++ wsX10_dice_r3)) ++ wsX100 ++ wsX70 ++ wsX00 ++ wsX10 ++ wsX30 ++ wsX40 ++ wsX90)
def wsX10_isOfKind : List Cond := .code yX10_isOfKind cX10_isOfKind 2 (some .boolean) :: ([.classLink RX10 21 "KingdomAtDice$Heavy", .classLink RX10 26 "KingdomAtDice$Twins", .classLink RX10 29 "KingdomAtDice$Light", .classLink RX10 32 "KingdomAtDice$Bone"])
def wsX10_as_r1 : List Cond := [Cond.methodLink RX10 134 yX10_hasDice, Cond.instanceMethod yX10_hasDice, Cond.selects RX10 yX10_hasDice yX10_hasDice, Cond.initialized RX10, Cond.code yX10_hasDice cX10_hasDice 2 (some .boolean), Cond.fieldLink RX10 56 "KingdomAtDice" "now" "LKingdomAtDice$Standing;", Cond.instanceMethod yX7_hasHall, Cond.initialized RX7, Cond.selects RX7 yX7_hasHall yX7_hasHall, Cond.code yX7_hasHall cX7_hasHall 1 (some .boolean), Cond.fieldLink RX7 22 "KingdomAtDice$Standing" "thingMany" "I", Cond.methodLink RX10 121 yX10_isBelow, Cond.static yX10_isBelow, Cond.code yX10_isBelow cX10_isBelow 2 (some .boolean), Cond.methodLink RX10 137 yX10_diceOf, Cond.instanceMethod yX10_diceOf, Cond.selects RX10 yX10_diceOf yX10_diceOf, Cond.code yX10_diceOf cX10_diceOf 2 (some (.object "KingdomAtDice$Dice")), Cond.fieldLink RX10 63 "KingdomAtDice" "kingDice" "LKingdomAtDice$Dice;", Cond.fieldLink RX10 67 "KingdomAtDice" "cousinDice" "LKingdomAtDice$Dice;", Cond.methodLink RX10 141 yX10_isOfKind, Cond.static yX10_isOfKind, Cond.code yX10_isOfKind cX10_isOfKind 2 (some .boolean), Cond.classLink RX10 21 "KingdomAtDice$Heavy"]
def wsX10_as_r2 : List Cond := [Cond.classLink RX10 26 "KingdomAtDice$Twins", Cond.classLink RX10 29 "KingdomAtDice$Light", Cond.classLink RX10 32 "KingdomAtDice$Bone"]
def wsX10_as : List Cond := .code yX10_as cX10_as 3 (some .int) :: ((wsX10_as_r1 ++ wsX10_as_r2) ++ wsX100 ++ wsX70)
def wsX10_ways_r1 : List Cond := [Cond.methodLink RX10 134 yX10_hasDice, Cond.instanceMethod yX10_hasDice, Cond.selects RX10 yX10_hasDice yX10_hasDice, Cond.initialized RX10, Cond.code yX10_hasDice cX10_hasDice 2 (some .boolean), Cond.fieldLink RX10 56 "KingdomAtDice" "now" "LKingdomAtDice$Standing;", Cond.instanceMethod yX7_hasHall, Cond.initialized RX7, Cond.selects RX7 yX7_hasHall yX7_hasHall, Cond.code yX7_hasHall cX7_hasHall 1 (some .boolean), Cond.fieldLink RX7 22 "KingdomAtDice$Standing" "thingMany" "I", Cond.methodLink RX10 145 yX10_isSum, Cond.static yX10_isSum, Cond.code yX10_isSum cX10_isSum 1 (some .boolean), Cond.methodLink RX10 137 yX10_diceOf, Cond.instanceMethod yX10_diceOf, Cond.selects RX10 yX10_diceOf yX10_diceOf, Cond.code yX10_diceOf cX10_diceOf 2 (some (.object "KingdomAtDice$Dice")), Cond.fieldLink RX10 63 "KingdomAtDice" "kingDice" "LKingdomAtDice$Dice;", Cond.fieldLink RX10 67 "KingdomAtDice" "cousinDice" "LKingdomAtDice$Dice;", Cond.methodLink RX10 148 ⟨"KingdomAtDice$Dice", "waysOf", "(I)I"⟩, Cond.sameMethod "KingdomAtDice$Dice" "KingdomAtDice$Dice" "waysOf" "(I)I", Cond.selects RX0 ⟨"KingdomAtDice$Dice", "waysOf", "(I)I"⟩ yX1_waysOf, Cond.instanceMethod yX1_waysOf]
def wsX10_ways_r2 : List Cond := [Cond.initialized RX1, Cond.code yX1_waysOf cX1_waysOf 5 (some .int), Cond.fieldLink RX1 13 "KingdomAtDice$Dice" "least" "I", Cond.fieldLink RX1 16 "KingdomAtDice$Dice" "greatest" "I", Cond.methodLink RX10 148 yX1_waysOf, Cond.selects RX1 yX1_waysOf yX1_waysOf, Cond.selects RX3 ⟨"KingdomAtDice$Dice", "waysOf", "(I)I"⟩ yX1_waysOf, Cond.selects RX4 ⟨"KingdomAtDice$Dice", "waysOf", "(I)I"⟩ yX1_waysOf, Cond.instanceMethod ⟨"KingdomAtDice$Dice", "waysOf", "(I)I"⟩, Cond.selects RX9 ⟨"KingdomAtDice$Dice", "waysOf", "(I)I"⟩ yX9_waysOf, Cond.instanceMethod yX9_waysOf, Cond.initialized RX9, Cond.code yX9_waysOf cX9_waysOf 2 (some .int)]
def wsX10_ways : List Cond := .code yX10_ways cX10_ways 3 (some .int) :: ((wsX10_ways_r1 ++ wsX10_ways_r2) ++ wsX100 ++ wsX70 ++ wsX00 ++ wsX10 ++ wsX30 ++ wsX40 ++ wsX90)
def wsX10_play_r1 : List Cond := [Cond.fieldLink RX10 56 "KingdomAtDice" "now" "LKingdomAtDice$Standing;", Cond.fieldLink RX10 63 "KingdomAtDice" "kingDice" "LKingdomAtDice$Dice;", Cond.fieldLink RX10 67 "KingdomAtDice" "cousinDice" "LKingdomAtDice$Dice;", Cond.instanceMethod yX7_has, Cond.initialized RX7, Cond.selects RX7 yX7_has yX7_has, Cond.code yX7_has cX7_has 2 (some .boolean), Cond.fieldLink RX7 22 "KingdomAtDice$Standing" "thingMany" "I", Cond.static yX10_isBelow, Cond.initialized RX10, Cond.code yX10_isBelow cX10_isBelow 2 (some .boolean), Cond.methodLink RX10 148 ⟨"KingdomAtDice$Dice", "waysOf", "(I)I"⟩, Cond.sameMethod "KingdomAtDice$Dice" "KingdomAtDice$Dice" "waysOf" "(I)I", Cond.selects RX0 ⟨"KingdomAtDice$Dice", "waysOf", "(I)I"⟩ yX1_waysOf, Cond.instanceMethod yX1_waysOf, Cond.initialized RX1, Cond.code yX1_waysOf cX1_waysOf 5 (some .int), Cond.fieldLink RX1 13 "KingdomAtDice$Dice" "least" "I", Cond.fieldLink RX1 16 "KingdomAtDice$Dice" "greatest" "I", Cond.static yX10_isSum, Cond.code yX10_isSum cX10_isSum 1 (some .boolean), Cond.methodLink RX10 148 yX1_waysOf, Cond.selects RX1 yX1_waysOf yX1_waysOf, Cond.selects RX3 ⟨"KingdomAtDice$Dice", "waysOf", "(I)I"⟩ yX1_waysOf]
def wsX10_play_r2 : List Cond := [Cond.selects RX4 ⟨"KingdomAtDice$Dice", "waysOf", "(I)I"⟩ yX1_waysOf, Cond.instanceMethod ⟨"KingdomAtDice$Dice", "waysOf", "(I)I"⟩, Cond.selects RX9 ⟨"KingdomAtDice$Dice", "waysOf", "(I)I"⟩ yX9_waysOf, Cond.instanceMethod yX9_waysOf, Cond.initialized RX9, Cond.code yX9_waysOf cX9_waysOf 2 (some .int), Cond.instanceMethod yX7_mayStake, Cond.selects RX7 yX7_mayStake yX7_mayStake, Cond.code yX7_mayStake cX7_mayStake 3 (some .boolean), Cond.fieldLink RX7 11 "KingdomAtDice$Standing" "things" "[LKingdomAtDice$Thing;", Cond.methodLink RX7 66 yX7_has, Cond.instanceMethod yX7_settle, Cond.selects RX7 yX7_settle yX7_settle, Cond.code yX7_settle cX7_settle 5 (some .int), Cond.fieldLink RX7 29 "KingdomAtDice$Standing" "throwMany" "I", Cond.fieldLink RX7 26 "KingdomAtDice$Standing" "gold" "I", Cond.methodLink RX7 77 yX7_mayStake, Cond.methodLink RX7 80 yX7_isSelfKings, Cond.instanceMethod yX7_isSelfKings, Cond.selects RX7 yX7_isSelfKings yX7_isSelfKings, Cond.code yX7_isSelfKings cX7_isSelfKings 2 (some .boolean), Cond.instanceMethod yX8_lose, Cond.initialized RX8, Cond.selects RX8 yX8_lose yX8_lose]
def wsX10_play_r3 : List Cond := [Cond.code yX8_lose cX8_lose 3 none, Cond.fieldLink RX8 18 "KingdomAtDice$Thing" "isKings" "Z", Cond.fieldLink RX8 22 "KingdomAtDice$Thing" "lostBy" "I", Cond.fieldLink RX8 25 "KingdomAtDice$Thing" "rightly" "I", Cond.fieldLink RX8 28 "KingdomAtDice$Thing" "overs" "I", Cond.instanceMethod yX8_comeBack, Cond.selects RX8 yX8_comeBack yX8_comeBack, Cond.code yX8_comeBack cX8_comeBack 1 none]
def wsX10_play : List Cond := .code yX10_play cX10_play 5 (some .int) :: ((wsX10_play_r1 ++ (wsX10_play_r2 ++ wsX10_play_r3)) ++ wsX100 ++ wsX70 ++ wsX00 ++ wsX10 ++ wsX30 ++ wsX40 ++ wsX90 ++ wsX80)
def wsX10_commonDivisor : List Cond := .code yX10_commonDivisor cX10_commonDivisor 11 (some .long) :: ([])
def wsX10_lowestTerm : List Cond := .code yX10_lowestTerm cX10_lowestTerm 9 (some .long) :: ([.methodLink RX10 297 yX10_commonDivisor, .static yX10_commonDivisor, .initialized RX10, .code yX10_commonDivisor cX10_commonDivisor 11 (some .long)])
def wsX10_odds : List Cond := .code yX10_odds cX10_odds 2 (some .int) :: ([.fieldLink RX10 56 "KingdomAtDice" "now" "LKingdomAtDice$Standing;", .fieldLink RX10 42 "KingdomAtDice" "odds" "LKingdomAtDice$Odds;", .methodLink RX10 121 yX10_isBelow, .static yX10_isBelow, .initialized RX10, .code yX10_isBelow cX10_isBelow 2 (some .boolean), .instanceMethod yX7_hasHall, .initialized RX7, .selects RX7 yX7_hasHall yX7_hasHall, .code yX7_hasHall cX7_hasHall 1 (some .boolean), .fieldLink RX7 22 "KingdomAtDice$Standing" "thingMany" "I", .instanceMethod yX5_waysTo, .initialized RX5, .selects RX5 yX5_waysTo yX5_waysTo, .code yX5_waysTo cX5_waysTo 2 (some .int), .fieldLink RX5 9 "KingdomAtDice$Odds" "ways" "[I", .methodLink RX10 170 yX10_lowestTerm, .static yX10_lowestTerm, .code yX10_lowestTerm cX10_lowestTerm 9 (some .long), .methodLink RX10 297 yX10_commonDivisor, .static yX10_commonDivisor, .code yX10_commonDivisor cX10_commonDivisor 11 (some .long)] ++ wsX100 ++ wsX50 ++ wsX70)
def wsX10_power : List Cond := .code yX10_power cX10_power 6 (some .long) :: ([])
def wsX10_waysBack : List Cond := .code yX10_waysBack cX10_waysBack 3 (some .long) :: ([.instanceMethod yX5_waysTo, .initialized RX5, .selects RX5 yX5_waysTo yX5_waysTo, .code yX5_waysTo cX5_waysTo 2 (some .int), .fieldLink RX5 9 "KingdomAtDice$Odds" "ways" "[I", .static yX10_isBelow, .initialized RX10, .code yX10_isBelow cX10_isBelow 2 (some .boolean), .methodLink RX10 190 yX10_power, .static yX10_power, .code yX10_power cX10_power 6 (some .long), .methodLink RX10 186 yX10_waysBack, .static yX10_waysBack] ++ wsX50)
def wsX10_back_r1 : List Cond := [Cond.fieldLink RX10 56 "KingdomAtDice" "now" "LKingdomAtDice$Standing;", Cond.constantLong RX10 174 (-101), Cond.constantLong RX10 176 (-102), Cond.constantLong RX10 181 (-103), Cond.fieldLink RX10 42 "KingdomAtDice" "odds" "LKingdomAtDice$Odds;", Cond.instanceMethod yX7_has, Cond.initialized RX7, Cond.selects RX7 yX7_has yX7_has, Cond.code yX7_has cX7_has 2 (some .boolean), Cond.fieldLink RX7 22 "KingdomAtDice$Standing" "thingMany" "I", Cond.static yX10_isBelow, Cond.initialized RX10, Cond.code yX10_isBelow cX10_isBelow 2 (some .boolean), Cond.methodLink RX10 121 yX10_isBelow, Cond.instanceMethod yX7_stakesFor, Cond.selects RX7 yX7_stakesFor yX7_stakesFor, Cond.code yX7_stakesFor cX7_stakesFor 4 (some .int), Cond.methodLink RX7 77 yX7_mayStake, Cond.instanceMethod yX7_mayStake, Cond.selects RX7 yX7_mayStake yX7_mayStake, Cond.code yX7_mayStake cX7_mayStake 3 (some .boolean), Cond.fieldLink RX7 11 "KingdomAtDice$Standing" "things" "[LKingdomAtDice$Thing;", Cond.methodLink RX7 66 yX7_has, Cond.methodLink RX10 186 yX10_waysBack]
def wsX10_back_r2 : List Cond := [Cond.static yX10_waysBack, Cond.code yX10_waysBack cX10_waysBack 3 (some .long), Cond.instanceMethod yX5_waysTo, Cond.initialized RX5, Cond.selects RX5 yX5_waysTo yX5_waysTo, Cond.code yX5_waysTo cX5_waysTo 2 (some .int), Cond.fieldLink RX5 9 "KingdomAtDice$Odds" "ways" "[I", Cond.methodLink RX10 190 yX10_power, Cond.static yX10_power, Cond.code yX10_power cX10_power 6 (some .long), Cond.methodLink RX10 170 yX10_lowestTerm, Cond.static yX10_lowestTerm, Cond.code yX10_lowestTerm cX10_lowestTerm 9 (some .long), Cond.methodLink RX10 297 yX10_commonDivisor, Cond.static yX10_commonDivisor, Cond.code yX10_commonDivisor cX10_commonDivisor 11 (some .long)]
def wsX10_back : List Cond := .code yX10_back cX10_back 6 (some .long) :: ((wsX10_back_r1 ++ wsX10_back_r2) ++ wsX100 ++ wsX70 ++ wsX80 ++ wsX50)
def wsX10_laws_r1 : List Cond := [Cond.fieldLink RX10 56 "KingdomAtDice" "now" "LKingdomAtDice$Standing;", Cond.methodLink RX10 121 yX10_isBelow, Cond.static yX10_isBelow, Cond.initialized RX10, Cond.code yX10_isBelow cX10_isBelow 2 (some .boolean), Cond.instanceMethod yX7_hasHall, Cond.initialized RX7, Cond.selects RX7 yX7_hasHall yX7_hasHall, Cond.code yX7_hasHall cX7_hasHall 1 (some .boolean), Cond.fieldLink RX7 22 "KingdomAtDice$Standing" "thingMany" "I", Cond.instanceMethod yX7_kingsBy, Cond.selects RX7 yX7_kingsBy yX7_kingsBy, Cond.code yX7_kingsBy cX7_kingsBy 4 (some .int), Cond.fieldLink RX7 11 "KingdomAtDice$Standing" "things" "[LKingdomAtDice$Thing;", Cond.instanceMethod yX8_isKingsBy, Cond.initialized RX8, Cond.selects RX8 yX8_isKingsBy yX8_isKingsBy, Cond.code yX8_isKingsBy cX8_isKingsBy 2 (some .boolean), Cond.fieldLink RX8 18 "KingdomAtDice$Thing" "isKings" "Z", Cond.fieldLink RX8 9 "KingdomAtDice$Thing" "sort" "I", Cond.methodLink RX8 31 yX8_isWronglyLost, Cond.instanceMethod yX8_isWronglyLost, Cond.selects RX8 yX8_isWronglyLost yX8_isWronglyLost, Cond.code yX8_isWronglyLost cX8_isWronglyLost 1 (some .boolean)]
def wsX10_laws_r2 : List Cond := [Cond.fieldLink RX8 25 "KingdomAtDice$Thing" "rightly" "I", Cond.instanceMethod yX7_worthOf, Cond.selects RX7 yX7_worthOf yX7_worthOf, Cond.code yX7_worthOf cX7_worthOf 4 (some .int)]
def wsX10_laws : List Cond := .code yX10_laws cX10_laws 4 (some .int) :: ((wsX10_laws_r1 ++ wsX10_laws_r2) ++ wsX100 ++ wsX70 ++ wsX80)
def wsX10_see : List Cond := .code yX10_see cX10_see 2 (some .int) :: ([.fieldLink RX10 56 "KingdomAtDice" "now" "LKingdomAtDice$Standing;", .methodLink RX10 145 yX10_isSum, .static yX10_isSum, .initialized RX10, .code yX10_isSum cX10_isSum 1 (some .boolean), .instanceMethod yX7_addSeen, .initialized RX7, .selects RX7 yX7_addSeen yX7_addSeen, .code yX7_addSeen cX7_addSeen 2 (some .int), .fieldLink RX7 32 "KingdomAtDice$Standing" "seenMany" "I", .fieldLink RX7 18 "KingdomAtDice$Standing" "seen" "[I", .static yX10_isBelow, .code yX10_isBelow cX10_isBelow 2 (some .boolean)] ++ wsX100 ++ wsX70)
def wsX10_forget : List Cond := .code yX10_forget cX10_forget 1 (some .int) :: ([.fieldLink RX10 56 "KingdomAtDice" "now" "LKingdomAtDice$Standing;", .instanceMethod yX7_clearSeen, .initialized RX7, .selects RX7 yX7_clearSeen yX7_clearSeen, .code yX7_clearSeen cX7_clearSeen 2 (some .int), .fieldLink RX7 32 "KingdomAtDice$Standing" "seenMany" "I"] ++ wsX100 ++ wsX70)
def wsX10_which_r1 : List Cond := [Cond.fieldLink RX10 35 "KingdomAtDice" "kinds" "[LKingdomAtDice$Dice;", Cond.fieldLink RX10 56 "KingdomAtDice" "now" "LKingdomAtDice$Standing;", Cond.instanceMethod yX7_waysSeenBy, Cond.initialized RX7, Cond.selects RX7 yX7_waysSeenBy yX7_waysSeenBy, Cond.code yX7_waysSeenBy cX7_waysSeenBy 5 (some .long), Cond.fieldLink RX7 32 "KingdomAtDice$Standing" "seenMany" "I", Cond.fieldLink RX7 18 "KingdomAtDice$Standing" "seen" "[I", Cond.methodLink RX7 100 ⟨"KingdomAtDice$Dice", "waysOf", "(I)I"⟩, Cond.sameMethod "KingdomAtDice$Dice" "KingdomAtDice$Dice" "waysOf" "(I)I", Cond.selects RX0 ⟨"KingdomAtDice$Dice", "waysOf", "(I)I"⟩ yX1_waysOf, Cond.instanceMethod yX1_waysOf, Cond.initialized RX1, Cond.code yX1_waysOf cX1_waysOf 5 (some .int), Cond.fieldLink RX1 13 "KingdomAtDice$Dice" "least" "I", Cond.fieldLink RX1 16 "KingdomAtDice$Dice" "greatest" "I", Cond.static yX10_isSum, Cond.initialized RX10, Cond.code yX10_isSum cX10_isSum 1 (some .boolean), Cond.methodLink RX7 100 yX1_waysOf, Cond.selects RX1 yX1_waysOf yX1_waysOf, Cond.selects RX3 ⟨"KingdomAtDice$Dice", "waysOf", "(I)I"⟩ yX1_waysOf, Cond.selects RX4 ⟨"KingdomAtDice$Dice", "waysOf", "(I)I"⟩ yX1_waysOf, Cond.instanceMethod ⟨"KingdomAtDice$Dice", "waysOf", "(I)I"⟩]
def wsX10_which_r2 : List Cond := [Cond.selects RX9 ⟨"KingdomAtDice$Dice", "waysOf", "(I)I"⟩ yX9_waysOf, Cond.instanceMethod yX9_waysOf, Cond.initialized RX9, Cond.code yX9_waysOf cX9_waysOf 2 (some .int)]
def wsX10_which : List Cond := .code yX10_which cX10_which 3 (some .int) :: ((wsX10_which_r1 ++ wsX10_which_r2) ++ wsX100 ++ wsX70 ++ wsX00 ++ wsX10 ++ wsX30 ++ wsX40 ++ wsX90)
def wsX10_likely_r1 : List Cond := [Cond.fieldLink RX10 35 "KingdomAtDice" "kinds" "[LKingdomAtDice$Dice;", Cond.fieldLink RX10 56 "KingdomAtDice" "now" "LKingdomAtDice$Standing;", Cond.instanceMethod yX7_waysSeenBy, Cond.initialized RX7, Cond.selects RX7 yX7_waysSeenBy yX7_waysSeenBy, Cond.code yX7_waysSeenBy cX7_waysSeenBy 5 (some .long), Cond.fieldLink RX7 32 "KingdomAtDice$Standing" "seenMany" "I", Cond.fieldLink RX7 18 "KingdomAtDice$Standing" "seen" "[I", Cond.methodLink RX7 100 ⟨"KingdomAtDice$Dice", "waysOf", "(I)I"⟩, Cond.sameMethod "KingdomAtDice$Dice" "KingdomAtDice$Dice" "waysOf" "(I)I", Cond.selects RX0 ⟨"KingdomAtDice$Dice", "waysOf", "(I)I"⟩ yX1_waysOf, Cond.instanceMethod yX1_waysOf, Cond.initialized RX1, Cond.code yX1_waysOf cX1_waysOf 5 (some .int), Cond.fieldLink RX1 13 "KingdomAtDice$Dice" "least" "I", Cond.fieldLink RX1 16 "KingdomAtDice$Dice" "greatest" "I", Cond.static yX10_isSum, Cond.initialized RX10, Cond.code yX10_isSum cX10_isSum 1 (some .boolean), Cond.methodLink RX7 100 yX1_waysOf, Cond.selects RX1 yX1_waysOf yX1_waysOf, Cond.selects RX3 ⟨"KingdomAtDice$Dice", "waysOf", "(I)I"⟩ yX1_waysOf, Cond.selects RX4 ⟨"KingdomAtDice$Dice", "waysOf", "(I)I"⟩ yX1_waysOf, Cond.instanceMethod ⟨"KingdomAtDice$Dice", "waysOf", "(I)I"⟩]
def wsX10_likely_r2 : List Cond := [Cond.selects RX9 ⟨"KingdomAtDice$Dice", "waysOf", "(I)I"⟩ yX9_waysOf, Cond.instanceMethod yX9_waysOf, Cond.initialized RX9, Cond.code yX9_waysOf cX9_waysOf 2 (some .int), Cond.methodLink RX10 213 ⟨"KingdomAtDice$Dice", "wayMany", "()I"⟩, Cond.sameMethod "KingdomAtDice$Dice" "KingdomAtDice$Dice" "wayMany" "()I", Cond.selects RX0 ⟨"KingdomAtDice$Dice", "wayMany", "()I"⟩ yX1_wayMany, Cond.instanceMethod yX1_wayMany, Cond.code yX1_wayMany cX1_wayMany 1 (some .int), Cond.methodLink RX1 23 ⟨"KingdomAtDice$Dice", "faces", "()I"⟩, Cond.sameMethod "KingdomAtDice$Dice" "KingdomAtDice$Dice" "faces" "()I", Cond.selects RX0 ⟨"KingdomAtDice$Dice", "faces", "()I"⟩ yX1_faces, Cond.instanceMethod yX1_faces, Cond.code yX1_faces cX1_faces 1 (some .int), Cond.methodLink RX1 23 yX1_faces, Cond.selects RX1 yX1_faces yX1_faces, Cond.selects RX3 ⟨"KingdomAtDice$Dice", "faces", "()I"⟩ yX1_faces, Cond.selects RX4 ⟨"KingdomAtDice$Dice", "faces", "()I"⟩ yX1_faces, Cond.selects RX9 ⟨"KingdomAtDice$Dice", "faces", "()I"⟩ yX1_faces, Cond.methodLink RX10 213 yX1_wayMany, Cond.selects RX1 yX1_wayMany yX1_wayMany, Cond.selects RX3 ⟨"KingdomAtDice$Dice", "wayMany", "()I"⟩ yX1_wayMany, Cond.selects RX4 ⟨"KingdomAtDice$Dice", "wayMany", "()I"⟩ yX1_wayMany, Cond.instanceMethod ⟨"KingdomAtDice$Dice", "wayMany", "()I"⟩]
def wsX10_likely_r3 : List Cond := [Cond.selects RX9 ⟨"KingdomAtDice$Dice", "wayMany", "()I"⟩ yX9_wayMany, Cond.instanceMethod yX9_wayMany, Cond.code yX9_wayMany cX9_wayMany 1 (some .int), Cond.methodLink RX9 9 ⟨"KingdomAtDice$Twins", "faces", "()I"⟩, Cond.sameMethod "KingdomAtDice$Twins" "KingdomAtDice$Dice" "faces" "()I", Cond.selects RX9 ⟨"KingdomAtDice$Twins", "faces", "()I"⟩ yX1_faces, Cond.methodLink RX10 190 yX10_power, Cond.static yX10_power, Cond.code yX10_power cX10_power 6 (some .long)]
def wsX10_likely : List Cond := .code yX10_likely cX10_likely 11 (some .int) :: ((wsX10_likely_r1 ++ (wsX10_likely_r2 ++ wsX10_likely_r3)) ++ wsX100 ++ wsX70 ++ wsX00 ++ wsX10 ++ wsX30 ++ wsX40 ++ wsX90)
def wsJ6_lowestOneBit_0f7a4 : List Cond := .code yJ6_lowestOneBit_0f7a4 cJ6_lowestOneBit_0f7a4 1 (some .int) :: ([])
def wsJ6_bitCount_0f7a4 : List Cond := .code yJ6_bitCount_0f7a4 cJ6_bitCount_0f7a4 1 (some .int) :: ([.constant RJ6 265 (1431655765), .constant RJ6 266 (858993459), .constant RJ6 267 (252645135)])
def wsX10_halls_r1 : List Cond := [Cond.fieldLink RX10 56 "KingdomAtDice" "now" "LKingdomAtDice$Standing;", Cond.fieldLink RX10 49 "KingdomAtDice" "draws" "LKingdomAtDice$Draws;", Cond.fieldLink RX10 63 "KingdomAtDice" "kingDice" "LKingdomAtDice$Dice;", Cond.fieldLink RX10 67 "KingdomAtDice" "cousinDice" "LKingdomAtDice$Dice;", Cond.methodLink RX10 121 yX10_isBelow, Cond.static yX10_isBelow, Cond.initialized RX10, Cond.code yX10_isBelow cX10_isBelow 2 (some .boolean), Cond.instanceMethod yX7_hasHall, Cond.initialized RX7, Cond.selects RX7 yX7_hasHall yX7_hasHall, Cond.code yX7_hasHall cX7_hasHall 1 (some .boolean), Cond.fieldLink RX7 22 "KingdomAtDice$Standing" "thingMany" "I", Cond.instanceMethod yX7_kingsBy, Cond.selects RX7 yX7_kingsBy yX7_kingsBy, Cond.code yX7_kingsBy cX7_kingsBy 4 (some .int), Cond.fieldLink RX7 11 "KingdomAtDice$Standing" "things" "[LKingdomAtDice$Thing;", Cond.instanceMethod yX8_isKingsBy, Cond.initialized RX8, Cond.selects RX8 yX8_isKingsBy yX8_isKingsBy, Cond.code yX8_isKingsBy cX8_isKingsBy 2 (some .boolean), Cond.fieldLink RX8 18 "KingdomAtDice$Thing" "isKings" "Z", Cond.fieldLink RX8 9 "KingdomAtDice$Thing" "sort" "I", Cond.methodLink RX8 31 yX8_isWronglyLost]
def wsX10_halls_r2 : List Cond := [Cond.instanceMethod yX8_isWronglyLost, Cond.selects RX8 yX8_isWronglyLost yX8_isWronglyLost, Cond.code yX8_isWronglyLost cX8_isWronglyLost 1 (some .boolean), Cond.fieldLink RX8 25 "KingdomAtDice$Thing" "rightly" "I", Cond.instanceMethod yX2_begin, Cond.initialized RX2, Cond.selects RX2 yX2_begin yX2_begin, Cond.code yX2_begin cX2_begin 2 none, Cond.fieldLink RX2 7 "KingdomAtDice$Draws" "seed" "J", Cond.methodLink RX10 222 yJ6_lowestOneBit_0f7a4, Cond.static yJ6_lowestOneBit_0f7a4, Cond.initialized RJ6, Cond.code yJ6_lowestOneBit_0f7a4 cJ6_lowestOneBit_0f7a4 1 (some .int), Cond.methodLink RX10 227 ⟨"KingdomAtDice$Dice", "fall", "(LKingdomAtDice$Draws;)I"⟩, Cond.sameMethod "KingdomAtDice$Dice" "KingdomAtDice$Dice" "fall" "(LKingdomAtDice$Draws;)I", Cond.selects RX0 ⟨"KingdomAtDice$Dice", "fall", "(LKingdomAtDice$Draws;)I"⟩ yX1_fall, Cond.instanceMethod yX1_fall, Cond.initialized RX1, Cond.code yX1_fall cX1_fall 3 (some .int), Cond.fieldLink RX1 13 "KingdomAtDice$Dice" "least" "I", Cond.methodLink RX1 23 ⟨"KingdomAtDice$Dice", "faces", "()I"⟩, Cond.sameMethod "KingdomAtDice$Dice" "KingdomAtDice$Dice" "faces" "()I", Cond.selects RX0 ⟨"KingdomAtDice$Dice", "faces", "()I"⟩ yX1_faces, Cond.instanceMethod yX1_faces]
def wsX10_halls_r3 : List Cond := [Cond.code yX1_faces cX1_faces 1 (some .int), Cond.fieldLink RX1 16 "KingdomAtDice$Dice" "greatest" "I", Cond.methodLink RX1 23 yX1_faces, Cond.selects RX1 yX1_faces yX1_faces, Cond.selects RX3 ⟨"KingdomAtDice$Dice", "faces", "()I"⟩ yX1_faces, Cond.selects RX4 ⟨"KingdomAtDice$Dice", "faces", "()I"⟩ yX1_faces, Cond.selects RX9 ⟨"KingdomAtDice$Dice", "faces", "()I"⟩ yX1_faces, Cond.instanceMethod yX2_next, Cond.selects RX2 yX2_next yX2_next, Cond.code yX2_next cX2_next 2 (some .int), Cond.constantLong RX2 13 (1103515245), Cond.constantLong RX2 15 (12345), Cond.constantLong RX2 17 (2147483648), Cond.constantLong RX2 19 (65536), Cond.methodLink RX10 227 yX1_fall, Cond.selects RX1 yX1_fall yX1_fall, Cond.selects RX3 ⟨"KingdomAtDice$Dice", "fall", "(LKingdomAtDice$Draws;)I"⟩ yX1_fall, Cond.selects RX4 ⟨"KingdomAtDice$Dice", "fall", "(LKingdomAtDice$Draws;)I"⟩ yX1_fall, Cond.instanceMethod ⟨"KingdomAtDice$Dice", "fall", "(LKingdomAtDice$Draws;)I"⟩, Cond.selects RX9 ⟨"KingdomAtDice$Dice", "fall", "(LKingdomAtDice$Draws;)I"⟩ yX9_fall, Cond.instanceMethod yX9_fall, Cond.initialized RX9, Cond.code yX9_fall cX9_fall 2 (some .int), Cond.fieldLink RX9 19 "KingdomAtDice$Twins" "least" "I"]
def wsX10_halls_r4 : List Cond := [Cond.sameField "KingdomAtDice$Twins" "KingdomAtDice$Dice" "least" "I", Cond.methodLink RX9 9 ⟨"KingdomAtDice$Twins", "faces", "()I"⟩, Cond.sameMethod "KingdomAtDice$Twins" "KingdomAtDice$Dice" "faces" "()I", Cond.selects RX9 ⟨"KingdomAtDice$Twins", "faces", "()I"⟩ yX1_faces, Cond.instanceMethod yX7_worthOf, Cond.selects RX7 yX7_worthOf yX7_worthOf, Cond.code yX7_worthOf cX7_worthOf 4 (some .int), Cond.methodLink RX10 231 yJ6_bitCount_0f7a4, Cond.static yJ6_bitCount_0f7a4, Cond.code yJ6_bitCount_0f7a4 cJ6_bitCount_0f7a4 1 (some .int), Cond.constant RJ6 265 (1431655765), Cond.constant RJ6 266 (858993459), Cond.constant RJ6 267 (252645135), Cond.instanceMethod yX2_seedNow, Cond.selects RX2 yX2_seedNow yX2_seedNow, Cond.code yX2_seedNow cX2_seedNow 1 (some .int)]
def wsX10_halls : List Cond := .code yX10_halls cX10_halls 10 (some .int) :: ((wsX10_halls_r1 ++ (wsX10_halls_r2 ++ (wsX10_halls_r3 ++ wsX10_halls_r4))) ++ wsX100 ++ wsX70 ++ wsX80 ++ wsX20 ++ wsX00 ++ wsX10 ++ wsX30 ++ wsX40 ++ wsX90)
def wsX10_image_r1 : List Cond := [Cond.fieldLink RX10 56 "KingdomAtDice" "now" "LKingdomAtDice$Standing;", Cond.fieldLink RX10 60 "KingdomAtDice" "kept" "LKingdomAtDice$Standing;", Cond.fieldLink RX10 70 "KingdomAtDice" "isKept" "Z", Cond.instanceMethod yX7_hasHall, Cond.initialized RX7, Cond.selects RX7 yX7_hasHall yX7_hasHall, Cond.code yX7_hasHall cX7_hasHall 1 (some .boolean), Cond.fieldLink RX7 22 "KingdomAtDice$Standing" "thingMany" "I", Cond.instanceMethod yX7_copy, Cond.selects RX7 yX7_copy yX7_copy, Cond.code yX7_copy cX7_copy 3 none, Cond.fieldLink RX7 11 "KingdomAtDice$Standing" "things" "[LKingdomAtDice$Thing;", Cond.fieldLink RX7 18 "KingdomAtDice$Standing" "seen" "[I", Cond.fieldLink RX7 26 "KingdomAtDice$Standing" "gold" "I", Cond.fieldLink RX7 29 "KingdomAtDice$Standing" "throwMany" "I", Cond.fieldLink RX7 32 "KingdomAtDice$Standing" "seenMany" "I", Cond.instanceMethod yX8_copy, Cond.initialized RX8, Cond.selects RX8 yX8_copy yX8_copy, Cond.code yX8_copy cX8_copy 2 none, Cond.fieldLink RX8 9 "KingdomAtDice$Thing" "sort" "I", Cond.fieldLink RX8 15 "KingdomAtDice$Thing" "worth" "I", Cond.fieldLink RX8 18 "KingdomAtDice$Thing" "isKings" "Z", Cond.fieldLink RX8 22 "KingdomAtDice$Thing" "lostBy" "I"]
def wsX10_image_r2 : List Cond := [Cond.fieldLink RX8 25 "KingdomAtDice$Thing" "rightly" "I", Cond.fieldLink RX8 28 "KingdomAtDice$Thing" "overs" "I"]
def wsX10_image : List Cond := .code yX10_image cX10_image 1 (some .int) :: ((wsX10_image_r1 ++ wsX10_image_r2) ++ wsX100 ++ wsX70 ++ wsX80)
def wsX10_restore : List Cond := .code yX10_restore cX10_restore 1 (some .int) :: ([.fieldLink RX10 70 "KingdomAtDice" "isKept" "Z", .fieldLink RX10 56 "KingdomAtDice" "now" "LKingdomAtDice$Standing;", .fieldLink RX10 60 "KingdomAtDice" "kept" "LKingdomAtDice$Standing;", .instanceMethod yX7_copy, .initialized RX7, .selects RX7 yX7_copy yX7_copy, .code yX7_copy cX7_copy 3 none, .fieldLink RX7 11 "KingdomAtDice$Standing" "things" "[LKingdomAtDice$Thing;", .fieldLink RX7 18 "KingdomAtDice$Standing" "seen" "[I", .fieldLink RX7 22 "KingdomAtDice$Standing" "thingMany" "I", .fieldLink RX7 26 "KingdomAtDice$Standing" "gold" "I", .fieldLink RX7 29 "KingdomAtDice$Standing" "throwMany" "I", .fieldLink RX7 32 "KingdomAtDice$Standing" "seenMany" "I", .instanceMethod yX8_copy, .initialized RX8, .selects RX8 yX8_copy yX8_copy, .code yX8_copy cX8_copy 2 none, .fieldLink RX8 9 "KingdomAtDice$Thing" "sort" "I", .fieldLink RX8 15 "KingdomAtDice$Thing" "worth" "I", .fieldLink RX8 18 "KingdomAtDice$Thing" "isKings" "Z", .fieldLink RX8 22 "KingdomAtDice$Thing" "lostBy" "I", .fieldLink RX8 25 "KingdomAtDice$Thing" "rightly" "I", .fieldLink RX8 28 "KingdomAtDice$Thing" "overs" "I"] ++ wsX100 ++ wsX70 ++ wsX80)
def wsX10_count_r1 : List Cond := [Cond.fieldLink RX10 56 "KingdomAtDice" "now" "LKingdomAtDice$Standing;", Cond.fieldLink RX10 10 "KingdomAtDice" "page" "LKingdomAtDice$Page;", Cond.fieldLink RX10 74 "KingdomAtDice" "hallsRead" "I", Cond.instanceMethod yX7_kingsBy, Cond.initialized RX7, Cond.selects RX7 yX7_kingsBy yX7_kingsBy, Cond.code yX7_kingsBy cX7_kingsBy 4 (some .int), Cond.fieldLink RX7 22 "KingdomAtDice$Standing" "thingMany" "I", Cond.fieldLink RX7 11 "KingdomAtDice$Standing" "things" "[LKingdomAtDice$Thing;", Cond.instanceMethod yX8_isKingsBy, Cond.initialized RX8, Cond.selects RX8 yX8_isKingsBy yX8_isKingsBy, Cond.code yX8_isKingsBy cX8_isKingsBy 2 (some .boolean), Cond.fieldLink RX8 18 "KingdomAtDice$Thing" "isKings" "Z", Cond.fieldLink RX8 9 "KingdomAtDice$Thing" "sort" "I", Cond.methodLink RX8 31 yX8_isWronglyLost, Cond.instanceMethod yX8_isWronglyLost, Cond.selects RX8 yX8_isWronglyLost yX8_isWronglyLost, Cond.code yX8_isWronglyLost cX8_isWronglyLost 1 (some .boolean), Cond.fieldLink RX8 25 "KingdomAtDice$Thing" "rightly" "I", Cond.methodLink RX10 231 yJ6_bitCount_0f7a4, Cond.static yJ6_bitCount_0f7a4, Cond.initialized RJ6, Cond.code yJ6_bitCount_0f7a4 cJ6_bitCount_0f7a4 1 (some .int)]
def wsX10_count_r2 : List Cond := [Cond.constant RJ6 265 (1431655765), Cond.constant RJ6 266 (858993459), Cond.constant RJ6 267 (252645135), Cond.instanceMethod yX7_worthOf, Cond.selects RX7 yX7_worthOf yX7_worthOf, Cond.code yX7_worthOf cX7_worthOf 4 (some .int), Cond.instanceMethod yX7_wrongMany, Cond.selects RX7 yX7_wrongMany yX7_wrongMany, Cond.code yX7_wrongMany cX7_wrongMany 3 (some .int)]
def wsX10_count : List Cond := .code yX10_count cX10_count 2 (some .int) :: ((wsX10_count_r1 ++ wsX10_count_r2) ++ wsX100 ++ wsX70 ++ wsX60 ++ wsX80)
def wsX10_mix : List Cond := .code yX10_mix cX10_mix 4 (some .long) :: ([.constantLong RX10 288 (31)])
def wsX10_digestThing_r1 : List Cond := [Cond.fieldLink RX10 56 "KingdomAtDice" "now" "LKingdomAtDice$Standing;", Cond.methodLink RX10 272 yX10_thing, Cond.instanceMethod yX10_thing, Cond.selects RX10 yX10_thing yX10_thing, Cond.initialized RX10, Cond.code yX10_thing cX10_thing 3 (some .int), Cond.instanceMethod yX7_has, Cond.initialized RX7, Cond.selects RX7 yX7_has yX7_has, Cond.code yX7_has cX7_has 2 (some .boolean), Cond.fieldLink RX7 22 "KingdomAtDice$Standing" "thingMany" "I", Cond.static yX10_isBelow, Cond.code yX10_isBelow cX10_isBelow 2 (some .boolean), Cond.methodLink RX10 121 yX10_isBelow, Cond.instanceMethod yX8_tell, Cond.initialized RX8, Cond.selects RX8 yX8_tell yX8_tell, Cond.code yX8_tell cX8_tell 2 (some .int), Cond.fieldLink RX8 9 "KingdomAtDice$Thing" "sort" "I", Cond.fieldLink RX8 15 "KingdomAtDice$Thing" "worth" "I", Cond.fieldLink RX8 18 "KingdomAtDice$Thing" "isKings" "Z", Cond.fieldLink RX8 22 "KingdomAtDice$Thing" "lostBy" "I", Cond.fieldLink RX8 25 "KingdomAtDice$Thing" "rightly" "I", Cond.fieldLink RX8 28 "KingdomAtDice$Thing" "overs" "I"]
def wsX10_digestThing_r2 : List Cond := [Cond.methodLink RX10 259 yX10_mix, Cond.static yX10_mix, Cond.code yX10_mix cX10_mix 4 (some .long), Cond.constantLong RX10 288 (31), Cond.methodLink RX10 276 yX10_back, Cond.instanceMethod yX10_back, Cond.selects RX10 yX10_back yX10_back, Cond.code yX10_back cX10_back 6 (some .long), Cond.constantLong RX10 174 (-101), Cond.constantLong RX10 176 (-102), Cond.constantLong RX10 181 (-103), Cond.fieldLink RX10 42 "KingdomAtDice" "odds" "LKingdomAtDice$Odds;", Cond.instanceMethod yX7_stakesFor, Cond.selects RX7 yX7_stakesFor yX7_stakesFor, Cond.code yX7_stakesFor cX7_stakesFor 4 (some .int), Cond.methodLink RX7 77 yX7_mayStake, Cond.instanceMethod yX7_mayStake, Cond.selects RX7 yX7_mayStake yX7_mayStake, Cond.code yX7_mayStake cX7_mayStake 3 (some .boolean), Cond.fieldLink RX7 11 "KingdomAtDice$Standing" "things" "[LKingdomAtDice$Thing;", Cond.methodLink RX7 66 yX7_has, Cond.methodLink RX10 186 yX10_waysBack, Cond.static yX10_waysBack, Cond.code yX10_waysBack cX10_waysBack 3 (some .long)]
def wsX10_digestThing_r3 : List Cond := [Cond.instanceMethod yX5_waysTo, Cond.initialized RX5, Cond.selects RX5 yX5_waysTo yX5_waysTo, Cond.code yX5_waysTo cX5_waysTo 2 (some .int), Cond.fieldLink RX5 9 "KingdomAtDice$Odds" "ways" "[I", Cond.methodLink RX10 190 yX10_power, Cond.static yX10_power, Cond.code yX10_power cX10_power 6 (some .long), Cond.methodLink RX10 170 yX10_lowestTerm, Cond.static yX10_lowestTerm, Cond.code yX10_lowestTerm cX10_lowestTerm 9 (some .long), Cond.methodLink RX10 297 yX10_commonDivisor, Cond.static yX10_commonDivisor, Cond.code yX10_commonDivisor cX10_commonDivisor 11 (some .long)]
def wsX10_digestThing : List Cond := .code yX10_digestThing cX10_digestThing 7 (some .long) :: ((wsX10_digestThing_r1 ++ (wsX10_digestThing_r2 ++ wsX10_digestThing_r3)) ++ wsX100 ++ wsX70 ++ wsX80 ++ wsX50)
def wsX10_digestHall_r1 : List Cond := [Cond.methodLink RX10 280 yX10_dice, Cond.instanceMethod yX10_dice, Cond.selects RX10 yX10_dice yX10_dice, Cond.initialized RX10, Cond.code yX10_dice cX10_dice 3 (some .int), Cond.methodLink RX10 134 yX10_hasDice, Cond.instanceMethod yX10_hasDice, Cond.selects RX10 yX10_hasDice yX10_hasDice, Cond.code yX10_hasDice cX10_hasDice 2 (some .boolean), Cond.fieldLink RX10 56 "KingdomAtDice" "now" "LKingdomAtDice$Standing;", Cond.instanceMethod yX7_hasHall, Cond.initialized RX7, Cond.selects RX7 yX7_hasHall yX7_hasHall, Cond.code yX7_hasHall cX7_hasHall 1 (some .boolean), Cond.fieldLink RX7 22 "KingdomAtDice$Standing" "thingMany" "I", Cond.methodLink RX10 121 yX10_isBelow, Cond.static yX10_isBelow, Cond.code yX10_isBelow cX10_isBelow 2 (some .boolean), Cond.methodLink RX10 137 yX10_diceOf, Cond.instanceMethod yX10_diceOf, Cond.selects RX10 yX10_diceOf yX10_diceOf, Cond.code yX10_diceOf cX10_diceOf 2 (some (.object "KingdomAtDice$Dice")), Cond.fieldLink RX10 63 "KingdomAtDice" "kingDice" "LKingdomAtDice$Dice;", Cond.fieldLink RX10 67 "KingdomAtDice" "cousinDice" "LKingdomAtDice$Dice;"]
def wsX10_digestHall_r2 : List Cond := [Cond.methodLink RX10 140 ⟨"KingdomAtDice$Dice", "tell", "(I)I"⟩, Cond.sameMethod "KingdomAtDice$Dice" "KingdomAtDice$Dice" "tell" "(I)I", Cond.selects RX0 ⟨"KingdomAtDice$Dice", "tell", "(I)I"⟩ yX1_tell, Cond.instanceMethod yX1_tell, Cond.initialized RX1, Cond.code yX1_tell cX1_tell 2 (some .int), Cond.fieldLink RX1 7 "KingdomAtDice$Dice" "kind" "I", Cond.fieldLink RX1 13 "KingdomAtDice$Dice" "least" "I", Cond.fieldLink RX1 16 "KingdomAtDice$Dice" "greatest" "I", Cond.methodLink RX1 19 ⟨"KingdomAtDice$Dice", "wayMany", "()I"⟩, Cond.sameMethod "KingdomAtDice$Dice" "KingdomAtDice$Dice" "wayMany" "()I", Cond.selects RX0 ⟨"KingdomAtDice$Dice", "wayMany", "()I"⟩ yX1_wayMany, Cond.instanceMethod yX1_wayMany, Cond.code yX1_wayMany cX1_wayMany 1 (some .int), Cond.methodLink RX1 23 ⟨"KingdomAtDice$Dice", "faces", "()I"⟩, Cond.sameMethod "KingdomAtDice$Dice" "KingdomAtDice$Dice" "faces" "()I", Cond.selects RX0 ⟨"KingdomAtDice$Dice", "faces", "()I"⟩ yX1_faces, Cond.instanceMethod yX1_faces, Cond.code yX1_faces cX1_faces 1 (some .int), Cond.methodLink RX1 23 yX1_faces, Cond.selects RX1 yX1_faces yX1_faces, Cond.selects RX3 ⟨"KingdomAtDice$Dice", "faces", "()I"⟩ yX1_faces, Cond.selects RX4 ⟨"KingdomAtDice$Dice", "faces", "()I"⟩ yX1_faces, Cond.selects RX9 ⟨"KingdomAtDice$Dice", "faces", "()I"⟩ yX1_faces]
def wsX10_digestHall_r3 : List Cond := [Cond.methodLink RX1 19 yX1_wayMany, Cond.selects RX1 yX1_wayMany yX1_wayMany, Cond.selects RX3 ⟨"KingdomAtDice$Dice", "wayMany", "()I"⟩ yX1_wayMany, Cond.selects RX4 ⟨"KingdomAtDice$Dice", "wayMany", "()I"⟩ yX1_wayMany, Cond.instanceMethod ⟨"KingdomAtDice$Dice", "wayMany", "()I"⟩, Cond.selects RX9 ⟨"KingdomAtDice$Dice", "wayMany", "()I"⟩ yX9_wayMany, Cond.instanceMethod yX9_wayMany, Cond.initialized RX9, Cond.code yX9_wayMany cX9_wayMany 1 (some .int), Cond.methodLink RX9 9 ⟨"KingdomAtDice$Twins", "faces", "()I"⟩, Cond.sameMethod "KingdomAtDice$Twins" "KingdomAtDice$Dice" "faces" "()I", Cond.selects RX9 ⟨"KingdomAtDice$Twins", "faces", "()I"⟩ yX1_faces, Cond.methodLink RX10 140 yX1_tell, Cond.selects RX1 yX1_tell yX1_tell, Cond.selects RX3 ⟨"KingdomAtDice$Dice", "tell", "(I)I"⟩ yX1_tell, Cond.selects RX4 ⟨"KingdomAtDice$Dice", "tell", "(I)I"⟩ yX1_tell, Cond.selects RX9 ⟨"KingdomAtDice$Dice", "tell", "(I)I"⟩ yX1_tell, Cond.methodLink RX10 259 yX10_mix, Cond.static yX10_mix, Cond.code yX10_mix cX10_mix 4 (some .long), Cond.constantLong RX10 288 (31), Cond.methodLink RX10 283 yX10_odds, Cond.instanceMethod yX10_odds, Cond.selects RX10 yX10_odds yX10_odds]
def wsX10_digestHall_r4 : List Cond := [Cond.code yX10_odds cX10_odds 2 (some .int), Cond.fieldLink RX10 42 "KingdomAtDice" "odds" "LKingdomAtDice$Odds;", Cond.instanceMethod yX5_waysTo, Cond.initialized RX5, Cond.selects RX5 yX5_waysTo yX5_waysTo, Cond.code yX5_waysTo cX5_waysTo 2 (some .int), Cond.fieldLink RX5 9 "KingdomAtDice$Odds" "ways" "[I", Cond.methodLink RX10 170 yX10_lowestTerm, Cond.static yX10_lowestTerm, Cond.code yX10_lowestTerm cX10_lowestTerm 9 (some .long), Cond.methodLink RX10 297 yX10_commonDivisor, Cond.static yX10_commonDivisor, Cond.code yX10_commonDivisor cX10_commonDivisor 11 (some .long), Cond.methodLink RX10 285 yX10_laws, Cond.instanceMethod yX10_laws, Cond.selects RX10 yX10_laws yX10_laws, Cond.code yX10_laws cX10_laws 4 (some .int), Cond.instanceMethod yX7_kingsBy, Cond.selects RX7 yX7_kingsBy yX7_kingsBy, Cond.code yX7_kingsBy cX7_kingsBy 4 (some .int), Cond.fieldLink RX7 11 "KingdomAtDice$Standing" "things" "[LKingdomAtDice$Thing;", Cond.instanceMethod yX8_isKingsBy, Cond.initialized RX8, Cond.selects RX8 yX8_isKingsBy yX8_isKingsBy]
def wsX10_digestHall_r5 : List Cond := [Cond.code yX8_isKingsBy cX8_isKingsBy 2 (some .boolean), Cond.fieldLink RX8 18 "KingdomAtDice$Thing" "isKings" "Z", Cond.fieldLink RX8 9 "KingdomAtDice$Thing" "sort" "I", Cond.methodLink RX8 31 yX8_isWronglyLost, Cond.instanceMethod yX8_isWronglyLost, Cond.selects RX8 yX8_isWronglyLost yX8_isWronglyLost, Cond.code yX8_isWronglyLost cX8_isWronglyLost 1 (some .boolean), Cond.fieldLink RX8 25 "KingdomAtDice$Thing" "rightly" "I", Cond.instanceMethod yX7_worthOf, Cond.selects RX7 yX7_worthOf yX7_worthOf, Cond.code yX7_worthOf cX7_worthOf 4 (some .int)]
def wsX10_digestHall : List Cond := .code yX10_digestHall cX10_digestHall 7 (some .long) :: ((wsX10_digestHall_r1 ++ (wsX10_digestHall_r2 ++ (wsX10_digestHall_r3 ++ (wsX10_digestHall_r4 ++ wsX10_digestHall_r5)))) ++ wsX100 ++ wsX70 ++ wsX00 ++ wsX10 ++ wsX30 ++ wsX40 ++ wsX90 ++ wsX50 ++ wsX80)
def wsX10_digest_r1 : List Cond := [Cond.constantLong RX10 247 (983), Cond.fieldLink RX10 56 "KingdomAtDice" "now" "LKingdomAtDice$Standing;", Cond.fieldLink RX10 10 "KingdomAtDice" "page" "LKingdomAtDice$Page;", Cond.methodLink RX10 249 yX10_digestThing, Cond.instanceMethod yX10_digestThing, Cond.selects RX10 yX10_digestThing yX10_digestThing, Cond.initialized RX10, Cond.code yX10_digestThing cX10_digestThing 7 (some .long), Cond.methodLink RX10 272 yX10_thing, Cond.instanceMethod yX10_thing, Cond.selects RX10 yX10_thing yX10_thing, Cond.code yX10_thing cX10_thing 3 (some .int), Cond.instanceMethod yX7_has, Cond.initialized RX7, Cond.selects RX7 yX7_has yX7_has, Cond.code yX7_has cX7_has 2 (some .boolean), Cond.fieldLink RX7 22 "KingdomAtDice$Standing" "thingMany" "I", Cond.static yX10_isBelow, Cond.code yX10_isBelow cX10_isBelow 2 (some .boolean), Cond.methodLink RX10 121 yX10_isBelow, Cond.instanceMethod yX8_tell, Cond.initialized RX8, Cond.selects RX8 yX8_tell yX8_tell, Cond.code yX8_tell cX8_tell 2 (some .int)]
def wsX10_digest_r2 : List Cond := [Cond.fieldLink RX8 9 "KingdomAtDice$Thing" "sort" "I", Cond.fieldLink RX8 15 "KingdomAtDice$Thing" "worth" "I", Cond.fieldLink RX8 18 "KingdomAtDice$Thing" "isKings" "Z", Cond.fieldLink RX8 22 "KingdomAtDice$Thing" "lostBy" "I", Cond.fieldLink RX8 25 "KingdomAtDice$Thing" "rightly" "I", Cond.fieldLink RX8 28 "KingdomAtDice$Thing" "overs" "I", Cond.methodLink RX10 259 yX10_mix, Cond.static yX10_mix, Cond.code yX10_mix cX10_mix 4 (some .long), Cond.constantLong RX10 288 (31), Cond.methodLink RX10 276 yX10_back, Cond.instanceMethod yX10_back, Cond.selects RX10 yX10_back yX10_back, Cond.code yX10_back cX10_back 6 (some .long), Cond.constantLong RX10 174 (-101), Cond.constantLong RX10 176 (-102), Cond.constantLong RX10 181 (-103), Cond.fieldLink RX10 42 "KingdomAtDice" "odds" "LKingdomAtDice$Odds;", Cond.instanceMethod yX7_stakesFor, Cond.selects RX7 yX7_stakesFor yX7_stakesFor, Cond.code yX7_stakesFor cX7_stakesFor 4 (some .int), Cond.methodLink RX7 77 yX7_mayStake, Cond.instanceMethod yX7_mayStake, Cond.selects RX7 yX7_mayStake yX7_mayStake]
def wsX10_digest_r3 : List Cond := [Cond.code yX7_mayStake cX7_mayStake 3 (some .boolean), Cond.fieldLink RX7 11 "KingdomAtDice$Standing" "things" "[LKingdomAtDice$Thing;", Cond.methodLink RX7 66 yX7_has, Cond.methodLink RX10 186 yX10_waysBack, Cond.static yX10_waysBack, Cond.code yX10_waysBack cX10_waysBack 3 (some .long), Cond.instanceMethod yX5_waysTo, Cond.initialized RX5, Cond.selects RX5 yX5_waysTo yX5_waysTo, Cond.code yX5_waysTo cX5_waysTo 2 (some .int), Cond.fieldLink RX5 9 "KingdomAtDice$Odds" "ways" "[I", Cond.methodLink RX10 190 yX10_power, Cond.static yX10_power, Cond.code yX10_power cX10_power 6 (some .long), Cond.methodLink RX10 170 yX10_lowestTerm, Cond.static yX10_lowestTerm, Cond.code yX10_lowestTerm cX10_lowestTerm 9 (some .long), Cond.methodLink RX10 297 yX10_commonDivisor, Cond.static yX10_commonDivisor, Cond.code yX10_commonDivisor cX10_commonDivisor 11 (some .long), Cond.instanceMethod yX7_hasHall, Cond.selects RX7 yX7_hasHall yX7_hasHall, Cond.code yX7_hasHall cX7_hasHall 1 (some .boolean), Cond.methodLink RX10 252 yX10_digestHall]
def wsX10_digest_r4 : List Cond := [Cond.instanceMethod yX10_digestHall, Cond.selects RX10 yX10_digestHall yX10_digestHall, Cond.code yX10_digestHall cX10_digestHall 7 (some .long), Cond.methodLink RX10 280 yX10_dice, Cond.instanceMethod yX10_dice, Cond.selects RX10 yX10_dice yX10_dice, Cond.code yX10_dice cX10_dice 3 (some .int), Cond.methodLink RX10 134 yX10_hasDice, Cond.instanceMethod yX10_hasDice, Cond.selects RX10 yX10_hasDice yX10_hasDice, Cond.code yX10_hasDice cX10_hasDice 2 (some .boolean), Cond.methodLink RX10 137 yX10_diceOf, Cond.instanceMethod yX10_diceOf, Cond.selects RX10 yX10_diceOf yX10_diceOf, Cond.code yX10_diceOf cX10_diceOf 2 (some (.object "KingdomAtDice$Dice")), Cond.fieldLink RX10 63 "KingdomAtDice" "kingDice" "LKingdomAtDice$Dice;", Cond.fieldLink RX10 67 "KingdomAtDice" "cousinDice" "LKingdomAtDice$Dice;", Cond.methodLink RX10 140 ⟨"KingdomAtDice$Dice", "tell", "(I)I"⟩, Cond.sameMethod "KingdomAtDice$Dice" "KingdomAtDice$Dice" "tell" "(I)I", Cond.selects RX0 ⟨"KingdomAtDice$Dice", "tell", "(I)I"⟩ yX1_tell, Cond.instanceMethod yX1_tell, Cond.initialized RX1, Cond.code yX1_tell cX1_tell 2 (some .int), Cond.fieldLink RX1 7 "KingdomAtDice$Dice" "kind" "I"]
def wsX10_digest_r5 : List Cond := [Cond.fieldLink RX1 13 "KingdomAtDice$Dice" "least" "I", Cond.fieldLink RX1 16 "KingdomAtDice$Dice" "greatest" "I", Cond.methodLink RX1 19 ⟨"KingdomAtDice$Dice", "wayMany", "()I"⟩, Cond.sameMethod "KingdomAtDice$Dice" "KingdomAtDice$Dice" "wayMany" "()I", Cond.selects RX0 ⟨"KingdomAtDice$Dice", "wayMany", "()I"⟩ yX1_wayMany, Cond.instanceMethod yX1_wayMany, Cond.code yX1_wayMany cX1_wayMany 1 (some .int), Cond.methodLink RX1 23 ⟨"KingdomAtDice$Dice", "faces", "()I"⟩, Cond.sameMethod "KingdomAtDice$Dice" "KingdomAtDice$Dice" "faces" "()I", Cond.selects RX0 ⟨"KingdomAtDice$Dice", "faces", "()I"⟩ yX1_faces, Cond.instanceMethod yX1_faces, Cond.code yX1_faces cX1_faces 1 (some .int), Cond.methodLink RX1 23 yX1_faces, Cond.selects RX1 yX1_faces yX1_faces, Cond.selects RX3 ⟨"KingdomAtDice$Dice", "faces", "()I"⟩ yX1_faces, Cond.selects RX4 ⟨"KingdomAtDice$Dice", "faces", "()I"⟩ yX1_faces, Cond.selects RX9 ⟨"KingdomAtDice$Dice", "faces", "()I"⟩ yX1_faces, Cond.methodLink RX1 19 yX1_wayMany, Cond.selects RX1 yX1_wayMany yX1_wayMany, Cond.selects RX3 ⟨"KingdomAtDice$Dice", "wayMany", "()I"⟩ yX1_wayMany, Cond.selects RX4 ⟨"KingdomAtDice$Dice", "wayMany", "()I"⟩ yX1_wayMany, Cond.instanceMethod ⟨"KingdomAtDice$Dice", "wayMany", "()I"⟩, Cond.selects RX9 ⟨"KingdomAtDice$Dice", "wayMany", "()I"⟩ yX9_wayMany, Cond.instanceMethod yX9_wayMany]
def wsX10_digest_r6 : List Cond := [Cond.initialized RX9, Cond.code yX9_wayMany cX9_wayMany 1 (some .int), Cond.methodLink RX9 9 ⟨"KingdomAtDice$Twins", "faces", "()I"⟩, Cond.sameMethod "KingdomAtDice$Twins" "KingdomAtDice$Dice" "faces" "()I", Cond.selects RX9 ⟨"KingdomAtDice$Twins", "faces", "()I"⟩ yX1_faces, Cond.methodLink RX10 140 yX1_tell, Cond.selects RX1 yX1_tell yX1_tell, Cond.selects RX3 ⟨"KingdomAtDice$Dice", "tell", "(I)I"⟩ yX1_tell, Cond.selects RX4 ⟨"KingdomAtDice$Dice", "tell", "(I)I"⟩ yX1_tell, Cond.selects RX9 ⟨"KingdomAtDice$Dice", "tell", "(I)I"⟩ yX1_tell, Cond.methodLink RX10 283 yX10_odds, Cond.instanceMethod yX10_odds, Cond.selects RX10 yX10_odds yX10_odds, Cond.code yX10_odds cX10_odds 2 (some .int), Cond.methodLink RX10 285 yX10_laws, Cond.instanceMethod yX10_laws, Cond.selects RX10 yX10_laws yX10_laws, Cond.code yX10_laws cX10_laws 4 (some .int), Cond.instanceMethod yX7_kingsBy, Cond.selects RX7 yX7_kingsBy yX7_kingsBy, Cond.code yX7_kingsBy cX7_kingsBy 4 (some .int), Cond.instanceMethod yX8_isKingsBy, Cond.selects RX8 yX8_isKingsBy yX8_isKingsBy, Cond.code yX8_isKingsBy cX8_isKingsBy 2 (some .boolean)]
def wsX10_digest_r7 : List Cond := [Cond.methodLink RX8 31 yX8_isWronglyLost, Cond.instanceMethod yX8_isWronglyLost, Cond.selects RX8 yX8_isWronglyLost yX8_isWronglyLost, Cond.code yX8_isWronglyLost cX8_isWronglyLost 1 (some .boolean), Cond.instanceMethod yX7_worthOf, Cond.selects RX7 yX7_worthOf yX7_worthOf, Cond.code yX7_worthOf cX7_worthOf 4 (some .int), Cond.methodLink RX10 256 yX10_which, Cond.instanceMethod yX10_which, Cond.selects RX10 yX10_which yX10_which, Cond.code yX10_which cX10_which 3 (some .int), Cond.fieldLink RX10 35 "KingdomAtDice" "kinds" "[LKingdomAtDice$Dice;", Cond.instanceMethod yX7_waysSeenBy, Cond.selects RX7 yX7_waysSeenBy yX7_waysSeenBy, Cond.code yX7_waysSeenBy cX7_waysSeenBy 5 (some .long), Cond.fieldLink RX7 32 "KingdomAtDice$Standing" "seenMany" "I", Cond.fieldLink RX7 18 "KingdomAtDice$Standing" "seen" "[I", Cond.methodLink RX7 100 ⟨"KingdomAtDice$Dice", "waysOf", "(I)I"⟩, Cond.sameMethod "KingdomAtDice$Dice" "KingdomAtDice$Dice" "waysOf" "(I)I", Cond.selects RX0 ⟨"KingdomAtDice$Dice", "waysOf", "(I)I"⟩ yX1_waysOf, Cond.instanceMethod yX1_waysOf, Cond.code yX1_waysOf cX1_waysOf 5 (some .int), Cond.static yX10_isSum, Cond.code yX10_isSum cX10_isSum 1 (some .boolean)]
def wsX10_digest_r8 : List Cond := [Cond.methodLink RX7 100 yX1_waysOf, Cond.selects RX1 yX1_waysOf yX1_waysOf, Cond.selects RX3 ⟨"KingdomAtDice$Dice", "waysOf", "(I)I"⟩ yX1_waysOf, Cond.selects RX4 ⟨"KingdomAtDice$Dice", "waysOf", "(I)I"⟩ yX1_waysOf, Cond.instanceMethod ⟨"KingdomAtDice$Dice", "waysOf", "(I)I"⟩, Cond.selects RX9 ⟨"KingdomAtDice$Dice", "waysOf", "(I)I"⟩ yX9_waysOf, Cond.instanceMethod yX9_waysOf, Cond.code yX9_waysOf cX9_waysOf 2 (some .int), Cond.methodLink RX10 263 yX10_likely, Cond.instanceMethod yX10_likely, Cond.selects RX10 yX10_likely yX10_likely, Cond.code yX10_likely cX10_likely 11 (some .int), Cond.methodLink RX10 213 ⟨"KingdomAtDice$Dice", "wayMany", "()I"⟩, Cond.methodLink RX10 213 yX1_wayMany, Cond.instanceMethod yX6_codeAt, Cond.initialized RX6, Cond.selects RX6 yX6_codeAt yX6_codeAt, Cond.code yX6_codeAt cX6_codeAt 2 (some .int), Cond.fieldLink RX6 15 "KingdomAtDice$Page" "length" "I", Cond.fieldLink RX6 9 "KingdomAtDice$Page" "codes" "[I", Cond.methodLink RX10 269 yX10_count, Cond.instanceMethod yX10_count, Cond.selects RX10 yX10_count yX10_count, Cond.code yX10_count cX10_count 2 (some .int)]
def wsX10_digest_r9 : List Cond := [Cond.fieldLink RX10 74 "KingdomAtDice" "hallsRead" "I", Cond.methodLink RX10 231 yJ6_bitCount_0f7a4, Cond.static yJ6_bitCount_0f7a4, Cond.initialized RJ6, Cond.code yJ6_bitCount_0f7a4 cJ6_bitCount_0f7a4 1 (some .int), Cond.constant RJ6 265 (1431655765), Cond.constant RJ6 266 (858993459), Cond.constant RJ6 267 (252645135), Cond.instanceMethod yX7_wrongMany, Cond.selects RX7 yX7_wrongMany yX7_wrongMany, Cond.code yX7_wrongMany cX7_wrongMany 3 (some .int)]
def wsX10_digest : List Cond := .code yX10_digest cX10_digest 4 (some .long) :: ((wsX10_digest_r1 ++ (wsX10_digest_r2 ++ (wsX10_digest_r3 ++ (wsX10_digest_r4 ++ (wsX10_digest_r5 ++ (wsX10_digest_r6 ++ (wsX10_digest_r7 ++ (wsX10_digest_r8 ++ wsX10_digest_r9)))))))) ++ wsX100 ++ wsX70 ++ wsX60 ++ wsX80 ++ wsX50 ++ wsX00 ++ wsX10 ++ wsX30 ++ wsX40 ++ wsX90)
def wsX11_leastOf : List Cond := .code yX11_leastOf cX11_leastOf 1 (some .int) :: ([])
def wsX11_mostOf : List Cond := .code yX11_mostOf cX11_mostOf 1 (some .int) :: ([])
def wsX11_init_r1 : List Cond := [Cond.methodLink RX11 1 objectInit, Cond.instanceMethod objectInit, Cond.code objectInit ⟨#[0xb1]⟩ 1 none, Cond.arrayClass .int, Cond.fieldLink RX11 7 "KingdomAtDiceModel" "table" "[I", Cond.fieldLink RX11 13 "KingdomAtDiceModel" "tableBone" "[I", Cond.fieldLink RX11 16 "KingdomAtDiceModel" "page" "[I", Cond.fieldLink RX11 19 "KingdomAtDiceModel" "read" "[I", Cond.fieldLink RX11 22 "KingdomAtDiceModel" "readKinds" "[I", Cond.fieldLink RX11 25 "KingdomAtDiceModel" "rows" "[I", Cond.fieldLink RX11 28 "KingdomAtDiceModel" "kinds" "[I", Cond.arrayClass .long, Cond.fieldLink RX11 31 "KingdomAtDiceModel" "now" "[J", Cond.fieldLink RX11 35 "KingdomAtDiceModel" "next" "[J", Cond.fieldLink RX11 38 "KingdomAtDiceModel" "sums" "[I", Cond.fieldLink RX11 41 "KingdomAtDiceModel" "savedRows" "[I", Cond.fieldLink RX11 44 "KingdomAtDiceModel" "keptRows" "[I", Cond.fieldLink RX11 47 "KingdomAtDiceModel" "keptSums" "[I", Cond.fieldLink RX11 50 "KingdomAtDiceModel" "keptHall" "I", Cond.methodLink RX11 54 yX11_leastOf, Cond.static yX11_leastOf, Cond.initialized RX11, Cond.code yX11_leastOf cX11_leastOf 1 (some .int), Cond.methodLink RX11 58 yX11_mostOf]
def wsX11_init_r2 : List Cond := [Cond.static yX11_mostOf, Cond.code yX11_mostOf cX11_mostOf 1 (some .int)]
def wsX11_init : List Cond := .code yX11_init cX11_init 5 none :: ((wsX11_init_r1 ++ wsX11_init_r2) ++ wsX110)
def wsX11_waysOf : List Cond := .code yX11_waysOf cX11_waysOf 3 (some .int) :: ([.fieldLink RX11 13 "KingdomAtDiceModel" "tableBone" "[I", .fieldLink RX11 7 "KingdomAtDiceModel" "table" "[I"] ++ wsX110)
def wsX11_allWays : List Cond := .code yX11_allWays cX11_allWays 4 (some .int) :: ([.methodLink RX11 61 yX11_waysOf, .instanceMethod yX11_waysOf, .selects RX11 yX11_waysOf yX11_waysOf, .initialized RX11, .code yX11_waysOf cX11_waysOf 3 (some .int), .fieldLink RX11 13 "KingdomAtDiceModel" "tableBone" "[I", .fieldLink RX11 7 "KingdomAtDiceModel" "table" "[I"] ++ wsX110)
def wsX11_in : List Cond := .code yX11_in cX11_in 6 (some .boolean) :: ([])
def wsX11_copy : List Cond := .code yX11_copy cX11_copy 3 none :: ([])
def wsX11_common : List Cond := .code yX11_common cX11_common 10 (some .long) :: ([])
def wsX11_letter : List Cond := .code yX11_letter cX11_letter 2 (some .int) :: ([.constantLong RX11 65 (126), .fieldLink RX11 71 "KingdomAtDiceModel" "pageMany" "I", .fieldLink RX11 16 "KingdomAtDiceModel" "page" "[I", .methodLink RX11 67 yX11_in, .static yX11_in, .initialized RX11, .code yX11_in cX11_in 6 (some .boolean)] ++ wsX110)
def wsX11_blank : List Cond := .code yX11_blank cX11_blank 2 (some .int) :: ([.fieldLink RX11 71 "KingdomAtDiceModel" "pageMany" "I"] ++ wsX110)
def wsX11_sortBy : List Cond := .code yX11_sortBy cX11_sortBy 1 (some .int) :: ([])
def wsX11_kindBy : List Cond := .code yX11_kindBy cX11_kindBy 1 (some .int) :: ([])
def wsX11_go : List Cond := .code yX11_go cX11_go 4 (some .boolean) :: ([.fieldLink RX11 74 "KingdomAtDiceModel" "state" "I", .fieldLink RX11 77 "KingdomAtDiceModel" "readSelf" "Z", .fieldLink RX11 19 "KingdomAtDiceModel" "read" "[I", .fieldLink RX11 81 "KingdomAtDiceModel" "readMany" "I", .constantLong RX11 87 (49), .constantLong RX11 89 (57), .fieldLink RX11 22 "KingdomAtDiceModel" "readKinds" "[I", .methodLink RX11 84 yX11_sortBy, .static yX11_sortBy, .initialized RX11, .code yX11_sortBy cX11_sortBy 1 (some .int), .methodLink RX11 67 yX11_in, .static yX11_in, .code yX11_in cX11_in 6 (some .boolean), .methodLink RX11 91 yX11_kindBy, .static yX11_kindBy, .code yX11_kindBy cX11_kindBy 1 (some .int)] ++ wsX110)
def wsX11_faultOf : List Cond := .code yX11_faultOf cX11_faultOf 2 (some .int) :: ([.fieldLink RX11 81 "KingdomAtDiceModel" "readMany" "I", .fieldLink RX11 77 "KingdomAtDiceModel" "readSelf" "Z", .fieldLink RX11 74 "KingdomAtDiceModel" "state" "I", .fieldLink RX11 71 "KingdomAtDiceModel" "pageMany" "I", .fieldLink RX11 16 "KingdomAtDiceModel" "page" "[I", .methodLink RX11 94 yX11_go, .instanceMethod yX11_go, .selects RX11 yX11_go yX11_go, .initialized RX11, .code yX11_go cX11_go 4 (some .boolean), .fieldLink RX11 19 "KingdomAtDiceModel" "read" "[I", .constantLong RX11 87 (49), .constantLong RX11 89 (57), .fieldLink RX11 22 "KingdomAtDiceModel" "readKinds" "[I", .methodLink RX11 84 yX11_sortBy, .static yX11_sortBy, .code yX11_sortBy cX11_sortBy 1 (some .int), .methodLink RX11 67 yX11_in, .static yX11_in, .code yX11_in cX11_in 6 (some .boolean), .methodLink RX11 91 yX11_kindBy, .static yX11_kindBy, .code yX11_kindBy cX11_kindBy 1 (some .int)] ++ wsX110)
def wsX11_fault_r1 : List Cond := [Cond.methodLink RX11 98 yX11_faultOf, Cond.instanceMethod yX11_faultOf, Cond.selects RX11 yX11_faultOf yX11_faultOf, Cond.initialized RX11, Cond.code yX11_faultOf cX11_faultOf 2 (some .int), Cond.fieldLink RX11 81 "KingdomAtDiceModel" "readMany" "I", Cond.fieldLink RX11 77 "KingdomAtDiceModel" "readSelf" "Z", Cond.fieldLink RX11 74 "KingdomAtDiceModel" "state" "I", Cond.fieldLink RX11 71 "KingdomAtDiceModel" "pageMany" "I", Cond.fieldLink RX11 16 "KingdomAtDiceModel" "page" "[I", Cond.methodLink RX11 94 yX11_go, Cond.instanceMethod yX11_go, Cond.selects RX11 yX11_go yX11_go, Cond.code yX11_go cX11_go 4 (some .boolean), Cond.fieldLink RX11 19 "KingdomAtDiceModel" "read" "[I", Cond.constantLong RX11 87 (49), Cond.constantLong RX11 89 (57), Cond.fieldLink RX11 22 "KingdomAtDiceModel" "readKinds" "[I", Cond.methodLink RX11 84 yX11_sortBy, Cond.static yX11_sortBy, Cond.code yX11_sortBy cX11_sortBy 1 (some .int), Cond.methodLink RX11 67 yX11_in, Cond.static yX11_in, Cond.code yX11_in cX11_in 6 (some .boolean)]
def wsX11_fault_r2 : List Cond := [Cond.methodLink RX11 91 yX11_kindBy, Cond.static yX11_kindBy, Cond.code yX11_kindBy cX11_kindBy 1 (some .int)]
def wsX11_fault : List Cond := .code yX11_fault cX11_fault 1 (some .int) :: ((wsX11_fault_r1 ++ wsX11_fault_r2) ++ wsX110)
def wsX11_hall_r1 : List Cond := [Cond.fieldLink RX11 71 "KingdomAtDiceModel" "pageMany" "I", Cond.fieldLink RX11 74 "KingdomAtDiceModel" "state" "I", Cond.fieldLink RX11 81 "KingdomAtDiceModel" "readMany" "I", Cond.fieldLink RX11 102 "KingdomAtDiceModel" "things" "I", Cond.fieldLink RX11 22 "KingdomAtDiceModel" "readKinds" "[I", Cond.fieldLink RX11 28 "KingdomAtDiceModel" "kinds" "[I", Cond.fieldLink RX11 25 "KingdomAtDiceModel" "rows" "[I", Cond.fieldLink RX11 19 "KingdomAtDiceModel" "read" "[I", Cond.fieldLink RX11 109 "KingdomAtDiceModel" "gold" "I", Cond.fieldLink RX11 112 "KingdomAtDiceModel" "throwsNow" "I", Cond.fieldLink RX11 115 "KingdomAtDiceModel" "seenMany" "I", Cond.fieldLink RX11 118 "KingdomAtDiceModel" "hallsRead" "I", Cond.methodLink RX11 98 yX11_faultOf, Cond.instanceMethod yX11_faultOf, Cond.selects RX11 yX11_faultOf yX11_faultOf, Cond.initialized RX11, Cond.code yX11_faultOf cX11_faultOf 2 (some .int), Cond.fieldLink RX11 77 "KingdomAtDiceModel" "readSelf" "Z", Cond.fieldLink RX11 16 "KingdomAtDiceModel" "page" "[I", Cond.methodLink RX11 94 yX11_go, Cond.instanceMethod yX11_go, Cond.selects RX11 yX11_go yX11_go, Cond.code yX11_go cX11_go 4 (some .boolean), Cond.constantLong RX11 87 (49)]
def wsX11_hall_r2 : List Cond := [Cond.constantLong RX11 89 (57), Cond.methodLink RX11 84 yX11_sortBy, Cond.static yX11_sortBy, Cond.code yX11_sortBy cX11_sortBy 1 (some .int), Cond.methodLink RX11 67 yX11_in, Cond.static yX11_in, Cond.code yX11_in cX11_in 6 (some .boolean), Cond.methodLink RX11 91 yX11_kindBy, Cond.static yX11_kindBy, Cond.code yX11_kindBy cX11_kindBy 1 (some .int), Cond.methodLink RX11 105 yX11_copy, Cond.static yX11_copy, Cond.code yX11_copy cX11_copy 3 none]
def wsX11_hall : List Cond := .code yX11_hall cX11_hall 2 (some .int) :: ((wsX11_hall_r1 ++ wsX11_hall_r2) ++ wsX110)
def wsX11_lacks : List Cond := .code yX11_lacks cX11_lacks 1 (some .boolean) :: ([.fieldLink RX11 102 "KingdomAtDiceModel" "things" "I"] ++ wsX110)
def wsX11_isThing : List Cond := .code yX11_isThing cX11_isThing 2 (some .boolean) :: ([.fieldLink RX11 102 "KingdomAtDiceModel" "things" "I", .methodLink RX11 67 yX11_in, .static yX11_in, .initialized RX11, .code yX11_in cX11_in 6 (some .boolean)] ++ wsX110)
def wsX11_isOne : List Cond := .code yX11_isOne cX11_isOne 2 (some .boolean) :: ([.methodLink RX11 121 yX11_lacks, .instanceMethod yX11_lacks, .selects RX11 yX11_lacks yX11_lacks, .initialized RX11, .code yX11_lacks cX11_lacks 1 (some .boolean), .fieldLink RX11 102 "KingdomAtDiceModel" "things" "I", .methodLink RX11 67 yX11_in, .static yX11_in, .code yX11_in cX11_in 6 (some .boolean)] ++ wsX110)
def wsX11_isKings : List Cond := .code yX11_isKings cX11_isKings 2 (some .boolean) :: ([.fieldLink RX11 25 "KingdomAtDiceModel" "rows" "[I"] ++ wsX110)
def wsX11_thing : List Cond := .code yX11_thing cX11_thing 3 (some .int) :: ([.constantLong RX11 128 (5), .fieldLink RX11 25 "KingdomAtDiceModel" "rows" "[I", .methodLink RX11 125 yX11_isThing, .instanceMethod yX11_isThing, .selects RX11 yX11_isThing yX11_isThing, .initialized RX11, .code yX11_isThing cX11_isThing 2 (some .boolean), .fieldLink RX11 102 "KingdomAtDiceModel" "things" "I", .methodLink RX11 67 yX11_in, .static yX11_in, .code yX11_in cX11_in 6 (some .boolean)] ++ wsX110)
def wsX11_tellDice : List Cond := .code yX11_tellDice cX11_tellDice 4 (some .int) :: ([.fieldLink RX11 28 "KingdomAtDiceModel" "kinds" "[I", .methodLink RX11 54 yX11_leastOf, .static yX11_leastOf, .initialized RX11, .code yX11_leastOf cX11_leastOf 1 (some .int), .methodLink RX11 58 yX11_mostOf, .static yX11_mostOf, .code yX11_mostOf cX11_mostOf 1 (some .int), .methodLink RX11 130 yX11_allWays, .instanceMethod yX11_allWays, .selects RX11 yX11_allWays yX11_allWays, .code yX11_allWays cX11_allWays 4 (some .int), .methodLink RX11 61 yX11_waysOf, .instanceMethod yX11_waysOf, .selects RX11 yX11_waysOf yX11_waysOf, .code yX11_waysOf cX11_waysOf 3 (some .int), .fieldLink RX11 13 "KingdomAtDiceModel" "tableBone" "[I", .fieldLink RX11 7 "KingdomAtDiceModel" "table" "[I"] ++ wsX110)
def wsX11_dice_r1 : List Cond := [Cond.methodLink RX11 133 yX11_isOne, Cond.instanceMethod yX11_isOne, Cond.selects RX11 yX11_isOne yX11_isOne, Cond.initialized RX11, Cond.code yX11_isOne cX11_isOne 2 (some .boolean), Cond.methodLink RX11 121 yX11_lacks, Cond.instanceMethod yX11_lacks, Cond.selects RX11 yX11_lacks yX11_lacks, Cond.code yX11_lacks cX11_lacks 1 (some .boolean), Cond.fieldLink RX11 102 "KingdomAtDiceModel" "things" "I", Cond.methodLink RX11 67 yX11_in, Cond.static yX11_in, Cond.code yX11_in cX11_in 6 (some .boolean), Cond.methodLink RX11 136 yX11_tellDice, Cond.instanceMethod yX11_tellDice, Cond.selects RX11 yX11_tellDice yX11_tellDice, Cond.code yX11_tellDice cX11_tellDice 4 (some .int), Cond.fieldLink RX11 28 "KingdomAtDiceModel" "kinds" "[I", Cond.methodLink RX11 54 yX11_leastOf, Cond.static yX11_leastOf, Cond.code yX11_leastOf cX11_leastOf 1 (some .int), Cond.methodLink RX11 58 yX11_mostOf, Cond.static yX11_mostOf, Cond.code yX11_mostOf cX11_mostOf 1 (some .int)]
def wsX11_dice_r2 : List Cond := [Cond.methodLink RX11 130 yX11_allWays, Cond.instanceMethod yX11_allWays, Cond.selects RX11 yX11_allWays yX11_allWays, Cond.code yX11_allWays cX11_allWays 4 (some .int), Cond.methodLink RX11 61 yX11_waysOf, Cond.instanceMethod yX11_waysOf, Cond.selects RX11 yX11_waysOf yX11_waysOf, Cond.code yX11_waysOf cX11_waysOf 3 (some .int), Cond.fieldLink RX11 13 "KingdomAtDiceModel" "tableBone" "[I", Cond.fieldLink RX11 7 "KingdomAtDiceModel" "table" "[I"]
def wsX11_dice : List Cond := .code yX11_dice cX11_dice 3 (some .int) :: ((wsX11_dice_r1 ++ wsX11_dice_r2) ++ wsX110)
def wsX11_as : List Cond := .code yX11_as cX11_as 4 (some .int) :: ([.constantLong RX11 139 (4), .fieldLink RX11 28 "KingdomAtDiceModel" "kinds" "[I", .methodLink RX11 133 yX11_isOne, .instanceMethod yX11_isOne, .selects RX11 yX11_isOne yX11_isOne, .initialized RX11, .code yX11_isOne cX11_isOne 2 (some .boolean), .methodLink RX11 121 yX11_lacks, .instanceMethod yX11_lacks, .selects RX11 yX11_lacks yX11_lacks, .code yX11_lacks cX11_lacks 1 (some .boolean), .fieldLink RX11 102 "KingdomAtDiceModel" "things" "I", .methodLink RX11 67 yX11_in, .static yX11_in, .code yX11_in cX11_in 6 (some .boolean)] ++ wsX110)
def wsX11_ways : List Cond := .code yX11_ways cX11_ways 3 (some .int) :: ([.constantLong RX11 141 (2), .constantLong RX11 143 (12), .fieldLink RX11 28 "KingdomAtDiceModel" "kinds" "[I", .methodLink RX11 133 yX11_isOne, .instanceMethod yX11_isOne, .selects RX11 yX11_isOne yX11_isOne, .initialized RX11, .code yX11_isOne cX11_isOne 2 (some .boolean), .methodLink RX11 121 yX11_lacks, .instanceMethod yX11_lacks, .selects RX11 yX11_lacks yX11_lacks, .code yX11_lacks cX11_lacks 1 (some .boolean), .fieldLink RX11 102 "KingdomAtDiceModel" "things" "I", .methodLink RX11 67 yX11_in, .static yX11_in, .code yX11_in cX11_in 6 (some .boolean), .methodLink RX11 61 yX11_waysOf, .instanceMethod yX11_waysOf, .selects RX11 yX11_waysOf yX11_waysOf, .code yX11_waysOf cX11_waysOf 3 (some .int), .fieldLink RX11 13 "KingdomAtDiceModel" "tableBone" "[I", .fieldLink RX11 7 "KingdomAtDiceModel" "table" "[I"] ++ wsX110)
def wsX11_isRightNow : List Cond := .code yX11_isRightNow cX11_isRightNow 3 (some .boolean) :: ([.fieldLink RX11 102 "KingdomAtDiceModel" "things" "I", .fieldLink RX11 25 "KingdomAtDiceModel" "rows" "[I", .methodLink RX11 145 yX11_isKings, .instanceMethod yX11_isKings, .selects RX11 yX11_isKings yX11_isKings, .initialized RX11, .code yX11_isKings cX11_isKings 2 (some .boolean)] ++ wsX110)
def wsX11_goesOver : List Cond := .code yX11_goesOver cX11_goesOver 3 none :: ([.fieldLink RX11 25 "KingdomAtDiceModel" "rows" "[I"] ++ wsX110)
def wsX11_loses : List Cond := .code yX11_loses cX11_loses 2 none :: ([.fieldLink RX11 25 "KingdomAtDiceModel" "rows" "[I", .fieldLink RX11 112 "KingdomAtDiceModel" "throwsNow" "I", .methodLink RX11 148 yX11_isRightNow, .instanceMethod yX11_isRightNow, .selects RX11 yX11_isRightNow yX11_isRightNow, .initialized RX11, .code yX11_isRightNow cX11_isRightNow 3 (some .boolean), .fieldLink RX11 102 "KingdomAtDiceModel" "things" "I", .methodLink RX11 145 yX11_isKings, .instanceMethod yX11_isKings, .selects RX11 yX11_isKings yX11_isKings, .code yX11_isKings cX11_isKings 2 (some .boolean), .methodLink RX11 151 yX11_goesOver, .instanceMethod yX11_goesOver, .selects RX11 yX11_goesOver yX11_goesOver, .code yX11_goesOver cX11_goesOver 3 none] ++ wsX110)
def wsX11_play_r1 : List Cond := [Cond.constantLong RX11 141 (2), Cond.constantLong RX11 143 (12), Cond.fieldLink RX11 28 "KingdomAtDiceModel" "kinds" "[I", Cond.fieldLink RX11 25 "KingdomAtDiceModel" "rows" "[I", Cond.fieldLink RX11 112 "KingdomAtDiceModel" "throwsNow" "I", Cond.fieldLink RX11 109 "KingdomAtDiceModel" "gold" "I", Cond.methodLink RX11 125 yX11_isThing, Cond.instanceMethod yX11_isThing, Cond.selects RX11 yX11_isThing yX11_isThing, Cond.initialized RX11, Cond.code yX11_isThing cX11_isThing 2 (some .boolean), Cond.fieldLink RX11 102 "KingdomAtDiceModel" "things" "I", Cond.methodLink RX11 67 yX11_in, Cond.static yX11_in, Cond.code yX11_in cX11_in 6 (some .boolean), Cond.methodLink RX11 61 yX11_waysOf, Cond.instanceMethod yX11_waysOf, Cond.selects RX11 yX11_waysOf yX11_waysOf, Cond.code yX11_waysOf cX11_waysOf 3 (some .int), Cond.fieldLink RX11 13 "KingdomAtDiceModel" "tableBone" "[I", Cond.fieldLink RX11 7 "KingdomAtDiceModel" "table" "[I", Cond.methodLink RX11 145 yX11_isKings, Cond.instanceMethod yX11_isKings, Cond.selects RX11 yX11_isKings yX11_isKings]
def wsX11_play_r2 : List Cond := [Cond.code yX11_isKings cX11_isKings 2 (some .boolean), Cond.methodLink RX11 155 yX11_loses, Cond.instanceMethod yX11_loses, Cond.selects RX11 yX11_loses yX11_loses, Cond.code yX11_loses cX11_loses 2 none, Cond.methodLink RX11 148 yX11_isRightNow, Cond.instanceMethod yX11_isRightNow, Cond.selects RX11 yX11_isRightNow yX11_isRightNow, Cond.code yX11_isRightNow cX11_isRightNow 3 (some .boolean), Cond.methodLink RX11 151 yX11_goesOver, Cond.instanceMethod yX11_goesOver, Cond.selects RX11 yX11_goesOver yX11_goesOver, Cond.code yX11_goesOver cX11_goesOver 3 none]
def wsX11_play : List Cond := .code yX11_play cX11_play 5 (some .int) :: ((wsX11_play_r1 ++ wsX11_play_r2) ++ wsX110)
def wsX11_waysBy : List Cond := .code yX11_waysBy cX11_waysBy 7 (some .long) :: ([.fieldLink RX11 28 "KingdomAtDiceModel" "kinds" "[I", .methodLink RX11 61 yX11_waysOf, .instanceMethod yX11_waysOf, .selects RX11 yX11_waysOf yX11_waysOf, .initialized RX11, .code yX11_waysOf cX11_waysOf 3 (some .int), .fieldLink RX11 13 "KingdomAtDiceModel" "tableBone" "[I", .fieldLink RX11 7 "KingdomAtDiceModel" "table" "[I"] ++ wsX110)
def wsX11_waysOfBoth : List Cond := .code yX11_waysOfBoth cX11_waysOfBoth 1 (some .long) :: ([.fieldLink RX11 28 "KingdomAtDiceModel" "kinds" "[I", .methodLink RX11 130 yX11_allWays, .instanceMethod yX11_allWays, .selects RX11 yX11_allWays yX11_allWays, .initialized RX11, .code yX11_allWays cX11_allWays 4 (some .int), .methodLink RX11 61 yX11_waysOf, .instanceMethod yX11_waysOf, .selects RX11 yX11_waysOf yX11_waysOf, .code yX11_waysOf cX11_waysOf 3 (some .int), .fieldLink RX11 13 "KingdomAtDiceModel" "tableBone" "[I", .fieldLink RX11 7 "KingdomAtDiceModel" "table" "[I"] ++ wsX110)
def wsX11_oddsOf : List Cond := .code yX11_oddsOf cX11_oddsOf 6 (some .int) :: ([.methodLink RX11 159 yX11_waysBy, .instanceMethod yX11_waysBy, .selects RX11 yX11_waysBy yX11_waysBy, .initialized RX11, .code yX11_waysBy cX11_waysBy 7 (some .long), .fieldLink RX11 28 "KingdomAtDiceModel" "kinds" "[I", .methodLink RX11 61 yX11_waysOf, .instanceMethod yX11_waysOf, .selects RX11 yX11_waysOf yX11_waysOf, .code yX11_waysOf cX11_waysOf 3 (some .int), .fieldLink RX11 13 "KingdomAtDiceModel" "tableBone" "[I", .fieldLink RX11 7 "KingdomAtDiceModel" "table" "[I", .methodLink RX11 163 yX11_waysOfBoth, .instanceMethod yX11_waysOfBoth, .selects RX11 yX11_waysOfBoth yX11_waysOfBoth, .code yX11_waysOfBoth cX11_waysOfBoth 1 (some .long), .methodLink RX11 130 yX11_allWays, .instanceMethod yX11_allWays, .selects RX11 yX11_allWays yX11_allWays, .code yX11_allWays cX11_allWays 4 (some .int), .methodLink RX11 167 yX11_common, .static yX11_common, .code yX11_common cX11_common 10 (some .long)] ++ wsX110)
def wsX11_odds_r1 : List Cond := [Cond.constantLong RX11 128 (5), Cond.methodLink RX11 67 yX11_in, Cond.static yX11_in, Cond.initialized RX11, Cond.code yX11_in cX11_in 6 (some .boolean), Cond.methodLink RX11 121 yX11_lacks, Cond.instanceMethod yX11_lacks, Cond.selects RX11 yX11_lacks yX11_lacks, Cond.code yX11_lacks cX11_lacks 1 (some .boolean), Cond.fieldLink RX11 102 "KingdomAtDiceModel" "things" "I", Cond.methodLink RX11 171 yX11_oddsOf, Cond.instanceMethod yX11_oddsOf, Cond.selects RX11 yX11_oddsOf yX11_oddsOf, Cond.code yX11_oddsOf cX11_oddsOf 6 (some .int), Cond.methodLink RX11 159 yX11_waysBy, Cond.instanceMethod yX11_waysBy, Cond.selects RX11 yX11_waysBy yX11_waysBy, Cond.code yX11_waysBy cX11_waysBy 7 (some .long), Cond.fieldLink RX11 28 "KingdomAtDiceModel" "kinds" "[I", Cond.methodLink RX11 61 yX11_waysOf, Cond.instanceMethod yX11_waysOf, Cond.selects RX11 yX11_waysOf yX11_waysOf, Cond.code yX11_waysOf cX11_waysOf 3 (some .int), Cond.fieldLink RX11 13 "KingdomAtDiceModel" "tableBone" "[I"]
def wsX11_odds_r2 : List Cond := [Cond.fieldLink RX11 7 "KingdomAtDiceModel" "table" "[I", Cond.methodLink RX11 163 yX11_waysOfBoth, Cond.instanceMethod yX11_waysOfBoth, Cond.selects RX11 yX11_waysOfBoth yX11_waysOfBoth, Cond.code yX11_waysOfBoth cX11_waysOfBoth 1 (some .long), Cond.methodLink RX11 130 yX11_allWays, Cond.instanceMethod yX11_allWays, Cond.selects RX11 yX11_allWays yX11_allWays, Cond.code yX11_allWays cX11_allWays 4 (some .int), Cond.methodLink RX11 167 yX11_common, Cond.static yX11_common, Cond.code yX11_common cX11_common 10 (some .long)]
def wsX11_odds : List Cond := .code yX11_odds cX11_odds 2 (some .int) :: ((wsX11_odds_r1 ++ wsX11_odds_r2) ++ wsX110)
def wsX11_backOf_r1 : List Cond := [Cond.fieldLink RX11 102 "KingdomAtDiceModel" "things" "I", Cond.fieldLink RX11 25 "KingdomAtDiceModel" "rows" "[I", Cond.fieldLink RX11 31 "KingdomAtDiceModel" "now" "[J", Cond.fieldLink RX11 35 "KingdomAtDiceModel" "next" "[J", Cond.methodLink RX11 145 yX11_isKings, Cond.instanceMethod yX11_isKings, Cond.selects RX11 yX11_isKings yX11_isKings, Cond.initialized RX11, Cond.code yX11_isKings cX11_isKings 2 (some .boolean), Cond.methodLink RX11 159 yX11_waysBy, Cond.instanceMethod yX11_waysBy, Cond.selects RX11 yX11_waysBy yX11_waysBy, Cond.code yX11_waysBy cX11_waysBy 7 (some .long), Cond.fieldLink RX11 28 "KingdomAtDiceModel" "kinds" "[I", Cond.methodLink RX11 61 yX11_waysOf, Cond.instanceMethod yX11_waysOf, Cond.selects RX11 yX11_waysOf yX11_waysOf, Cond.code yX11_waysOf cX11_waysOf 3 (some .int), Cond.fieldLink RX11 13 "KingdomAtDiceModel" "tableBone" "[I", Cond.fieldLink RX11 7 "KingdomAtDiceModel" "table" "[I", Cond.methodLink RX11 163 yX11_waysOfBoth, Cond.instanceMethod yX11_waysOfBoth, Cond.selects RX11 yX11_waysOfBoth yX11_waysOfBoth, Cond.code yX11_waysOfBoth cX11_waysOfBoth 1 (some .long)]
def wsX11_backOf_r2 : List Cond := [Cond.methodLink RX11 130 yX11_allWays, Cond.instanceMethod yX11_allWays, Cond.selects RX11 yX11_allWays yX11_allWays, Cond.code yX11_allWays cX11_allWays 4 (some .int), Cond.methodLink RX11 167 yX11_common, Cond.static yX11_common, Cond.code yX11_common cX11_common 10 (some .long)]
def wsX11_backOf : List Cond := .code yX11_backOf cX11_backOf 9 (some .long) :: ((wsX11_backOf_r1 ++ wsX11_backOf_r2) ++ wsX110)
def wsX11_back_r1 : List Cond := [Cond.constantLong RX11 174 (-101), Cond.constantLong RX11 128 (5), Cond.constantLong RX11 176 (-102), Cond.constantLong RX11 178 (-103), Cond.methodLink RX11 125 yX11_isThing, Cond.instanceMethod yX11_isThing, Cond.selects RX11 yX11_isThing yX11_isThing, Cond.initialized RX11, Cond.code yX11_isThing cX11_isThing 2 (some .boolean), Cond.fieldLink RX11 102 "KingdomAtDiceModel" "things" "I", Cond.methodLink RX11 67 yX11_in, Cond.static yX11_in, Cond.code yX11_in cX11_in 6 (some .boolean), Cond.methodLink RX11 145 yX11_isKings, Cond.instanceMethod yX11_isKings, Cond.selects RX11 yX11_isKings yX11_isKings, Cond.code yX11_isKings cX11_isKings 2 (some .boolean), Cond.fieldLink RX11 25 "KingdomAtDiceModel" "rows" "[I", Cond.methodLink RX11 180 yX11_backOf, Cond.instanceMethod yX11_backOf, Cond.selects RX11 yX11_backOf yX11_backOf, Cond.code yX11_backOf cX11_backOf 9 (some .long), Cond.fieldLink RX11 31 "KingdomAtDiceModel" "now" "[J", Cond.fieldLink RX11 35 "KingdomAtDiceModel" "next" "[J"]
def wsX11_back_r2 : List Cond := [Cond.methodLink RX11 159 yX11_waysBy, Cond.instanceMethod yX11_waysBy, Cond.selects RX11 yX11_waysBy yX11_waysBy, Cond.code yX11_waysBy cX11_waysBy 7 (some .long), Cond.fieldLink RX11 28 "KingdomAtDiceModel" "kinds" "[I", Cond.methodLink RX11 61 yX11_waysOf, Cond.instanceMethod yX11_waysOf, Cond.selects RX11 yX11_waysOf yX11_waysOf, Cond.code yX11_waysOf cX11_waysOf 3 (some .int), Cond.fieldLink RX11 13 "KingdomAtDiceModel" "tableBone" "[I", Cond.fieldLink RX11 7 "KingdomAtDiceModel" "table" "[I", Cond.methodLink RX11 163 yX11_waysOfBoth, Cond.instanceMethod yX11_waysOfBoth, Cond.selects RX11 yX11_waysOfBoth yX11_waysOfBoth, Cond.code yX11_waysOfBoth cX11_waysOfBoth 1 (some .long), Cond.methodLink RX11 130 yX11_allWays, Cond.instanceMethod yX11_allWays, Cond.selects RX11 yX11_allWays yX11_allWays, Cond.code yX11_allWays cX11_allWays 4 (some .int), Cond.methodLink RX11 167 yX11_common, Cond.static yX11_common, Cond.code yX11_common cX11_common 10 (some .long)]
def wsX11_back : List Cond := .code yX11_back cX11_back 4 (some .long) :: ((wsX11_back_r1 ++ wsX11_back_r2) ++ wsX110)
def wsX11_isByLaw : List Cond := .code yX11_isByLaw cX11_isByLaw 5 (some .boolean) :: ([.fieldLink RX11 25 "KingdomAtDiceModel" "rows" "[I", .methodLink RX11 145 yX11_isKings, .instanceMethod yX11_isKings, .selects RX11 yX11_isKings yX11_isKings, .initialized RX11, .code yX11_isKings cX11_isKings 2 (some .boolean)] ++ wsX110)
def wsX11_lawOf : List Cond := .code yX11_lawOf cX11_lawOf 7 (some .int) :: ([.fieldLink RX11 102 "KingdomAtDiceModel" "things" "I", .fieldLink RX11 25 "KingdomAtDiceModel" "rows" "[I", .methodLink RX11 184 yX11_isByLaw, .instanceMethod yX11_isByLaw, .selects RX11 yX11_isByLaw yX11_isByLaw, .initialized RX11, .code yX11_isByLaw cX11_isByLaw 5 (some .boolean), .methodLink RX11 145 yX11_isKings, .instanceMethod yX11_isKings, .selects RX11 yX11_isKings yX11_isKings, .code yX11_isKings cX11_isKings 2 (some .boolean)] ++ wsX110)
def wsX11_laws : List Cond := .code yX11_laws cX11_laws 3 (some .int) :: ([.constantLong RX11 188 (3), .methodLink RX11 67 yX11_in, .static yX11_in, .initialized RX11, .code yX11_in cX11_in 6 (some .boolean), .methodLink RX11 121 yX11_lacks, .instanceMethod yX11_lacks, .selects RX11 yX11_lacks yX11_lacks, .code yX11_lacks cX11_lacks 1 (some .boolean), .fieldLink RX11 102 "KingdomAtDiceModel" "things" "I", .methodLink RX11 190 yX11_lawOf, .instanceMethod yX11_lawOf, .selects RX11 yX11_lawOf yX11_lawOf, .code yX11_lawOf cX11_lawOf 7 (some .int), .fieldLink RX11 25 "KingdomAtDiceModel" "rows" "[I", .methodLink RX11 184 yX11_isByLaw, .instanceMethod yX11_isByLaw, .selects RX11 yX11_isByLaw yX11_isByLaw, .code yX11_isByLaw cX11_isByLaw 5 (some .boolean), .methodLink RX11 145 yX11_isKings, .instanceMethod yX11_isKings, .selects RX11 yX11_isKings yX11_isKings, .code yX11_isKings cX11_isKings 2 (some .boolean)] ++ wsX110)
def wsX11_see : List Cond := .code yX11_see cX11_see 2 (some .int) :: ([.constantLong RX11 141 (2), .constantLong RX11 143 (12), .fieldLink RX11 115 "KingdomAtDiceModel" "seenMany" "I", .fieldLink RX11 38 "KingdomAtDiceModel" "sums" "[I", .methodLink RX11 67 yX11_in, .static yX11_in, .initialized RX11, .code yX11_in cX11_in 6 (some .boolean)] ++ wsX110)
def wsX11_forget : List Cond := .code yX11_forget cX11_forget 2 (some .int) :: ([.fieldLink RX11 115 "KingdomAtDiceModel" "seenMany" "I"] ++ wsX110)
def wsX11_productOf : List Cond := .code yX11_productOf cX11_productOf 5 (some .long) :: ([.fieldLink RX11 115 "KingdomAtDiceModel" "seenMany" "I", .fieldLink RX11 38 "KingdomAtDiceModel" "sums" "[I", .methodLink RX11 61 yX11_waysOf, .instanceMethod yX11_waysOf, .selects RX11 yX11_waysOf yX11_waysOf, .initialized RX11, .code yX11_waysOf cX11_waysOf 3 (some .int), .fieldLink RX11 13 "KingdomAtDiceModel" "tableBone" "[I", .fieldLink RX11 7 "KingdomAtDiceModel" "table" "[I"] ++ wsX110)
def wsX11_allOf : List Cond := .code yX11_allOf cX11_allOf 5 (some .long) :: ([.fieldLink RX11 115 "KingdomAtDiceModel" "seenMany" "I", .methodLink RX11 130 yX11_allWays, .instanceMethod yX11_allWays, .selects RX11 yX11_allWays yX11_allWays, .initialized RX11, .code yX11_allWays cX11_allWays 4 (some .int), .methodLink RX11 61 yX11_waysOf, .instanceMethod yX11_waysOf, .selects RX11 yX11_waysOf yX11_waysOf, .code yX11_waysOf cX11_waysOf 3 (some .int), .fieldLink RX11 13 "KingdomAtDiceModel" "tableBone" "[I", .fieldLink RX11 7 "KingdomAtDiceModel" "table" "[I"] ++ wsX110)
def wsX11_whichOf : List Cond := .code yX11_whichOf cX11_whichOf 3 (some .int) :: ([.methodLink RX11 193 yX11_productOf, .instanceMethod yX11_productOf, .selects RX11 yX11_productOf yX11_productOf, .initialized RX11, .code yX11_productOf cX11_productOf 5 (some .long), .fieldLink RX11 115 "KingdomAtDiceModel" "seenMany" "I", .fieldLink RX11 38 "KingdomAtDiceModel" "sums" "[I", .methodLink RX11 61 yX11_waysOf, .instanceMethod yX11_waysOf, .selects RX11 yX11_waysOf yX11_waysOf, .code yX11_waysOf cX11_waysOf 3 (some .int), .fieldLink RX11 13 "KingdomAtDiceModel" "tableBone" "[I", .fieldLink RX11 7 "KingdomAtDiceModel" "table" "[I"] ++ wsX110)
def wsX11_which : List Cond := .code yX11_which cX11_which 1 (some .int) :: ([.methodLink RX11 196 yX11_whichOf, .instanceMethod yX11_whichOf, .selects RX11 yX11_whichOf yX11_whichOf, .initialized RX11, .code yX11_whichOf cX11_whichOf 3 (some .int), .methodLink RX11 193 yX11_productOf, .instanceMethod yX11_productOf, .selects RX11 yX11_productOf yX11_productOf, .code yX11_productOf cX11_productOf 5 (some .long), .fieldLink RX11 115 "KingdomAtDiceModel" "seenMany" "I", .fieldLink RX11 38 "KingdomAtDiceModel" "sums" "[I", .methodLink RX11 61 yX11_waysOf, .instanceMethod yX11_waysOf, .selects RX11 yX11_waysOf yX11_waysOf, .code yX11_waysOf cX11_waysOf 3 (some .int), .fieldLink RX11 13 "KingdomAtDiceModel" "tableBone" "[I", .fieldLink RX11 7 "KingdomAtDiceModel" "table" "[I"] ++ wsX110)
def wsX11_likelyOf : List Cond := .code yX11_likelyOf cX11_likelyOf 4 (some .int) :: ([.methodLink RX11 193 yX11_productOf, .instanceMethod yX11_productOf, .selects RX11 yX11_productOf yX11_productOf, .initialized RX11, .code yX11_productOf cX11_productOf 5 (some .long), .fieldLink RX11 115 "KingdomAtDiceModel" "seenMany" "I", .fieldLink RX11 38 "KingdomAtDiceModel" "sums" "[I", .methodLink RX11 61 yX11_waysOf, .instanceMethod yX11_waysOf, .selects RX11 yX11_waysOf yX11_waysOf, .code yX11_waysOf cX11_waysOf 3 (some .int), .fieldLink RX11 13 "KingdomAtDiceModel" "tableBone" "[I", .fieldLink RX11 7 "KingdomAtDiceModel" "table" "[I", .methodLink RX11 199 yX11_allOf, .instanceMethod yX11_allOf, .selects RX11 yX11_allOf yX11_allOf, .code yX11_allOf cX11_allOf 5 (some .long), .methodLink RX11 130 yX11_allWays, .instanceMethod yX11_allWays, .selects RX11 yX11_allWays yX11_allWays, .code yX11_allWays cX11_allWays 4 (some .int)] ++ wsX110)
def wsX11_likely_r1 : List Cond := [Cond.methodLink RX11 202 yX11_likelyOf, Cond.instanceMethod yX11_likelyOf, Cond.selects RX11 yX11_likelyOf yX11_likelyOf, Cond.initialized RX11, Cond.code yX11_likelyOf cX11_likelyOf 4 (some .int), Cond.methodLink RX11 193 yX11_productOf, Cond.instanceMethod yX11_productOf, Cond.selects RX11 yX11_productOf yX11_productOf, Cond.code yX11_productOf cX11_productOf 5 (some .long), Cond.fieldLink RX11 115 "KingdomAtDiceModel" "seenMany" "I", Cond.fieldLink RX11 38 "KingdomAtDiceModel" "sums" "[I", Cond.methodLink RX11 61 yX11_waysOf, Cond.instanceMethod yX11_waysOf, Cond.selects RX11 yX11_waysOf yX11_waysOf, Cond.code yX11_waysOf cX11_waysOf 3 (some .int), Cond.fieldLink RX11 13 "KingdomAtDiceModel" "tableBone" "[I", Cond.fieldLink RX11 7 "KingdomAtDiceModel" "table" "[I", Cond.methodLink RX11 199 yX11_allOf, Cond.instanceMethod yX11_allOf, Cond.selects RX11 yX11_allOf yX11_allOf, Cond.code yX11_allOf cX11_allOf 5 (some .long), Cond.methodLink RX11 130 yX11_allWays, Cond.instanceMethod yX11_allWays, Cond.selects RX11 yX11_allWays yX11_allWays]
def wsX11_likely_r2 : List Cond := [Cond.code yX11_allWays cX11_allWays 4 (some .int)]
def wsX11_likely : List Cond := .code yX11_likely cX11_likely 1 (some .int) :: ((wsX11_likely_r1 ++ wsX11_likely_r2) ++ wsX110)
def wsX11_draw : List Cond := .code yX11_draw cX11_draw 2 (some .int) :: ([.constantLong RX11 205 (1103515245), .fieldLink RX11 207 "KingdomAtDiceModel" "seedNow" "I", .constantLong RX11 210 (12345), .constantLong RX11 212 (2147483647), .constant RX11 214 (65536)] ++ wsX110)
def wsX11_falls : List Cond := .code yX11_falls cX11_falls 4 (some .int) :: ([.methodLink RX11 58 yX11_mostOf, .static yX11_mostOf, .initialized RX11, .code yX11_mostOf cX11_mostOf 1 (some .int), .methodLink RX11 54 yX11_leastOf, .static yX11_leastOf, .code yX11_leastOf cX11_leastOf 1 (some .int), .methodLink RX11 215 yX11_draw, .instanceMethod yX11_draw, .selects RX11 yX11_draw yX11_draw, .code yX11_draw cX11_draw 2 (some .int), .constantLong RX11 205 (1103515245), .fieldLink RX11 207 "KingdomAtDiceModel" "seedNow" "I", .constantLong RX11 210 (12345), .constantLong RX11 212 (2147483647), .constant RX11 214 (65536)] ++ wsX110)
def wsX11_leastKings : List Cond := .code yX11_leastKings cX11_leastKings 3 (some .int) :: ([.fieldLink RX11 102 "KingdomAtDiceModel" "things" "I", .methodLink RX11 145 yX11_isKings, .instanceMethod yX11_isKings, .selects RX11 yX11_isKings yX11_isKings, .initialized RX11, .code yX11_isKings cX11_isKings 2 (some .boolean), .fieldLink RX11 25 "KingdomAtDiceModel" "rows" "[I"] ++ wsX110)
def wsX11_kingsMany : List Cond := .code yX11_kingsMany cX11_kingsMany 3 (some .int) :: ([.fieldLink RX11 102 "KingdomAtDiceModel" "things" "I", .methodLink RX11 145 yX11_isKings, .instanceMethod yX11_isKings, .selects RX11 yX11_isKings yX11_isKings, .initialized RX11, .code yX11_isKings cX11_isKings 2 (some .boolean), .fieldLink RX11 25 "KingdomAtDiceModel" "rows" "[I"] ++ wsX110)
def wsX11_halls_r1 : List Cond := [Cond.constantLong RX11 218 (60), Cond.constantLong RX11 141 (2), Cond.fieldLink RX11 25 "KingdomAtDiceModel" "rows" "[I", Cond.fieldLink RX11 41 "KingdomAtDiceModel" "savedRows" "[I", Cond.fieldLink RX11 207 "KingdomAtDiceModel" "seedNow" "I", Cond.fieldLink RX11 109 "KingdomAtDiceModel" "gold" "I", Cond.fieldLink RX11 28 "KingdomAtDiceModel" "kinds" "[I", Cond.methodLink RX11 67 yX11_in, Cond.static yX11_in, Cond.initialized RX11, Cond.code yX11_in cX11_in 6 (some .boolean), Cond.methodLink RX11 121 yX11_lacks, Cond.instanceMethod yX11_lacks, Cond.selects RX11 yX11_lacks yX11_lacks, Cond.code yX11_lacks cX11_lacks 1 (some .boolean), Cond.fieldLink RX11 102 "KingdomAtDiceModel" "things" "I", Cond.methodLink RX11 105 yX11_copy, Cond.static yX11_copy, Cond.code yX11_copy cX11_copy 3 none, Cond.methodLink RX11 220 yX11_kingsMany, Cond.instanceMethod yX11_kingsMany, Cond.selects RX11 yX11_kingsMany yX11_kingsMany, Cond.code yX11_kingsMany cX11_kingsMany 3 (some .int), Cond.methodLink RX11 145 yX11_isKings]
def wsX11_halls_r2 : List Cond := [Cond.instanceMethod yX11_isKings, Cond.selects RX11 yX11_isKings yX11_isKings, Cond.code yX11_isKings cX11_isKings 2 (some .boolean), Cond.methodLink RX11 223 yX11_leastKings, Cond.instanceMethod yX11_leastKings, Cond.selects RX11 yX11_leastKings yX11_leastKings, Cond.code yX11_leastKings cX11_leastKings 3 (some .int), Cond.methodLink RX11 226 yX11_falls, Cond.instanceMethod yX11_falls, Cond.selects RX11 yX11_falls yX11_falls, Cond.code yX11_falls cX11_falls 4 (some .int), Cond.methodLink RX11 58 yX11_mostOf, Cond.static yX11_mostOf, Cond.code yX11_mostOf cX11_mostOf 1 (some .int), Cond.methodLink RX11 54 yX11_leastOf, Cond.static yX11_leastOf, Cond.code yX11_leastOf cX11_leastOf 1 (some .int), Cond.methodLink RX11 215 yX11_draw, Cond.instanceMethod yX11_draw, Cond.selects RX11 yX11_draw yX11_draw, Cond.code yX11_draw cX11_draw 2 (some .int), Cond.constantLong RX11 205 (1103515245), Cond.constantLong RX11 210 (12345), Cond.constantLong RX11 212 (2147483647)]
def wsX11_halls_r3 : List Cond := [Cond.constant RX11 214 (65536)]
def wsX11_halls : List Cond := .code yX11_halls cX11_halls 9 (some .int) :: ((wsX11_halls_r1 ++ (wsX11_halls_r2 ++ wsX11_halls_r3)) ++ wsX110)
def wsX11_image : List Cond := .code yX11_image cX11_image 1 (some .int) :: ([.fieldLink RX11 25 "KingdomAtDiceModel" "rows" "[I", .fieldLink RX11 44 "KingdomAtDiceModel" "keptRows" "[I", .fieldLink RX11 38 "KingdomAtDiceModel" "sums" "[I", .fieldLink RX11 47 "KingdomAtDiceModel" "keptSums" "[I", .fieldLink RX11 109 "KingdomAtDiceModel" "gold" "I", .fieldLink RX11 229 "KingdomAtDiceModel" "keptGold" "I", .fieldLink RX11 112 "KingdomAtDiceModel" "throwsNow" "I", .fieldLink RX11 232 "KingdomAtDiceModel" "keptThrows" "I", .fieldLink RX11 115 "KingdomAtDiceModel" "seenMany" "I", .fieldLink RX11 235 "KingdomAtDiceModel" "keptSeen" "I", .fieldLink RX11 118 "KingdomAtDiceModel" "hallsRead" "I", .fieldLink RX11 50 "KingdomAtDiceModel" "keptHall" "I", .methodLink RX11 121 yX11_lacks, .instanceMethod yX11_lacks, .selects RX11 yX11_lacks yX11_lacks, .initialized RX11, .code yX11_lacks cX11_lacks 1 (some .boolean), .fieldLink RX11 102 "KingdomAtDiceModel" "things" "I", .methodLink RX11 105 yX11_copy, .static yX11_copy, .code yX11_copy cX11_copy 3 none] ++ wsX110)
def wsX11_restore : List Cond := .code yX11_restore cX11_restore 1 (some .int) :: ([.fieldLink RX11 50 "KingdomAtDiceModel" "keptHall" "I", .fieldLink RX11 118 "KingdomAtDiceModel" "hallsRead" "I", .fieldLink RX11 44 "KingdomAtDiceModel" "keptRows" "[I", .fieldLink RX11 25 "KingdomAtDiceModel" "rows" "[I", .fieldLink RX11 47 "KingdomAtDiceModel" "keptSums" "[I", .fieldLink RX11 38 "KingdomAtDiceModel" "sums" "[I", .fieldLink RX11 229 "KingdomAtDiceModel" "keptGold" "I", .fieldLink RX11 109 "KingdomAtDiceModel" "gold" "I", .fieldLink RX11 232 "KingdomAtDiceModel" "keptThrows" "I", .fieldLink RX11 112 "KingdomAtDiceModel" "throwsNow" "I", .fieldLink RX11 235 "KingdomAtDiceModel" "keptSeen" "I", .fieldLink RX11 115 "KingdomAtDiceModel" "seenMany" "I", .methodLink RX11 105 yX11_copy, .static yX11_copy, .initialized RX11, .code yX11_copy cX11_copy 3 none] ++ wsX110)
def wsX11_wrongMany : List Cond := .code yX11_wrongMany cX11_wrongMany 3 (some .int) :: ([.fieldLink RX11 102 "KingdomAtDiceModel" "things" "I", .fieldLink RX11 25 "KingdomAtDiceModel" "rows" "[I", .methodLink RX11 145 yX11_isKings, .instanceMethod yX11_isKings, .selects RX11 yX11_isKings yX11_isKings, .initialized RX11, .code yX11_isKings cX11_isKings 2 (some .boolean)] ++ wsX110)
def wsX11_countOf_r1 : List Cond := [Cond.fieldLink RX11 102 "KingdomAtDiceModel" "things" "I", Cond.fieldLink RX11 109 "KingdomAtDiceModel" "gold" "I", Cond.fieldLink RX11 112 "KingdomAtDiceModel" "throwsNow" "I", Cond.fieldLink RX11 115 "KingdomAtDiceModel" "seenMany" "I", Cond.fieldLink RX11 71 "KingdomAtDiceModel" "pageMany" "I", Cond.fieldLink RX11 118 "KingdomAtDiceModel" "hallsRead" "I", Cond.methodLink RX11 220 yX11_kingsMany, Cond.instanceMethod yX11_kingsMany, Cond.selects RX11 yX11_kingsMany yX11_kingsMany, Cond.initialized RX11, Cond.code yX11_kingsMany cX11_kingsMany 3 (some .int), Cond.methodLink RX11 145 yX11_isKings, Cond.instanceMethod yX11_isKings, Cond.selects RX11 yX11_isKings yX11_isKings, Cond.code yX11_isKings cX11_isKings 2 (some .boolean), Cond.fieldLink RX11 25 "KingdomAtDiceModel" "rows" "[I", Cond.methodLink RX11 190 yX11_lawOf, Cond.instanceMethod yX11_lawOf, Cond.selects RX11 yX11_lawOf yX11_lawOf, Cond.code yX11_lawOf cX11_lawOf 7 (some .int), Cond.methodLink RX11 184 yX11_isByLaw, Cond.instanceMethod yX11_isByLaw, Cond.selects RX11 yX11_isByLaw yX11_isByLaw, Cond.code yX11_isByLaw cX11_isByLaw 5 (some .boolean)]
def wsX11_countOf_r2 : List Cond := [Cond.methodLink RX11 238 yX11_wrongMany, Cond.instanceMethod yX11_wrongMany, Cond.selects RX11 yX11_wrongMany yX11_wrongMany, Cond.code yX11_wrongMany cX11_wrongMany 3 (some .int)]
def wsX11_countOf : List Cond := .code yX11_countOf cX11_countOf 2 (some .int) :: ((wsX11_countOf_r1 ++ wsX11_countOf_r2) ++ wsX110)
def wsX11_count_r1 : List Cond := [Cond.methodLink RX11 241 yX11_countOf, Cond.instanceMethod yX11_countOf, Cond.selects RX11 yX11_countOf yX11_countOf, Cond.initialized RX11, Cond.code yX11_countOf cX11_countOf 2 (some .int), Cond.fieldLink RX11 102 "KingdomAtDiceModel" "things" "I", Cond.fieldLink RX11 109 "KingdomAtDiceModel" "gold" "I", Cond.fieldLink RX11 112 "KingdomAtDiceModel" "throwsNow" "I", Cond.fieldLink RX11 115 "KingdomAtDiceModel" "seenMany" "I", Cond.fieldLink RX11 71 "KingdomAtDiceModel" "pageMany" "I", Cond.fieldLink RX11 118 "KingdomAtDiceModel" "hallsRead" "I", Cond.methodLink RX11 220 yX11_kingsMany, Cond.instanceMethod yX11_kingsMany, Cond.selects RX11 yX11_kingsMany yX11_kingsMany, Cond.code yX11_kingsMany cX11_kingsMany 3 (some .int), Cond.methodLink RX11 145 yX11_isKings, Cond.instanceMethod yX11_isKings, Cond.selects RX11 yX11_isKings yX11_isKings, Cond.code yX11_isKings cX11_isKings 2 (some .boolean), Cond.fieldLink RX11 25 "KingdomAtDiceModel" "rows" "[I", Cond.methodLink RX11 190 yX11_lawOf, Cond.instanceMethod yX11_lawOf, Cond.selects RX11 yX11_lawOf yX11_lawOf, Cond.code yX11_lawOf cX11_lawOf 7 (some .int)]
def wsX11_count_r2 : List Cond := [Cond.methodLink RX11 184 yX11_isByLaw, Cond.instanceMethod yX11_isByLaw, Cond.selects RX11 yX11_isByLaw yX11_isByLaw, Cond.code yX11_isByLaw cX11_isByLaw 5 (some .boolean), Cond.methodLink RX11 238 yX11_wrongMany, Cond.instanceMethod yX11_wrongMany, Cond.selects RX11 yX11_wrongMany yX11_wrongMany, Cond.code yX11_wrongMany cX11_wrongMany 3 (some .int)]
def wsX11_count : List Cond := .code yX11_count cX11_count 2 (some .int) :: ((wsX11_count_r1 ++ wsX11_count_r2) ++ wsX110)
def wsX11_say : List Cond := .code yX11_say cX11_say 3 none :: ([.constantLong RX11 244 (31), .fieldLink RX11 246 "KingdomAtDiceModel" "hash" "J"] ++ wsX110)
def wsX11_sayHall_r1 : List Cond := [Cond.methodLink RX11 136 yX11_tellDice, Cond.instanceMethod yX11_tellDice, Cond.selects RX11 yX11_tellDice yX11_tellDice, Cond.initialized RX11, Cond.code yX11_tellDice cX11_tellDice 4 (some .int), Cond.fieldLink RX11 28 "KingdomAtDiceModel" "kinds" "[I", Cond.methodLink RX11 54 yX11_leastOf, Cond.static yX11_leastOf, Cond.code yX11_leastOf cX11_leastOf 1 (some .int), Cond.methodLink RX11 58 yX11_mostOf, Cond.static yX11_mostOf, Cond.code yX11_mostOf cX11_mostOf 1 (some .int), Cond.methodLink RX11 130 yX11_allWays, Cond.instanceMethod yX11_allWays, Cond.selects RX11 yX11_allWays yX11_allWays, Cond.code yX11_allWays cX11_allWays 4 (some .int), Cond.methodLink RX11 61 yX11_waysOf, Cond.instanceMethod yX11_waysOf, Cond.selects RX11 yX11_waysOf yX11_waysOf, Cond.code yX11_waysOf cX11_waysOf 3 (some .int), Cond.fieldLink RX11 13 "KingdomAtDiceModel" "tableBone" "[I", Cond.fieldLink RX11 7 "KingdomAtDiceModel" "table" "[I", Cond.methodLink RX11 250 yX11_say, Cond.instanceMethod yX11_say]
def wsX11_sayHall_r2 : List Cond := [Cond.selects RX11 yX11_say yX11_say, Cond.code yX11_say cX11_say 3 none, Cond.constantLong RX11 244 (31), Cond.fieldLink RX11 246 "KingdomAtDiceModel" "hash" "J", Cond.methodLink RX11 171 yX11_oddsOf, Cond.instanceMethod yX11_oddsOf, Cond.selects RX11 yX11_oddsOf yX11_oddsOf, Cond.code yX11_oddsOf cX11_oddsOf 6 (some .int), Cond.methodLink RX11 159 yX11_waysBy, Cond.instanceMethod yX11_waysBy, Cond.selects RX11 yX11_waysBy yX11_waysBy, Cond.code yX11_waysBy cX11_waysBy 7 (some .long), Cond.methodLink RX11 163 yX11_waysOfBoth, Cond.instanceMethod yX11_waysOfBoth, Cond.selects RX11 yX11_waysOfBoth yX11_waysOfBoth, Cond.code yX11_waysOfBoth cX11_waysOfBoth 1 (some .long), Cond.methodLink RX11 167 yX11_common, Cond.static yX11_common, Cond.code yX11_common cX11_common 10 (some .long), Cond.methodLink RX11 190 yX11_lawOf, Cond.instanceMethod yX11_lawOf, Cond.selects RX11 yX11_lawOf yX11_lawOf, Cond.code yX11_lawOf cX11_lawOf 7 (some .int), Cond.fieldLink RX11 102 "KingdomAtDiceModel" "things" "I"]
def wsX11_sayHall_r3 : List Cond := [Cond.fieldLink RX11 25 "KingdomAtDiceModel" "rows" "[I", Cond.methodLink RX11 184 yX11_isByLaw, Cond.instanceMethod yX11_isByLaw, Cond.selects RX11 yX11_isByLaw yX11_isByLaw, Cond.code yX11_isByLaw cX11_isByLaw 5 (some .boolean), Cond.methodLink RX11 145 yX11_isKings, Cond.instanceMethod yX11_isKings, Cond.selects RX11 yX11_isKings yX11_isKings, Cond.code yX11_isKings cX11_isKings 2 (some .boolean)]
def wsX11_sayHall : List Cond := .code yX11_sayHall cX11_sayHall 3 none :: ((wsX11_sayHall_r1 ++ (wsX11_sayHall_r2 ++ wsX11_sayHall_r3)) ++ wsX110)
def wsX11_digest_r1 : List Cond := [Cond.constantLong RX11 254 (983), Cond.fieldLink RX11 246 "KingdomAtDiceModel" "hash" "J", Cond.fieldLink RX11 102 "KingdomAtDiceModel" "things" "I", Cond.fieldLink RX11 25 "KingdomAtDiceModel" "rows" "[I", Cond.fieldLink RX11 71 "KingdomAtDiceModel" "pageMany" "I", Cond.fieldLink RX11 16 "KingdomAtDiceModel" "page" "[I", Cond.methodLink RX11 250 yX11_say, Cond.instanceMethod yX11_say, Cond.selects RX11 yX11_say yX11_say, Cond.initialized RX11, Cond.code yX11_say cX11_say 3 none, Cond.constantLong RX11 244 (31), Cond.methodLink RX11 145 yX11_isKings, Cond.instanceMethod yX11_isKings, Cond.selects RX11 yX11_isKings yX11_isKings, Cond.code yX11_isKings cX11_isKings 2 (some .boolean), Cond.methodLink RX11 180 yX11_backOf, Cond.instanceMethod yX11_backOf, Cond.selects RX11 yX11_backOf yX11_backOf, Cond.code yX11_backOf cX11_backOf 9 (some .long), Cond.fieldLink RX11 31 "KingdomAtDiceModel" "now" "[J", Cond.fieldLink RX11 35 "KingdomAtDiceModel" "next" "[J", Cond.methodLink RX11 159 yX11_waysBy, Cond.instanceMethod yX11_waysBy]
def wsX11_digest_r2 : List Cond := [Cond.selects RX11 yX11_waysBy yX11_waysBy, Cond.code yX11_waysBy cX11_waysBy 7 (some .long), Cond.fieldLink RX11 28 "KingdomAtDiceModel" "kinds" "[I", Cond.methodLink RX11 61 yX11_waysOf, Cond.instanceMethod yX11_waysOf, Cond.selects RX11 yX11_waysOf yX11_waysOf, Cond.code yX11_waysOf cX11_waysOf 3 (some .int), Cond.fieldLink RX11 13 "KingdomAtDiceModel" "tableBone" "[I", Cond.fieldLink RX11 7 "KingdomAtDiceModel" "table" "[I", Cond.methodLink RX11 163 yX11_waysOfBoth, Cond.instanceMethod yX11_waysOfBoth, Cond.selects RX11 yX11_waysOfBoth yX11_waysOfBoth, Cond.code yX11_waysOfBoth cX11_waysOfBoth 1 (some .long), Cond.methodLink RX11 130 yX11_allWays, Cond.instanceMethod yX11_allWays, Cond.selects RX11 yX11_allWays yX11_allWays, Cond.code yX11_allWays cX11_allWays 4 (some .int), Cond.methodLink RX11 167 yX11_common, Cond.static yX11_common, Cond.code yX11_common cX11_common 10 (some .long), Cond.methodLink RX11 121 yX11_lacks, Cond.instanceMethod yX11_lacks, Cond.selects RX11 yX11_lacks yX11_lacks, Cond.code yX11_lacks cX11_lacks 1 (some .boolean)]
def wsX11_digest_r3 : List Cond := [Cond.methodLink RX11 256 yX11_sayHall, Cond.instanceMethod yX11_sayHall, Cond.selects RX11 yX11_sayHall yX11_sayHall, Cond.code yX11_sayHall cX11_sayHall 3 none, Cond.methodLink RX11 136 yX11_tellDice, Cond.instanceMethod yX11_tellDice, Cond.selects RX11 yX11_tellDice yX11_tellDice, Cond.code yX11_tellDice cX11_tellDice 4 (some .int), Cond.methodLink RX11 54 yX11_leastOf, Cond.static yX11_leastOf, Cond.code yX11_leastOf cX11_leastOf 1 (some .int), Cond.methodLink RX11 58 yX11_mostOf, Cond.static yX11_mostOf, Cond.code yX11_mostOf cX11_mostOf 1 (some .int), Cond.methodLink RX11 171 yX11_oddsOf, Cond.instanceMethod yX11_oddsOf, Cond.selects RX11 yX11_oddsOf yX11_oddsOf, Cond.code yX11_oddsOf cX11_oddsOf 6 (some .int), Cond.methodLink RX11 190 yX11_lawOf, Cond.instanceMethod yX11_lawOf, Cond.selects RX11 yX11_lawOf yX11_lawOf, Cond.code yX11_lawOf cX11_lawOf 7 (some .int), Cond.methodLink RX11 184 yX11_isByLaw, Cond.instanceMethod yX11_isByLaw]
def wsX11_digest_r4 : List Cond := [Cond.selects RX11 yX11_isByLaw yX11_isByLaw, Cond.code yX11_isByLaw cX11_isByLaw 5 (some .boolean), Cond.methodLink RX11 196 yX11_whichOf, Cond.instanceMethod yX11_whichOf, Cond.selects RX11 yX11_whichOf yX11_whichOf, Cond.code yX11_whichOf cX11_whichOf 3 (some .int), Cond.methodLink RX11 193 yX11_productOf, Cond.instanceMethod yX11_productOf, Cond.selects RX11 yX11_productOf yX11_productOf, Cond.code yX11_productOf cX11_productOf 5 (some .long), Cond.fieldLink RX11 115 "KingdomAtDiceModel" "seenMany" "I", Cond.fieldLink RX11 38 "KingdomAtDiceModel" "sums" "[I", Cond.methodLink RX11 202 yX11_likelyOf, Cond.instanceMethod yX11_likelyOf, Cond.selects RX11 yX11_likelyOf yX11_likelyOf, Cond.code yX11_likelyOf cX11_likelyOf 4 (some .int), Cond.methodLink RX11 199 yX11_allOf, Cond.instanceMethod yX11_allOf, Cond.selects RX11 yX11_allOf yX11_allOf, Cond.code yX11_allOf cX11_allOf 5 (some .long), Cond.methodLink RX11 241 yX11_countOf, Cond.instanceMethod yX11_countOf, Cond.selects RX11 yX11_countOf yX11_countOf, Cond.code yX11_countOf cX11_countOf 2 (some .int)]
def wsX11_digest_r5 : List Cond := [Cond.fieldLink RX11 109 "KingdomAtDiceModel" "gold" "I", Cond.fieldLink RX11 112 "KingdomAtDiceModel" "throwsNow" "I", Cond.fieldLink RX11 118 "KingdomAtDiceModel" "hallsRead" "I", Cond.methodLink RX11 220 yX11_kingsMany, Cond.instanceMethod yX11_kingsMany, Cond.selects RX11 yX11_kingsMany yX11_kingsMany, Cond.code yX11_kingsMany cX11_kingsMany 3 (some .int), Cond.methodLink RX11 238 yX11_wrongMany, Cond.instanceMethod yX11_wrongMany, Cond.selects RX11 yX11_wrongMany yX11_wrongMany, Cond.code yX11_wrongMany cX11_wrongMany 3 (some .int)]
def wsX11_digest : List Cond := .code yX11_digest cX11_digest 3 (some .long) :: ((wsX11_digest_r1 ++ (wsX11_digest_r2 ++ (wsX11_digest_r3 ++ (wsX11_digest_r4 ++ wsX11_digest_r5)))) ++ wsX110)
def wsJ9_max_7cf53 : List Cond := .code yJ9_max_7cf53 cJ9_max_7cf53 2 (some .int) :: ([])
def wsJ9_min_7cf53 : List Cond := .code yJ9_min_7cf53 cJ9_min_7cf53 2 (some .int) :: ([])
def wsL_law_r1 : List Cond := [Cond.classLink RL 7 RX10, Cond.instantiable RX10 10, Cond.initialized RX10, Cond.classLink RL 10 RX11, Cond.instantiable RX11 28, Cond.initialized RX11, Cond.methodLink RL 9 yX10_init, Cond.instanceMethod yX10_init, Cond.code yX10_init cX10_init 1 none, Cond.methodLink RX10 1 objectInit, Cond.instanceMethod objectInit, Cond.code objectInit ⟨#[0xb1]⟩ 1 none, Cond.classLink RX10 7 RX6, Cond.instantiable RX6 2, Cond.initialized RX6, Cond.fieldLink RX10 10 "KingdomAtDice" "page" "LKingdomAtDice$Page;", Cond.classLink RX10 16 RX1, Cond.instantiable RX1 3, Cond.initialized RX1, Cond.classLink RX10 21 RX3, Cond.instantiable RX3 3, Cond.initialized RX3, Cond.classLink RX10 26 RX9, Cond.instantiable RX9 3]
def wsL_law_r2 : List Cond := [Cond.initialized RX9, Cond.classLink RX10 29 RX4, Cond.instantiable RX4 3, Cond.initialized RX4, Cond.classLink RX10 32 RX0, Cond.instantiable RX0 3, Cond.initialized RX0, Cond.fieldLink RX10 35 "KingdomAtDice" "kinds" "[LKingdomAtDice$Dice;", Cond.classLink RX10 39 RX5, Cond.instantiable RX5 2, Cond.initialized RX5, Cond.fieldLink RX10 42 "KingdomAtDice" "odds" "LKingdomAtDice$Odds;", Cond.classLink RX10 46 RX2, Cond.instantiable RX2 1, Cond.initialized RX2, Cond.fieldLink RX10 49 "KingdomAtDice" "draws" "LKingdomAtDice$Draws;", Cond.classLink RX10 53 RX7, Cond.instantiable RX7 6, Cond.initialized RX7, Cond.fieldLink RX10 56 "KingdomAtDice" "now" "LKingdomAtDice$Standing;", Cond.fieldLink RX10 60 "KingdomAtDice" "kept" "LKingdomAtDice$Standing;", Cond.fieldLink RX10 63 "KingdomAtDice" "kingDice" "LKingdomAtDice$Dice;", Cond.fieldLink RX10 67 "KingdomAtDice" "cousinDice" "LKingdomAtDice$Dice;", Cond.fieldLink RX10 70 "KingdomAtDice" "isKept" "Z"]
def wsL_law_r3 : List Cond := [Cond.fieldLink RX10 74 "KingdomAtDice" "hallsRead" "I", Cond.instanceMethod yX6_init, Cond.code yX6_init cX6_init 1 none, Cond.methodLink RX6 3 objectInit, Cond.arrayClass .int, Cond.fieldLink RX6 9 "KingdomAtDice$Page" "codes" "[I", Cond.fieldLink RX6 15 "KingdomAtDice$Page" "length" "I", Cond.methodLink RX10 18 yX1_init, Cond.instanceMethod yX1_init, Cond.code yX1_init cX1_init 4 none, Cond.methodLink RX1 1 objectInit, Cond.fieldLink RX1 7 "KingdomAtDice$Dice" "kind" "I", Cond.fieldLink RX1 13 "KingdomAtDice$Dice" "least" "I", Cond.fieldLink RX1 16 "KingdomAtDice$Dice" "greatest" "I", Cond.methodLink RX10 23 yX3_init, Cond.instanceMethod yX3_init, Cond.code yX3_init cX3_init 3 none, Cond.methodLink RX3 1 yX1_init, Cond.methodLink RX10 28 yX9_init, Cond.instanceMethod yX9_init, Cond.code yX9_init cX9_init 1 none, Cond.methodLink RX9 3 yX1_init, Cond.methodLink RX10 31 yX4_init, Cond.instanceMethod yX4_init]
def wsL_law_r4 : List Cond := [Cond.code yX4_init cX4_init 1 none, Cond.methodLink RX4 3 yX1_init, Cond.methodLink RX10 34 yX0_init, Cond.instanceMethod yX0_init, Cond.code yX0_init cX0_init 1 none, Cond.methodLink RX0 3 yX3_init, Cond.instanceMethod yX5_init, Cond.code yX5_init cX5_init 1 none, Cond.methodLink RX5 3 objectInit, Cond.fieldLink RX5 9 "KingdomAtDice$Odds" "ways" "[I", Cond.fieldLink RX5 15 "KingdomAtDice$Odds" "total" "I", Cond.instanceMethod yX2_init, Cond.code yX2_init cX2_init 1 none, Cond.methodLink RX2 1 objectInit, Cond.fieldLink RX2 7 "KingdomAtDice$Draws" "seed" "J", Cond.instanceMethod yX7_init, Cond.code yX7_init cX7_init 2 none, Cond.methodLink RX7 3 objectInit, Cond.classLink RX7 9 RX8, Cond.fieldLink RX7 11 "KingdomAtDice$Standing" "things" "[LKingdomAtDice$Thing;", Cond.instantiable RX8 6, Cond.initialized RX8, Cond.fieldLink RX7 18 "KingdomAtDice$Standing" "seen" "[I", Cond.fieldLink RX7 22 "KingdomAtDice$Standing" "thingMany" "I"]
def wsL_law_r5 : List Cond := [Cond.fieldLink RX7 26 "KingdomAtDice$Standing" "gold" "I", Cond.fieldLink RX7 29 "KingdomAtDice$Standing" "throwMany" "I", Cond.fieldLink RX7 32 "KingdomAtDice$Standing" "seenMany" "I", Cond.instanceMethod yX8_init, Cond.code yX8_init cX8_init 1 none, Cond.methodLink RX8 3 objectInit, Cond.fieldLink RX8 9 "KingdomAtDice$Thing" "sort" "I", Cond.fieldLink RX8 15 "KingdomAtDice$Thing" "worth" "I", Cond.fieldLink RX8 18 "KingdomAtDice$Thing" "isKings" "Z", Cond.fieldLink RX8 22 "KingdomAtDice$Thing" "lostBy" "I", Cond.fieldLink RX8 25 "KingdomAtDice$Thing" "rightly" "I", Cond.fieldLink RX8 28 "KingdomAtDice$Thing" "overs" "I", Cond.methodLink RL 12 yX11_init, Cond.instanceMethod yX11_init, Cond.code yX11_init cX11_init 5 none, Cond.methodLink RX11 1 objectInit, Cond.fieldLink RX11 7 "KingdomAtDiceModel" "table" "[I", Cond.fieldLink RX11 13 "KingdomAtDiceModel" "tableBone" "[I", Cond.fieldLink RX11 16 "KingdomAtDiceModel" "page" "[I", Cond.fieldLink RX11 19 "KingdomAtDiceModel" "read" "[I", Cond.fieldLink RX11 22 "KingdomAtDiceModel" "readKinds" "[I", Cond.fieldLink RX11 25 "KingdomAtDiceModel" "rows" "[I", Cond.fieldLink RX11 28 "KingdomAtDiceModel" "kinds" "[I", Cond.arrayClass .long]
def wsL_law_r6 : List Cond := [Cond.fieldLink RX11 31 "KingdomAtDiceModel" "now" "[J", Cond.fieldLink RX11 35 "KingdomAtDiceModel" "next" "[J", Cond.fieldLink RX11 38 "KingdomAtDiceModel" "sums" "[I", Cond.fieldLink RX11 41 "KingdomAtDiceModel" "savedRows" "[I", Cond.fieldLink RX11 44 "KingdomAtDiceModel" "keptRows" "[I", Cond.fieldLink RX11 47 "KingdomAtDiceModel" "keptSums" "[I", Cond.fieldLink RX11 50 "KingdomAtDiceModel" "keptHall" "I", Cond.methodLink RX11 54 yX11_leastOf, Cond.static yX11_leastOf, Cond.code yX11_leastOf cX11_leastOf 1 (some .int), Cond.methodLink RX11 58 yX11_mostOf, Cond.static yX11_mostOf, Cond.code yX11_mostOf cX11_mostOf 1 (some .int), Cond.methodLink RL 13 yX10_letter, Cond.instanceMethod yX10_letter, Cond.selects RX10 yX10_letter yX10_letter, Cond.code yX10_letter cX10_letter 2 (some .int), Cond.instanceMethod yX6_isFull, Cond.selects RX6 yX6_isFull yX6_isFull, Cond.code yX6_isFull cX6_isFull 1 (some .boolean), Cond.instanceMethod yX6_push, Cond.selects RX6 yX6_push yX6_push, Cond.code yX6_push cX6_push 2 (some .int), Cond.methodLink RX6 19 yX6_isFull]
def wsL_law_r7 : List Cond := [Cond.methodLink RL 17 yX11_letter, Cond.instanceMethod yX11_letter, Cond.selects RX11 yX11_letter yX11_letter, Cond.code yX11_letter cX11_letter 2 (some .int), Cond.constantLong RX11 65 (126), Cond.fieldLink RX11 71 "KingdomAtDiceModel" "pageMany" "I", Cond.methodLink RX11 67 yX11_in, Cond.static yX11_in, Cond.code yX11_in cX11_in 6 (some .boolean), Cond.methodLink RL 18 yX10_blank, Cond.instanceMethod yX10_blank, Cond.selects RX10 yX10_blank yX10_blank, Cond.code yX10_blank cX10_blank 1 (some .int), Cond.instanceMethod yX6_clear, Cond.selects RX6 yX6_clear yX6_clear, Cond.code yX6_clear cX6_clear 2 (some .int), Cond.methodLink RL 22 yX11_blank, Cond.instanceMethod yX11_blank, Cond.selects RX11 yX11_blank yX11_blank, Cond.code yX11_blank cX11_blank 2 (some .int), Cond.methodLink RL 23 yX10_fault, Cond.instanceMethod yX10_fault, Cond.selects RX10 yX10_fault yX10_fault, Cond.code yX10_fault cX10_fault 1 (some .int)]
def wsL_law_r8 : List Cond := [Cond.instanceMethod yX6_faultPlace, Cond.selects RX6 yX6_faultPlace yX6_faultPlace, Cond.code yX6_faultPlace cX6_faultPlace 5 (some .int), Cond.methodLink RX6 27 yX6_codeAt, Cond.instanceMethod yX6_codeAt, Cond.selects RX6 yX6_codeAt yX6_codeAt, Cond.code yX6_codeAt cX6_codeAt 2 (some .int), Cond.static yX10_isBelow, Cond.code yX10_isBelow cX10_isBelow 2 (some .boolean), Cond.methodLink RX6 31 yX6_fitsBehind, Cond.static yX6_fitsBehind, Cond.code yX6_fitsBehind cX6_fitsBehind 2 (some .boolean), Cond.methodLink RX6 40 yJ0_indexOf_0f7a4, Cond.instanceMethod yJ0_indexOf_0f7a4, Cond.selects RJ0 yJ0_indexOf_0f7a4 yJ0_indexOf_0f7a4, Cond.initialized RJ0, Cond.code yJ0_indexOf_0f7a4 cJ0_indexOf_0f7a4 2 (some .int), Cond.methodLink RJ0 633 yJ0_indexOf_7cf53, Cond.instanceMethod yJ0_indexOf_7cf53, Cond.selects RJ0 yJ0_indexOf_7cf53 yJ0_indexOf_7cf53, Cond.code yJ0_indexOf_7cf53 cJ0_indexOf_7cf53 3 (some .int), Cond.fieldLink RJ0 9 "java/lang/String" "value" "[B", Cond.methodLink RJ0 492 yJ0_isLatin1_aae02, Cond.instanceMethod yJ0_isLatin1_aae02]
def wsL_law_r9 : List Cond := [Cond.selects RJ0 yJ0_isLatin1_aae02 yJ0_isLatin1_aae02, Cond.code yJ0_isLatin1_aae02 cJ0_isLatin1_aae02 1 (some .boolean), Cond.fieldLink RJ0 38 "java/lang/String" "COMPACT_STRINGS" "Z", Cond.fieldLink RJ0 15 "java/lang/String" "coder" "B", Cond.methodLink RJ0 505 yJ0_length_8abf5, Cond.instanceMethod yJ0_length_8abf5, Cond.selects RJ0 yJ0_length_8abf5 yJ0_length_8abf5, Cond.code yJ0_length_8abf5 cJ0_length_8abf5 1 (some .int), Cond.methodLink RJ0 335 yJ0_coder_7d493, Cond.instanceMethod yJ0_coder_7d493, Cond.selects RJ0 yJ0_coder_7d493 yJ0_coder_7d493, Cond.code yJ0_coder_7d493 cJ0_coder_7d493 1 (some .byte), Cond.methodLink RJ0 637 yJ1_indexOf_4cfef, Cond.static yJ1_indexOf_4cfef, Cond.initialized RJ1, Cond.code yJ1_indexOf_4cfef cJ1_indexOf_4cfef 4 (some .int), Cond.methodLink RJ1 92 Lib.Math.max.name, Cond.static Lib.Math.max.name, Cond.initialized "java/lang/Math", Cond.code Lib.Math.max.name Lib.Math.max.code 2 (some .int), Cond.methodLink RJ1 38 Lib.Math.min.name, Cond.static Lib.Math.min.name, Cond.code Lib.Math.min.name Lib.Math.min.code 2 (some .int), Cond.methodLink RJ1 88 yJ1_canEncode_9a6ad]
def wsL_law_r10 : List Cond := [Cond.static yJ1_canEncode_9a6ad, Cond.code yJ1_canEncode_9a6ad cJ1_canEncode_9a6ad 1 (some .boolean), Cond.methodLink RJ1 95 yJ1_indexOfChar_4cfef, Cond.static yJ1_indexOfChar_4cfef, Cond.code yJ1_indexOfChar_4cfef cJ1_indexOfChar_4cfef 6 (some .int), Cond.methodLink RJ0 640 yJ2_indexOf_4cfef, Cond.static yJ2_indexOf_4cfef, Cond.initialized RJ2, Cond.code yJ2_indexOf_4cfef cJ2_indexOf_4cfef 4 (some .int), Cond.methodLink RJ2 224 Lib.Math.max.name, Cond.methodLink RJ2 183 Lib.Math.min.name, Cond.constant RJ2 227 (65536), Cond.methodLink RJ2 228 yJ2_indexOfChar_4cfef, Cond.static yJ2_indexOfChar_4cfef, Cond.code yJ2_indexOfChar_4cfef cJ2_indexOfChar_4cfef 4 (some .int), Cond.methodLink RJ2 96 yJ2_checkBoundsBeginEnd_d044e, Cond.static yJ2_checkBoundsBeginEnd_d044e, Cond.code yJ2_checkBoundsBeginEnd_d044e cJ2_checkBoundsBeginEnd_d044e 3 none, Cond.methodLink RJ2 48 yJ2_length_9d52b, Cond.static yJ2_length_9d52b, Cond.code yJ2_length_9d52b cJ2_length_9d52b 1 (some .int), Cond.methodLink RJ2 241 yJ0_checkBoundsBeginEnd_23922, Cond.static yJ0_checkBoundsBeginEnd_23922, Cond.code yJ0_checkBoundsBeginEnd_23922 cJ0_checkBoundsBeginEnd_23922 3 none]
def wsL_law_r11 : List Cond := [Cond.fieldLink RJ0 1053 "jdk/internal/util/Preconditions" "SIOOBE_FORMATTER" "Ljava/util/function/BiFunction;", Cond.methodLink RJ0 1062 yJ3_checkFromToIndex_8c36e, Cond.static yJ3_checkFromToIndex_8c36e, Cond.initialized RJ3, Cond.code yJ3_checkFromToIndex_8c36e cJ3_checkFromToIndex_8c36e 4 (some .int), Cond.methodLink RJ2 244 yJ2_indexOfCharUnsafe_4cfef, Cond.static yJ2_indexOfCharUnsafe_4cfef, Cond.code yJ2_indexOfCharUnsafe_4cfef cJ2_indexOfCharUnsafe_4cfef 5 (some .int), Cond.methodLink RJ2 71 yJ2_getChar_3b067, Cond.static yJ2_getChar_3b067, Cond.code yJ2_getChar_3b067 cJ2_getChar_3b067 2 (some .char), Cond.fieldLink RJ2 44 "java/lang/StringUTF16" "$assertionsDisabled" "Z", Cond.fieldLink RJ2 59 "java/lang/StringUTF16" "HI_BYTE_SHIFT" "I", Cond.fieldLink RJ2 63 "java/lang/StringUTF16" "LO_BYTE_SHIFT" "I", Cond.methodLink RJ2 232 yJ2_indexOfSupplementary_4cfef, Cond.static yJ2_indexOfSupplementary_4cfef, Cond.code yJ2_indexOfSupplementary_4cfef cJ2_indexOfSupplementary_4cfef 7 (some .int), Cond.methodLink RJ2 164 yJ11_isValidCodePoint_9a6ad, Cond.static yJ11_isValidCodePoint_9a6ad, Cond.initialized RJ11, Cond.code yJ11_isValidCodePoint_9a6ad cJ11_isValidCodePoint_9a6ad 2 (some .boolean), Cond.methodLink RJ2 157 yJ11_highSurrogate_5068e, Cond.static yJ11_highSurrogate_5068e, Cond.code yJ11_highSurrogate_5068e cJ11_highSurrogate_5068e 1 (some .char)]
def wsL_law_r12 : List Cond := [Cond.constant RJ11 110 (55232), Cond.methodLink RJ2 161 yJ11_lowSurrogate_5068e, Cond.static yJ11_lowSurrogate_5068e, Cond.code yJ11_lowSurrogate_5068e cJ11_lowSurrogate_5068e 1 (some .char), Cond.constant RJ11 76 (56320), Cond.methodLink RX6 34 yX6_fitsThings, Cond.static yX6_fitsThings, Cond.code yX6_fitsThings cX6_fitsThings 4 (some .boolean), Cond.methodLink RL 26 yX11_fault, Cond.instanceMethod yX11_fault, Cond.selects RX11 yX11_fault yX11_fault, Cond.code yX11_fault cX11_fault 1 (some .int), Cond.methodLink RX11 98 yX11_faultOf, Cond.instanceMethod yX11_faultOf, Cond.selects RX11 yX11_faultOf yX11_faultOf, Cond.code yX11_faultOf cX11_faultOf 2 (some .int), Cond.fieldLink RX11 81 "KingdomAtDiceModel" "readMany" "I", Cond.fieldLink RX11 77 "KingdomAtDiceModel" "readSelf" "Z", Cond.fieldLink RX11 74 "KingdomAtDiceModel" "state" "I", Cond.methodLink RX11 94 yX11_go, Cond.instanceMethod yX11_go, Cond.selects RX11 yX11_go yX11_go, Cond.code yX11_go cX11_go 4 (some .boolean), Cond.constantLong RX11 87 (49)]
def wsL_law_r13 : List Cond := [Cond.constantLong RX11 89 (57), Cond.methodLink RX11 84 yX11_sortBy, Cond.static yX11_sortBy, Cond.code yX11_sortBy cX11_sortBy 1 (some .int), Cond.methodLink RX11 91 yX11_kindBy, Cond.static yX11_kindBy, Cond.code yX11_kindBy cX11_kindBy 1 (some .int), Cond.methodLink RL 27 yX10_hall, Cond.instanceMethod yX10_hall, Cond.selects RX10 yX10_hall yX10_hall, Cond.code yX10_hall cX10_hall 1 (some .int), Cond.instanceMethod yX6_isHall, Cond.selects RX6 yX6_isHall yX6_isHall, Cond.code yX6_isHall cX6_isHall 1 (some .boolean), Cond.methodLink RX6 47 yX6_faultPlace, Cond.instanceMethod yX7_begin, Cond.selects RX7 yX7_begin yX7_begin, Cond.code yX7_begin cX7_begin 3 none, Cond.methodLink RX7 41 Lib.Math.min.name, Cond.instanceMethod yX6_hallThings, Cond.selects RX6 yX6_hallThings yX6_hallThings, Cond.code yX6_hallThings cX6_hallThings 1 (some .int), Cond.instanceMethod yX6_hallSort, Cond.selects RX6 yX6_hallSort yX6_hallSort]
def wsL_law_r14 : List Cond := [Cond.code yX6_hallSort cX6_hallSort 2 (some .int), Cond.instanceMethod yX6_hallWorth, Cond.selects RX6 yX6_hallWorth yX6_hallWorth, Cond.code yX6_hallWorth cX6_hallWorth 2 (some .int), Cond.instanceMethod yX8_begin, Cond.selects RX8 yX8_begin yX8_begin, Cond.code yX8_begin cX8_begin 3 none, Cond.instanceMethod yX6_kingKindCode, Cond.selects RX6 yX6_kingKindCode yX6_kingKindCode, Cond.code yX6_kingKindCode cX6_kingKindCode 1 (some .int), Cond.methodLink RX10 103 yX10_diceByLetter, Cond.instanceMethod yX10_diceByLetter, Cond.selects RX10 yX10_diceByLetter yX10_diceByLetter, Cond.code yX10_diceByLetter cX10_diceByLetter 3 (some (.object "KingdomAtDice$Dice")), Cond.methodLink RX10 292 yJ0_indexOf_0f7a4, Cond.methodLink RX10 121 yX10_isBelow, Cond.instanceMethod yX6_cousinKindCode, Cond.selects RX6 yX6_cousinKindCode yX6_cousinKindCode, Cond.code yX6_cousinKindCode cX6_cousinKindCode 1 (some .int), Cond.instanceMethod yX5_reckon, Cond.selects RX5 yX5_reckon yX5_reckon, Cond.code yX5_reckon cX5_reckon 5 none, Cond.methodLink RX5 19 yX5_outcomeOf, Cond.static yX5_outcomeOf]
def wsL_law_r15 : List Cond := [Cond.code yX5_outcomeOf cX5_outcomeOf 2 (some .int), Cond.methodLink RX5 23 ⟨"KingdomAtDice$Dice", "waysOf", "(I)I"⟩, Cond.sameMethod "KingdomAtDice$Dice" "KingdomAtDice$Dice" "waysOf" "(I)I", Cond.selects RX0 ⟨"KingdomAtDice$Dice", "waysOf", "(I)I"⟩ yX1_waysOf, Cond.instanceMethod yX1_waysOf, Cond.code yX1_waysOf cX1_waysOf 5 (some .int), Cond.static yX10_isSum, Cond.code yX10_isSum cX10_isSum 1 (some .boolean), Cond.methodLink RX5 23 yX1_waysOf, Cond.selects RX1 yX1_waysOf yX1_waysOf, Cond.selects RX3 ⟨"KingdomAtDice$Dice", "waysOf", "(I)I"⟩ yX1_waysOf, Cond.selects RX4 ⟨"KingdomAtDice$Dice", "waysOf", "(I)I"⟩ yX1_waysOf, Cond.instanceMethod ⟨"KingdomAtDice$Dice", "waysOf", "(I)I"⟩, Cond.selects RX9 ⟨"KingdomAtDice$Dice", "waysOf", "(I)I"⟩ yX9_waysOf, Cond.instanceMethod yX9_waysOf, Cond.code yX9_waysOf cX9_waysOf 2 (some .int), Cond.methodLink RX5 29 ⟨"KingdomAtDice$Dice", "wayMany", "()I"⟩, Cond.sameMethod "KingdomAtDice$Dice" "KingdomAtDice$Dice" "wayMany" "()I", Cond.selects RX0 ⟨"KingdomAtDice$Dice", "wayMany", "()I"⟩ yX1_wayMany, Cond.instanceMethod yX1_wayMany, Cond.code yX1_wayMany cX1_wayMany 1 (some .int), Cond.methodLink RX1 23 ⟨"KingdomAtDice$Dice", "faces", "()I"⟩, Cond.sameMethod "KingdomAtDice$Dice" "KingdomAtDice$Dice" "faces" "()I", Cond.selects RX0 ⟨"KingdomAtDice$Dice", "faces", "()I"⟩ yX1_faces]
def wsL_law_r16 : List Cond := [Cond.instanceMethod yX1_faces, Cond.code yX1_faces cX1_faces 1 (some .int), Cond.methodLink RX1 23 yX1_faces, Cond.selects RX1 yX1_faces yX1_faces, Cond.selects RX3 ⟨"KingdomAtDice$Dice", "faces", "()I"⟩ yX1_faces, Cond.selects RX4 ⟨"KingdomAtDice$Dice", "faces", "()I"⟩ yX1_faces, Cond.selects RX9 ⟨"KingdomAtDice$Dice", "faces", "()I"⟩ yX1_faces, Cond.methodLink RX5 29 yX1_wayMany, Cond.selects RX1 yX1_wayMany yX1_wayMany, Cond.selects RX3 ⟨"KingdomAtDice$Dice", "wayMany", "()I"⟩ yX1_wayMany, Cond.selects RX4 ⟨"KingdomAtDice$Dice", "wayMany", "()I"⟩ yX1_wayMany, Cond.instanceMethod ⟨"KingdomAtDice$Dice", "wayMany", "()I"⟩, Cond.selects RX9 ⟨"KingdomAtDice$Dice", "wayMany", "()I"⟩ yX9_wayMany, Cond.instanceMethod yX9_wayMany, Cond.code yX9_wayMany cX9_wayMany 1 (some .int), Cond.methodLink RX9 9 ⟨"KingdomAtDice$Twins", "faces", "()I"⟩, Cond.sameMethod "KingdomAtDice$Twins" "KingdomAtDice$Dice" "faces" "()I", Cond.selects RX9 ⟨"KingdomAtDice$Twins", "faces", "()I"⟩ yX1_faces, Cond.methodLink RL 30 yX11_hall, Cond.instanceMethod yX11_hall, Cond.selects RX11 yX11_hall yX11_hall, Cond.code yX11_hall cX11_hall 2 (some .int), Cond.fieldLink RX11 102 "KingdomAtDiceModel" "things" "I", Cond.fieldLink RX11 109 "KingdomAtDiceModel" "gold" "I"]
def wsL_law_r17 : List Cond := [Cond.fieldLink RX11 112 "KingdomAtDiceModel" "throwsNow" "I", Cond.fieldLink RX11 115 "KingdomAtDiceModel" "seenMany" "I", Cond.fieldLink RX11 118 "KingdomAtDiceModel" "hallsRead" "I", Cond.methodLink RX11 105 yX11_copy, Cond.static yX11_copy, Cond.code yX11_copy cX11_copy 3 none, Cond.methodLink RL 31 yX10_thing, Cond.instanceMethod yX10_thing, Cond.selects RX10 yX10_thing yX10_thing, Cond.code yX10_thing cX10_thing 3 (some .int), Cond.instanceMethod yX7_has, Cond.selects RX7 yX7_has yX7_has, Cond.code yX7_has cX7_has 2 (some .boolean), Cond.instanceMethod yX8_tell, Cond.selects RX8 yX8_tell yX8_tell, Cond.code yX8_tell cX8_tell 2 (some .int), Cond.methodLink RL 35 yX11_thing, Cond.instanceMethod yX11_thing, Cond.selects RX11 yX11_thing yX11_thing, Cond.code yX11_thing cX11_thing 3 (some .int), Cond.constantLong RX11 128 (5), Cond.methodLink RX11 125 yX11_isThing, Cond.instanceMethod yX11_isThing, Cond.selects RX11 yX11_isThing yX11_isThing]
def wsL_law_r18 : List Cond := [Cond.code yX11_isThing cX11_isThing 2 (some .boolean), Cond.methodLink RL 36 yX10_dice, Cond.instanceMethod yX10_dice, Cond.selects RX10 yX10_dice yX10_dice, Cond.code yX10_dice cX10_dice 3 (some .int), Cond.methodLink RX10 134 yX10_hasDice, Cond.instanceMethod yX10_hasDice, Cond.selects RX10 yX10_hasDice yX10_hasDice, Cond.code yX10_hasDice cX10_hasDice 2 (some .boolean), Cond.instanceMethod yX7_hasHall, Cond.selects RX7 yX7_hasHall yX7_hasHall, Cond.code yX7_hasHall cX7_hasHall 1 (some .boolean), Cond.methodLink RX10 137 yX10_diceOf, Cond.instanceMethod yX10_diceOf, Cond.selects RX10 yX10_diceOf yX10_diceOf, Cond.code yX10_diceOf cX10_diceOf 2 (some (.object "KingdomAtDice$Dice")), Cond.methodLink RX10 140 ⟨"KingdomAtDice$Dice", "tell", "(I)I"⟩, Cond.sameMethod "KingdomAtDice$Dice" "KingdomAtDice$Dice" "tell" "(I)I", Cond.selects RX0 ⟨"KingdomAtDice$Dice", "tell", "(I)I"⟩ yX1_tell, Cond.instanceMethod yX1_tell, Cond.code yX1_tell cX1_tell 2 (some .int), Cond.methodLink RX1 19 ⟨"KingdomAtDice$Dice", "wayMany", "()I"⟩, Cond.methodLink RX1 19 yX1_wayMany, Cond.methodLink RX10 140 yX1_tell]
def wsL_law_r19 : List Cond := [Cond.selects RX1 yX1_tell yX1_tell, Cond.selects RX3 ⟨"KingdomAtDice$Dice", "tell", "(I)I"⟩ yX1_tell, Cond.selects RX4 ⟨"KingdomAtDice$Dice", "tell", "(I)I"⟩ yX1_tell, Cond.selects RX9 ⟨"KingdomAtDice$Dice", "tell", "(I)I"⟩ yX1_tell, Cond.methodLink RL 39 yX11_dice, Cond.instanceMethod yX11_dice, Cond.selects RX11 yX11_dice yX11_dice, Cond.code yX11_dice cX11_dice 3 (some .int), Cond.methodLink RX11 133 yX11_isOne, Cond.instanceMethod yX11_isOne, Cond.selects RX11 yX11_isOne yX11_isOne, Cond.code yX11_isOne cX11_isOne 2 (some .boolean), Cond.methodLink RX11 121 yX11_lacks, Cond.instanceMethod yX11_lacks, Cond.selects RX11 yX11_lacks yX11_lacks, Cond.code yX11_lacks cX11_lacks 1 (some .boolean), Cond.methodLink RX11 136 yX11_tellDice, Cond.instanceMethod yX11_tellDice, Cond.selects RX11 yX11_tellDice yX11_tellDice, Cond.code yX11_tellDice cX11_tellDice 4 (some .int), Cond.methodLink RX11 130 yX11_allWays, Cond.instanceMethod yX11_allWays, Cond.selects RX11 yX11_allWays yX11_allWays, Cond.code yX11_allWays cX11_allWays 4 (some .int)]
def wsL_law_r20 : List Cond := [Cond.methodLink RX11 61 yX11_waysOf, Cond.instanceMethod yX11_waysOf, Cond.selects RX11 yX11_waysOf yX11_waysOf, Cond.code yX11_waysOf cX11_waysOf 3 (some .int), Cond.methodLink RL 40 yX10_as, Cond.instanceMethod yX10_as, Cond.selects RX10 yX10_as yX10_as, Cond.code yX10_as cX10_as 3 (some .int), Cond.methodLink RX10 141 yX10_isOfKind, Cond.static yX10_isOfKind, Cond.code yX10_isOfKind cX10_isOfKind 2 (some .boolean), Cond.classLink RX10 21 "KingdomAtDice$Heavy", Cond.classLink RX10 26 "KingdomAtDice$Twins", Cond.classLink RX10 29 "KingdomAtDice$Light", Cond.classLink RX10 32 "KingdomAtDice$Bone", Cond.methodLink RL 43 yX11_as, Cond.instanceMethod yX11_as, Cond.selects RX11 yX11_as yX11_as, Cond.code yX11_as cX11_as 4 (some .int), Cond.constantLong RX11 139 (4), Cond.methodLink RL 44 yX10_ways, Cond.instanceMethod yX10_ways, Cond.selects RX10 yX10_ways yX10_ways, Cond.code yX10_ways cX10_ways 3 (some .int)]
def wsL_law_r21 : List Cond := [Cond.methodLink RX10 145 yX10_isSum, Cond.methodLink RX10 148 ⟨"KingdomAtDice$Dice", "waysOf", "(I)I"⟩, Cond.methodLink RX10 148 yX1_waysOf, Cond.methodLink RL 47 yX11_ways, Cond.instanceMethod yX11_ways, Cond.selects RX11 yX11_ways yX11_ways, Cond.code yX11_ways cX11_ways 3 (some .int), Cond.constantLong RX11 141 (2), Cond.constantLong RX11 143 (12), Cond.methodLink RL 48 yX10_play, Cond.instanceMethod yX10_play, Cond.selects RX10 yX10_play yX10_play, Cond.code yX10_play cX10_play 5 (some .int), Cond.instanceMethod yX7_mayStake, Cond.selects RX7 yX7_mayStake yX7_mayStake, Cond.code yX7_mayStake cX7_mayStake 3 (some .boolean), Cond.methodLink RX7 66 yX7_has, Cond.instanceMethod yX7_settle, Cond.selects RX7 yX7_settle yX7_settle, Cond.code yX7_settle cX7_settle 5 (some .int), Cond.methodLink RX7 77 yX7_mayStake, Cond.methodLink RX7 80 yX7_isSelfKings, Cond.instanceMethod yX7_isSelfKings, Cond.selects RX7 yX7_isSelfKings yX7_isSelfKings]
def wsL_law_r22 : List Cond := [Cond.code yX7_isSelfKings cX7_isSelfKings 2 (some .boolean), Cond.instanceMethod yX8_lose, Cond.selects RX8 yX8_lose yX8_lose, Cond.code yX8_lose cX8_lose 3 none, Cond.instanceMethod yX8_comeBack, Cond.selects RX8 yX8_comeBack yX8_comeBack, Cond.code yX8_comeBack cX8_comeBack 1 none, Cond.methodLink RL 52 yX11_play, Cond.instanceMethod yX11_play, Cond.selects RX11 yX11_play yX11_play, Cond.code yX11_play cX11_play 5 (some .int), Cond.methodLink RX11 145 yX11_isKings, Cond.instanceMethod yX11_isKings, Cond.selects RX11 yX11_isKings yX11_isKings, Cond.code yX11_isKings cX11_isKings 2 (some .boolean), Cond.methodLink RX11 155 yX11_loses, Cond.instanceMethod yX11_loses, Cond.selects RX11 yX11_loses yX11_loses, Cond.code yX11_loses cX11_loses 2 none, Cond.methodLink RX11 148 yX11_isRightNow, Cond.instanceMethod yX11_isRightNow, Cond.selects RX11 yX11_isRightNow yX11_isRightNow, Cond.code yX11_isRightNow cX11_isRightNow 3 (some .boolean), Cond.methodLink RX11 151 yX11_goesOver]
def wsL_law_r23 : List Cond := [Cond.instanceMethod yX11_goesOver, Cond.selects RX11 yX11_goesOver yX11_goesOver, Cond.code yX11_goesOver cX11_goesOver 3 none, Cond.methodLink RL 53 yX10_odds, Cond.instanceMethod yX10_odds, Cond.selects RX10 yX10_odds yX10_odds, Cond.code yX10_odds cX10_odds 2 (some .int), Cond.instanceMethod yX5_waysTo, Cond.selects RX5 yX5_waysTo yX5_waysTo, Cond.code yX5_waysTo cX5_waysTo 2 (some .int), Cond.methodLink RX10 170 yX10_lowestTerm, Cond.static yX10_lowestTerm, Cond.code yX10_lowestTerm cX10_lowestTerm 9 (some .long), Cond.methodLink RX10 297 yX10_commonDivisor, Cond.static yX10_commonDivisor, Cond.code yX10_commonDivisor cX10_commonDivisor 11 (some .long), Cond.methodLink RL 56 yX11_odds, Cond.instanceMethod yX11_odds, Cond.selects RX11 yX11_odds yX11_odds, Cond.code yX11_odds cX11_odds 2 (some .int), Cond.methodLink RX11 171 yX11_oddsOf, Cond.instanceMethod yX11_oddsOf, Cond.selects RX11 yX11_oddsOf yX11_oddsOf, Cond.code yX11_oddsOf cX11_oddsOf 6 (some .int)]
def wsL_law_r24 : List Cond := [Cond.methodLink RX11 159 yX11_waysBy, Cond.instanceMethod yX11_waysBy, Cond.selects RX11 yX11_waysBy yX11_waysBy, Cond.code yX11_waysBy cX11_waysBy 7 (some .long), Cond.methodLink RX11 163 yX11_waysOfBoth, Cond.instanceMethod yX11_waysOfBoth, Cond.selects RX11 yX11_waysOfBoth yX11_waysOfBoth, Cond.code yX11_waysOfBoth cX11_waysOfBoth 1 (some .long), Cond.methodLink RX11 167 yX11_common, Cond.static yX11_common, Cond.code yX11_common cX11_common 10 (some .long), Cond.methodLink RL 57 yX10_back, Cond.instanceMethod yX10_back, Cond.selects RX10 yX10_back yX10_back, Cond.code yX10_back cX10_back 6 (some .long), Cond.constantLong RX10 174 (-101), Cond.constantLong RX10 176 (-102), Cond.constantLong RX10 181 (-103), Cond.instanceMethod yX7_stakesFor, Cond.selects RX7 yX7_stakesFor yX7_stakesFor, Cond.code yX7_stakesFor cX7_stakesFor 4 (some .int), Cond.methodLink RX10 186 yX10_waysBack, Cond.static yX10_waysBack, Cond.code yX10_waysBack cX10_waysBack 3 (some .long)]
def wsL_law_r25 : List Cond := [Cond.methodLink RX10 190 yX10_power, Cond.static yX10_power, Cond.code yX10_power cX10_power 6 (some .long), Cond.methodLink RL 61 yX11_back, Cond.instanceMethod yX11_back, Cond.selects RX11 yX11_back yX11_back, Cond.code yX11_back cX11_back 4 (some .long), Cond.constantLong RX11 174 (-101), Cond.constantLong RX11 176 (-102), Cond.constantLong RX11 178 (-103), Cond.methodLink RX11 180 yX11_backOf, Cond.instanceMethod yX11_backOf, Cond.selects RX11 yX11_backOf yX11_backOf, Cond.code yX11_backOf cX11_backOf 9 (some .long), Cond.methodLink RL 62 yX10_laws, Cond.instanceMethod yX10_laws, Cond.selects RX10 yX10_laws yX10_laws, Cond.code yX10_laws cX10_laws 4 (some .int), Cond.instanceMethod yX7_kingsBy, Cond.selects RX7 yX7_kingsBy yX7_kingsBy, Cond.code yX7_kingsBy cX7_kingsBy 4 (some .int), Cond.instanceMethod yX8_isKingsBy, Cond.selects RX8 yX8_isKingsBy yX8_isKingsBy, Cond.code yX8_isKingsBy cX8_isKingsBy 2 (some .boolean)]
def wsL_law_r26 : List Cond := [Cond.methodLink RX8 31 yX8_isWronglyLost, Cond.instanceMethod yX8_isWronglyLost, Cond.selects RX8 yX8_isWronglyLost yX8_isWronglyLost, Cond.code yX8_isWronglyLost cX8_isWronglyLost 1 (some .boolean), Cond.instanceMethod yX7_worthOf, Cond.selects RX7 yX7_worthOf yX7_worthOf, Cond.code yX7_worthOf cX7_worthOf 4 (some .int), Cond.methodLink RL 65 yX11_laws, Cond.instanceMethod yX11_laws, Cond.selects RX11 yX11_laws yX11_laws, Cond.code yX11_laws cX11_laws 3 (some .int), Cond.constantLong RX11 188 (3), Cond.methodLink RX11 190 yX11_lawOf, Cond.instanceMethod yX11_lawOf, Cond.selects RX11 yX11_lawOf yX11_lawOf, Cond.code yX11_lawOf cX11_lawOf 7 (some .int), Cond.methodLink RX11 184 yX11_isByLaw, Cond.instanceMethod yX11_isByLaw, Cond.selects RX11 yX11_isByLaw yX11_isByLaw, Cond.code yX11_isByLaw cX11_isByLaw 5 (some .boolean), Cond.methodLink RL 66 yX10_see, Cond.instanceMethod yX10_see, Cond.selects RX10 yX10_see yX10_see, Cond.code yX10_see cX10_see 2 (some .int)]
def wsL_law_r27 : List Cond := [Cond.instanceMethod yX7_addSeen, Cond.selects RX7 yX7_addSeen yX7_addSeen, Cond.code yX7_addSeen cX7_addSeen 2 (some .int), Cond.methodLink RL 69 yX11_see, Cond.instanceMethod yX11_see, Cond.selects RX11 yX11_see yX11_see, Cond.code yX11_see cX11_see 2 (some .int), Cond.methodLink RL 70 yX10_forget, Cond.instanceMethod yX10_forget, Cond.selects RX10 yX10_forget yX10_forget, Cond.code yX10_forget cX10_forget 1 (some .int), Cond.instanceMethod yX7_clearSeen, Cond.selects RX7 yX7_clearSeen yX7_clearSeen, Cond.code yX7_clearSeen cX7_clearSeen 2 (some .int), Cond.methodLink RL 73 yX11_forget, Cond.instanceMethod yX11_forget, Cond.selects RX11 yX11_forget yX11_forget, Cond.code yX11_forget cX11_forget 2 (some .int), Cond.methodLink RL 74 yX10_which, Cond.instanceMethod yX10_which, Cond.selects RX10 yX10_which yX10_which, Cond.code yX10_which cX10_which 3 (some .int), Cond.instanceMethod yX7_waysSeenBy, Cond.selects RX7 yX7_waysSeenBy yX7_waysSeenBy]
def wsL_law_r28 : List Cond := [Cond.code yX7_waysSeenBy cX7_waysSeenBy 5 (some .long), Cond.methodLink RX7 100 ⟨"KingdomAtDice$Dice", "waysOf", "(I)I"⟩, Cond.methodLink RX7 100 yX1_waysOf, Cond.methodLink RL 77 yX11_which, Cond.instanceMethod yX11_which, Cond.selects RX11 yX11_which yX11_which, Cond.code yX11_which cX11_which 1 (some .int), Cond.methodLink RX11 196 yX11_whichOf, Cond.instanceMethod yX11_whichOf, Cond.selects RX11 yX11_whichOf yX11_whichOf, Cond.code yX11_whichOf cX11_whichOf 3 (some .int), Cond.methodLink RX11 193 yX11_productOf, Cond.instanceMethod yX11_productOf, Cond.selects RX11 yX11_productOf yX11_productOf, Cond.code yX11_productOf cX11_productOf 5 (some .long), Cond.methodLink RL 78 yX10_likely, Cond.instanceMethod yX10_likely, Cond.selects RX10 yX10_likely yX10_likely, Cond.code yX10_likely cX10_likely 11 (some .int), Cond.methodLink RX10 213 ⟨"KingdomAtDice$Dice", "wayMany", "()I"⟩, Cond.methodLink RX10 213 yX1_wayMany, Cond.methodLink RL 81 yX11_likely, Cond.instanceMethod yX11_likely, Cond.selects RX11 yX11_likely yX11_likely]
def wsL_law_r29 : List Cond := [Cond.code yX11_likely cX11_likely 1 (some .int), Cond.methodLink RX11 202 yX11_likelyOf, Cond.instanceMethod yX11_likelyOf, Cond.selects RX11 yX11_likelyOf yX11_likelyOf, Cond.code yX11_likelyOf cX11_likelyOf 4 (some .int), Cond.methodLink RX11 199 yX11_allOf, Cond.instanceMethod yX11_allOf, Cond.selects RX11 yX11_allOf yX11_allOf, Cond.code yX11_allOf cX11_allOf 5 (some .long), Cond.methodLink RL 82 yX10_halls, Cond.instanceMethod yX10_halls, Cond.selects RX10 yX10_halls yX10_halls, Cond.code yX10_halls cX10_halls 10 (some .int), Cond.instanceMethod yX2_begin, Cond.selects RX2 yX2_begin yX2_begin, Cond.code yX2_begin cX2_begin 2 none, Cond.methodLink RX10 222 yJ6_lowestOneBit_0f7a4, Cond.static yJ6_lowestOneBit_0f7a4, Cond.initialized RJ6, Cond.code yJ6_lowestOneBit_0f7a4 cJ6_lowestOneBit_0f7a4 1 (some .int), Cond.methodLink RX10 227 ⟨"KingdomAtDice$Dice", "fall", "(LKingdomAtDice$Draws;)I"⟩, Cond.sameMethod "KingdomAtDice$Dice" "KingdomAtDice$Dice" "fall" "(LKingdomAtDice$Draws;)I", Cond.selects RX0 ⟨"KingdomAtDice$Dice", "fall", "(LKingdomAtDice$Draws;)I"⟩ yX1_fall, Cond.instanceMethod yX1_fall]
def wsL_law_r30 : List Cond := [Cond.code yX1_fall cX1_fall 3 (some .int), Cond.instanceMethod yX2_next, Cond.selects RX2 yX2_next yX2_next, Cond.code yX2_next cX2_next 2 (some .int), Cond.constantLong RX2 13 (1103515245), Cond.constantLong RX2 15 (12345), Cond.constantLong RX2 17 (2147483648), Cond.constantLong RX2 19 (65536), Cond.methodLink RX10 227 yX1_fall, Cond.selects RX1 yX1_fall yX1_fall, Cond.selects RX3 ⟨"KingdomAtDice$Dice", "fall", "(LKingdomAtDice$Draws;)I"⟩ yX1_fall, Cond.selects RX4 ⟨"KingdomAtDice$Dice", "fall", "(LKingdomAtDice$Draws;)I"⟩ yX1_fall, Cond.instanceMethod ⟨"KingdomAtDice$Dice", "fall", "(LKingdomAtDice$Draws;)I"⟩, Cond.selects RX9 ⟨"KingdomAtDice$Dice", "fall", "(LKingdomAtDice$Draws;)I"⟩ yX9_fall, Cond.instanceMethod yX9_fall, Cond.code yX9_fall cX9_fall 2 (some .int), Cond.fieldLink RX9 19 "KingdomAtDice$Twins" "least" "I", Cond.sameField "KingdomAtDice$Twins" "KingdomAtDice$Dice" "least" "I", Cond.methodLink RX10 231 yJ6_bitCount_0f7a4, Cond.static yJ6_bitCount_0f7a4, Cond.code yJ6_bitCount_0f7a4 cJ6_bitCount_0f7a4 1 (some .int), Cond.constant RJ6 265 (1431655765), Cond.constant RJ6 266 (858993459), Cond.constant RJ6 267 (252645135)]
def wsL_law_r31 : List Cond := [Cond.instanceMethod yX2_seedNow, Cond.selects RX2 yX2_seedNow yX2_seedNow, Cond.code yX2_seedNow cX2_seedNow 1 (some .int), Cond.methodLink RL 86 yX11_halls, Cond.instanceMethod yX11_halls, Cond.selects RX11 yX11_halls yX11_halls, Cond.code yX11_halls cX11_halls 9 (some .int), Cond.constantLong RX11 218 (60), Cond.fieldLink RX11 207 "KingdomAtDiceModel" "seedNow" "I", Cond.methodLink RX11 220 yX11_kingsMany, Cond.instanceMethod yX11_kingsMany, Cond.selects RX11 yX11_kingsMany yX11_kingsMany, Cond.code yX11_kingsMany cX11_kingsMany 3 (some .int), Cond.methodLink RX11 223 yX11_leastKings, Cond.instanceMethod yX11_leastKings, Cond.selects RX11 yX11_leastKings yX11_leastKings, Cond.code yX11_leastKings cX11_leastKings 3 (some .int), Cond.methodLink RX11 226 yX11_falls, Cond.instanceMethod yX11_falls, Cond.selects RX11 yX11_falls yX11_falls, Cond.code yX11_falls cX11_falls 4 (some .int), Cond.methodLink RX11 215 yX11_draw, Cond.instanceMethod yX11_draw, Cond.selects RX11 yX11_draw yX11_draw]
def wsL_law_r32 : List Cond := [Cond.code yX11_draw cX11_draw 2 (some .int), Cond.constantLong RX11 205 (1103515245), Cond.constantLong RX11 210 (12345), Cond.constantLong RX11 212 (2147483647), Cond.constant RX11 214 (65536), Cond.methodLink RL 87 yX10_image, Cond.instanceMethod yX10_image, Cond.selects RX10 yX10_image yX10_image, Cond.code yX10_image cX10_image 1 (some .int), Cond.instanceMethod yX7_copy, Cond.selects RX7 yX7_copy yX7_copy, Cond.code yX7_copy cX7_copy 3 none, Cond.instanceMethod yX8_copy, Cond.selects RX8 yX8_copy yX8_copy, Cond.code yX8_copy cX8_copy 2 none, Cond.methodLink RL 90 yX11_image, Cond.instanceMethod yX11_image, Cond.selects RX11 yX11_image yX11_image, Cond.code yX11_image cX11_image 1 (some .int), Cond.fieldLink RX11 229 "KingdomAtDiceModel" "keptGold" "I", Cond.fieldLink RX11 232 "KingdomAtDiceModel" "keptThrows" "I", Cond.fieldLink RX11 235 "KingdomAtDiceModel" "keptSeen" "I", Cond.methodLink RL 91 yX10_restore, Cond.instanceMethod yX10_restore]
def wsL_law_r33 : List Cond := [Cond.selects RX10 yX10_restore yX10_restore, Cond.code yX10_restore cX10_restore 1 (some .int), Cond.methodLink RL 94 yX11_restore, Cond.instanceMethod yX11_restore, Cond.selects RX11 yX11_restore yX11_restore, Cond.code yX11_restore cX11_restore 1 (some .int), Cond.methodLink RL 95 yX10_count, Cond.instanceMethod yX10_count, Cond.selects RX10 yX10_count yX10_count, Cond.code yX10_count cX10_count 2 (some .int), Cond.instanceMethod yX7_wrongMany, Cond.selects RX7 yX7_wrongMany yX7_wrongMany, Cond.code yX7_wrongMany cX7_wrongMany 3 (some .int), Cond.methodLink RL 98 yX11_count, Cond.instanceMethod yX11_count, Cond.selects RX11 yX11_count yX11_count, Cond.code yX11_count cX11_count 2 (some .int), Cond.methodLink RX11 241 yX11_countOf, Cond.instanceMethod yX11_countOf, Cond.selects RX11 yX11_countOf yX11_countOf, Cond.code yX11_countOf cX11_countOf 2 (some .int), Cond.methodLink RX11 238 yX11_wrongMany, Cond.instanceMethod yX11_wrongMany, Cond.selects RX11 yX11_wrongMany yX11_wrongMany]
def wsL_law_r34 : List Cond := [Cond.code yX11_wrongMany cX11_wrongMany 3 (some .int), Cond.methodLink RL 99 yX10_digest, Cond.instanceMethod yX10_digest, Cond.selects RX10 yX10_digest yX10_digest, Cond.code yX10_digest cX10_digest 4 (some .long), Cond.constantLong RX10 247 (983), Cond.methodLink RX10 249 yX10_digestThing, Cond.instanceMethod yX10_digestThing, Cond.selects RX10 yX10_digestThing yX10_digestThing, Cond.code yX10_digestThing cX10_digestThing 7 (some .long), Cond.methodLink RX10 272 yX10_thing, Cond.methodLink RX10 259 yX10_mix, Cond.static yX10_mix, Cond.code yX10_mix cX10_mix 4 (some .long), Cond.constantLong RX10 288 (31), Cond.methodLink RX10 276 yX10_back, Cond.methodLink RX10 252 yX10_digestHall, Cond.instanceMethod yX10_digestHall, Cond.selects RX10 yX10_digestHall yX10_digestHall, Cond.code yX10_digestHall cX10_digestHall 7 (some .long), Cond.methodLink RX10 280 yX10_dice, Cond.methodLink RX10 283 yX10_odds, Cond.methodLink RX10 285 yX10_laws, Cond.methodLink RX10 256 yX10_which]
def wsL_law_r35 : List Cond := [Cond.methodLink RX10 263 yX10_likely, Cond.methodLink RX10 269 yX10_count, Cond.methodLink RL 103 yX11_digest, Cond.instanceMethod yX11_digest, Cond.selects RX11 yX11_digest yX11_digest, Cond.code yX11_digest cX11_digest 3 (some .long), Cond.constantLong RX11 254 (983), Cond.fieldLink RX11 246 "KingdomAtDiceModel" "hash" "J", Cond.methodLink RX11 250 yX11_say, Cond.instanceMethod yX11_say, Cond.selects RX11 yX11_say yX11_say, Cond.code yX11_say cX11_say 3 none, Cond.constantLong RX11 244 (31), Cond.methodLink RX11 256 yX11_sayHall, Cond.instanceMethod yX11_sayHall, Cond.selects RX11 yX11_sayHall yX11_sayHall, Cond.code yX11_sayHall cX11_sayHall 3 none]
def wsL_law : List Cond := (wsL_law_r1 ++ (wsL_law_r2 ++ (wsL_law_r3 ++ (wsL_law_r4 ++ (wsL_law_r5 ++ (wsL_law_r6 ++ (wsL_law_r7 ++ (wsL_law_r8 ++ (wsL_law_r9 ++ (wsL_law_r10 ++ (wsL_law_r11 ++ (wsL_law_r12 ++ (wsL_law_r13 ++ (wsL_law_r14 ++ (wsL_law_r15 ++ (wsL_law_r16 ++ (wsL_law_r17 ++ (wsL_law_r18 ++ (wsL_law_r19 ++ (wsL_law_r20 ++ (wsL_law_r21 ++ (wsL_law_r22 ++ (wsL_law_r23 ++ (wsL_law_r24 ++ (wsL_law_r25 ++ (wsL_law_r26 ++ (wsL_law_r27 ++ (wsL_law_r28 ++ (wsL_law_r29 ++ (wsL_law_r30 ++ (wsL_law_r31 ++ (wsL_law_r32 ++ (wsL_law_r33 ++ (wsL_law_r34 ++ wsL_law_r35)))))))))))))))))))))))))))))))))) ++ wsX100 ++ wsX110 ++ wsX60 ++ wsX10 ++ wsX30 ++ wsX90 ++ wsX40 ++ wsX00 ++ wsX50 ++ wsX20 ++ wsX70 ++ wsX80 ++ ([] : List Cond)
theorem inlX0 : ∀ w ∈ wsX00, w ∈ wsL_law := fun _ h => List.mem_append_left _ (List.mem_append_left _ (List.mem_append_left _ (List.mem_append_left _ (List.mem_append_left _ (List.mem_append_right _ h)))))
theorem inlX1 : ∀ w ∈ wsX10, w ∈ wsL_law := fun _ h => List.mem_append_left _ (List.mem_append_left _ (List.mem_append_left _ (List.mem_append_left _ (List.mem_append_left _ (List.mem_append_left _ (List.mem_append_left _ (List.mem_append_left _ (List.mem_append_left _ (List.mem_append_right _ h)))))))))
theorem inlX2 : ∀ w ∈ wsX20, w ∈ wsL_law := fun _ h => List.mem_append_left _ (List.mem_append_left _ (List.mem_append_left _ (List.mem_append_right _ h)))
theorem inlX3 : ∀ w ∈ wsX30, w ∈ wsL_law := fun _ h => List.mem_append_left _ (List.mem_append_left _ (List.mem_append_left _ (List.mem_append_left _ (List.mem_append_left _ (List.mem_append_left _ (List.mem_append_left _ (List.mem_append_left _ (List.mem_append_right _ h))))))))
theorem inlX4 : ∀ w ∈ wsX40, w ∈ wsL_law := fun _ h => List.mem_append_left _ (List.mem_append_left _ (List.mem_append_left _ (List.mem_append_left _ (List.mem_append_left _ (List.mem_append_left _ (List.mem_append_right _ h))))))
theorem inlX5 : ∀ w ∈ wsX50, w ∈ wsL_law := fun _ h => List.mem_append_left _ (List.mem_append_left _ (List.mem_append_left _ (List.mem_append_left _ (List.mem_append_right _ h))))
theorem inlX6 : ∀ w ∈ wsX60, w ∈ wsL_law := fun _ h => List.mem_append_left _ (List.mem_append_left _ (List.mem_append_left _ (List.mem_append_left _ (List.mem_append_left _ (List.mem_append_left _ (List.mem_append_left _ (List.mem_append_left _ (List.mem_append_left _ (List.mem_append_left _ (List.mem_append_right _ h))))))))))
theorem inlX7 : ∀ w ∈ wsX70, w ∈ wsL_law := fun _ h => List.mem_append_left _ (List.mem_append_left _ (List.mem_append_right _ h))
theorem inlX8 : ∀ w ∈ wsX80, w ∈ wsL_law := fun _ h => List.mem_append_left _ (List.mem_append_right _ h)
theorem inlX9 : ∀ w ∈ wsX90, w ∈ wsL_law := fun _ h => List.mem_append_left _ (List.mem_append_left _ (List.mem_append_left _ (List.mem_append_left _ (List.mem_append_left _ (List.mem_append_left _ (List.mem_append_left _ (List.mem_append_right _ h)))))))
theorem inlX10 : ∀ w ∈ wsX100, w ∈ wsL_law := fun _ h => List.mem_append_left _ (List.mem_append_left _ (List.mem_append_left _ (List.mem_append_left _ (List.mem_append_left _ (List.mem_append_left _ (List.mem_append_left _ (List.mem_append_left _ (List.mem_append_left _ (List.mem_append_left _ (List.mem_append_left _ (List.mem_append_left _ (List.mem_append_right _ h))))))))))))
theorem inlX11 : ∀ w ∈ wsX110, w ∈ wsL_law := fun _ h => List.mem_append_left _ (List.mem_append_left _ (List.mem_append_left _ (List.mem_append_left _ (List.mem_append_left _ (List.mem_append_left _ (List.mem_append_left _ (List.mem_append_left _ (List.mem_append_left _ (List.mem_append_left _ (List.mem_append_left _ (List.mem_append_right _ h)))))))))))
theorem inJ11 : ∀ w ∈ wsJ110, w ∈ lw_tbl := by decide +kernel
theorem inJ6 : ∀ w ∈ wsJ60, w ∈ lw_tbl := by decide +kernel
theorem inJ9 : ∀ w ∈ wsJ90, w ∈ lw_tbl := by decide +kernel
theorem inJ0 : ∀ w ∈ wsJ00, w ∈ lw_tbl := by decide +kernel
theorem inJ1 : ∀ w ∈ wsJ10, w ∈ lw_tbl := by decide +kernel
theorem inJ2 : ∀ w ∈ wsJ20, w ∈ lw_tbl := by decide +kernel
theorem inJ3 : ∀ w ∈ wsJ30, w ∈ lw_tbl := by decide +kernel
end
section
theorem kd_by {big : List Cond} (ws : List Cond) (ps : List Nat) (hp : ws = ps.filterMap (fun i => big[i]?)) : ∀ w ∈ ws, w ∈ big := by
  intro w hw
  rw [hp] at hw
  obtain ⟨i, -, hi⟩ := List.mem_filterMap.mp hw
  exact List.mem_of_getElem? hi
theorem kd_apin {big a b : List Cond} (ha : ∀ w ∈ a, w ∈ big) (hb : ∀ w ∈ b, w ∈ big) : ∀ w ∈ a ++ b, w ∈ big := fun w h => (List.mem_append.mp h).elim (ha w) (hb w)
set_option maxRecDepth 20000 in
theorem in_wsL_law_r1 : ∀ w ∈ wsL_law_r1, w ∈ lw_tbl := kd_by _ [92, 93, 73, 757, 758, 84, 94, 95, 96, 97, 98, 99, 100, 101, 74, 258, 115, 117, 75, 134, 135, 76, 144, 145] (by decide +kernel)
set_option maxRecDepth 20000 in
theorem in_wsL_law_r2 : ∀ w ∈ wsL_law_r2, w ∈ lw_tbl := kd_by _ [77, 154, 155, 78, 164, 165, 79, 259, 174, 175, 80, 260, 188, 189, 81, 261, 198, 199, 82, 262, 263, 264, 265, 266] (by decide +kernel)
set_option maxRecDepth 20000 in
theorem in_wsL_law_r3 : ∀ w ∈ wsL_law_r3, w ∈ lw_tbl := kd_by _ [267, 103, 104, 105, 114, 106, 107, 118, 119, 120, 121, 122, 123, 126, 136, 137, 138, 139, 146, 147, 148, 149, 156, 157] (by decide +kernel)
set_option maxRecDepth 20000 in
theorem in_wsL_law_r4 : ∀ w ∈ wsL_law_r4, w ∈ lw_tbl := kd_by _ [158, 159, 166, 167, 168, 169, 177, 178, 179, 180, 181, 191, 192, 193, 194, 201, 202, 203, 204, 234, 206, 83, 236, 237] (by decide +kernel)
set_option maxRecDepth 20000 in
theorem in_wsL_law_r5 : ∀ w ∈ wsL_law_r5, w ∈ lw_tbl := kd_by _ [239, 241, 243, 208, 209, 210, 211, 213, 215, 218, 219, 220, 759, 760, 761, 762, 769, 770, 771, 773, 776, 782, 783, 854] (by decide +kernel)
set_option maxRecDepth 20000 in
theorem in_wsL_law_r6 : ∀ w ∈ wsL_law_r6, w ∈ lw_tbl := kd_by _ [784, 785, 787, 789, 794, 795, 790, 763, 764, 765, 766, 767, 768, 289, 290, 291, 292, 295, 0, 296, 299, 1, 300, 301] (by decide +kernel)
set_option maxRecDepth 20000 in
theorem in_wsL_law_r7 : ∀ w ∈ wsL_law_r7, w ∈ lw_tbl := kd_by _ [855, 856, 857, 858, 859, 772, 860, 861, 862, 302, 303, 304, 305, 308, 2, 309, 863, 864, 865, 866, 310, 311, 312, 313] (by decide +kernel)
set_option maxRecDepth 20000 in
theorem in_wsL_law_r8 : ∀ w ∈ wsL_law_r8, w ∈ lw_tbl := kd_by _ [316, 3, 317, 318, 320, 4, 321, 323, 324, 325, 326, 327, 329, 330, 331, 85, 332, 333, 334, 335, 336, 1104, 337, 338] (by decide +kernel)
set_option maxRecDepth 20000 in
theorem in_wsL_law_r9 : ∀ w ∈ wsL_law_r9, w ∈ lw_tbl := kd_by _ [339, 340, 341, 1103, 343, 344, 345, 346, 347, 348, 349, 350, 351, 352, 86, 353, 357, 358, 87, 359, 360, 361, 362, 354] (by decide +kernel)
set_option maxRecDepth 20000 in
theorem in_wsL_law_r10 : ∀ w ∈ wsL_law_r10, w ∈ lw_tbl := kd_by _ [355, 356, 363, 364, 365, 366, 367, 88, 368, 369, 370, 371, 372, 373, 374, 375, 376, 377, 378, 379, 380, 381, 382, 383] (by decide +kernel)
set_option maxRecDepth 20000 in
theorem in_wsL_law_r11 : ∀ w ∈ wsL_law_r11, w ∈ lw_tbl := kd_by _ [384, 386, 387, 89, 388, 389, 390, 391, 392, 393, 394, 395, 397, 399, 401, 402, 403, 404, 405, 90, 406, 407, 408, 409] (by decide +kernel)
set_option maxRecDepth 20000 in
theorem in_wsL_law_r12 : ∀ w ∈ wsL_law_r12, w ∈ lw_tbl := kd_by _ [410, 411, 412, 413, 414, 415, 416, 417, 867, 868, 869, 870, 871, 873, 42, 874, 774, 775, 777, 875, 877, 43, 878, 882] (by decide +kernel)
set_option maxRecDepth 20000 in
theorem in_wsL_law_r13 : ∀ w ∈ wsL_law_r13, w ∈ lw_tbl := kd_by _ [883, 879, 880, 881, 884, 885, 886, 420, 421, 422, 423, 426, 5, 427, 428, 431, 6, 432, 437, 435, 7, 436, 440, 8] (by decide +kernel)
set_option maxRecDepth 20000 in
theorem in_wsL_law_r14 : ∀ w ∈ wsL_law_r14, w ∈ lw_tbl := kd_by _ [441, 444, 9, 445, 448, 10, 449, 452, 11, 453, 454, 456, 12, 457, 459, 460, 463, 13, 464, 467, 14, 468, 469, 470] (by decide +kernel)
set_option maxRecDepth 20000 in
theorem in_wsL_law_r15 : ∀ w ∈ wsL_law_r15, w ∈ lw_tbl := kd_by _ [471, 472, 475, 476, 473, 485, 483, 484, 472, 474, 477, 478, 473, 479, 480, 481, 487, 490, 491, 488, 503, 504, 1092, 1093] (by decide +kernel)
set_option maxRecDepth 20000 in
theorem in_wsL_law_r16 : ∀ w ∈ wsL_law_r16, w ∈ lw_tbl := kd_by _ [501, 502, 504, 1094, 1095, 1096, 1097, 487, 489, 492, 493, 488, 494, 495, 496, 497, 498, 500, 887, 888, 889, 890, 778, 779] (by decide +kernel)
set_option maxRecDepth 20000 in
theorem in_wsL_law_r17 : ∀ w ∈ wsL_law_r17, w ∈ lw_tbl := kd_by _ [780, 786, 781, 891, 892, 893, 505, 506, 507, 508, 511, 15, 512, 516, 16, 517, 894, 895, 896, 897, 902, 898, 900, 44] (by decide +kernel)
set_option maxRecDepth 20000 in
theorem in_wsL_law_r18 : ∀ w ∈ wsL_law_r18, w ∈ lw_tbl := kd_by _ [901, 518, 519, 520, 521, 522, 524, 17, 525, 528, 18, 529, 530, 532, 19, 533, 534, 537, 538, 535, 542, 543, 543, 534] (by decide +kernel)
set_option maxRecDepth 20000 in
theorem in_wsL_law_r19 : ∀ w ∈ wsL_law_r19, w ∈ lw_tbl := kd_by _ [536, 539, 540, 541, 903, 904, 905, 906, 907, 909, 45, 910, 911, 913, 46, 914, 915, 917, 47, 918, 919, 921, 48, 922] (by decide +kernel)
set_option maxRecDepth 20000 in
theorem in_wsL_law_r20 : ∀ w ∈ wsL_law_r20, w ∈ lw_tbl := kd_by _ [923, 925, 49, 926, 544, 545, 546, 547, 548, 549, 550, 134, 144, 154, 164, 927, 928, 929, 930, 931, 551, 552, 553, 554] (by decide +kernel)
set_option maxRecDepth 20000 in
theorem in_wsL_law_r21 : ∀ w ∈ wsL_law_r21, w ∈ lw_tbl := kd_by _ [555, 556, 556, 932, 933, 934, 935, 936, 937, 557, 558, 559, 560, 563, 20, 564, 565, 568, 21, 569, 570, 571, 573, 22] (by decide +kernel)
set_option maxRecDepth 20000 in
theorem in_wsL_law_r22 : ∀ w ∈ wsL_law_r22, w ∈ lw_tbl := kd_by _ [574, 577, 23, 578, 581, 24, 582, 938, 939, 940, 941, 942, 944, 50, 945, 946, 948, 51, 949, 950, 952, 52, 953, 954] (by decide +kernel)
set_option maxRecDepth 20000 in
theorem in_wsL_law_r23 : ∀ w ∈ wsL_law_r23, w ∈ lw_tbl := kd_by _ [956, 53, 957, 583, 584, 585, 586, 589, 25, 590, 592, 593, 594, 595, 596, 597, 958, 959, 960, 961, 962, 964, 54, 965] (by decide +kernel)
set_option maxRecDepth 20000 in
theorem in_wsL_law_r24 : ∀ w ∈ wsL_law_r24, w ∈ lw_tbl := kd_by _ [966, 968, 55, 969, 970, 972, 56, 973, 974, 975, 976, 598, 599, 600, 601, 602, 603, 604, 607, 26, 608, 609, 610, 611] (by decide +kernel)
set_option maxRecDepth 20000 in
theorem in_wsL_law_r25 : ∀ w ∈ wsL_law_r25, w ∈ lw_tbl := kd_by _ [612, 613, 614, 977, 978, 979, 980, 981, 982, 983, 984, 986, 57, 987, 615, 616, 617, 618, 621, 27, 622, 625, 28, 626] (by decide +kernel)
set_option maxRecDepth 20000 in
theorem in_wsL_law_r26 : ∀ w ∈ wsL_law_r26, w ∈ lw_tbl := kd_by _ [627, 629, 29, 630, 633, 30, 634, 988, 989, 990, 991, 992, 993, 995, 58, 996, 997, 999, 59, 1000, 635, 636, 637, 638] (by decide +kernel)
set_option maxRecDepth 20000 in
theorem in_wsL_law_r27 : ∀ w ∈ wsL_law_r27, w ∈ lw_tbl := kd_by _ [641, 31, 642, 1001, 1002, 1003, 1004, 643, 644, 645, 646, 649, 32, 650, 1005, 1006, 1007, 1008, 651, 652, 653, 654, 657, 33] (by decide +kernel)
set_option maxRecDepth 20000 in
theorem in_wsL_law_r28 : ∀ w ∈ wsL_law_r28, w ∈ lw_tbl := kd_by _ [658, 659, 659, 1009, 1010, 1011, 1012, 1013, 1015, 60, 1016, 1017, 1019, 61, 1020, 660, 661, 662, 663, 664, 664, 1021, 1022, 1023] (by decide +kernel)
set_option maxRecDepth 20000 in
theorem in_wsL_law_r29 : ∀ w ∈ wsL_law_r29, w ∈ lw_tbl := kd_by _ [1024, 1025, 1027, 62, 1028, 1029, 1031, 63, 1032, 665, 666, 667, 668, 671, 34, 672, 673, 674, 91, 675, 676, 679, 680, 677] (by decide +kernel)
set_option maxRecDepth 20000 in
theorem in_wsL_law_r30 : ∀ w ∈ wsL_law_r30, w ∈ lw_tbl := kd_by _ [694, 688, 35, 689, 690, 691, 692, 693, 676, 678, 681, 682, 677, 683, 684, 685, 124, 125, 696, 697, 698, 699, 700, 701] (by decide +kernel)
set_option maxRecDepth 20000 in
theorem in_wsL_law_r31 : ∀ w ∈ wsL_law_r31, w ∈ lw_tbl := kd_by _ [704, 36, 705, 1033, 1034, 1035, 1036, 1037, 788, 1038, 1040, 64, 1041, 1042, 1044, 65, 1045, 1046, 1048, 66, 1049, 1050, 1052, 67] (by decide +kernel)
set_option maxRecDepth 20000 in
theorem in_wsL_law_r32 : ∀ w ∈ wsL_law_r32, w ∈ lw_tbl := kd_by _ [1053, 1054, 1055, 1056, 1057, 706, 707, 708, 709, 712, 37, 713, 716, 38, 717, 1058, 1059, 1060, 1061, 791, 792, 793, 718, 719] (by decide +kernel)
set_option maxRecDepth 20000 in
theorem in_wsL_law_r33 : ∀ w ∈ wsL_law_r33, w ∈ lw_tbl := kd_by _ [720, 721, 1062, 1063, 1064, 1065, 722, 723, 724, 725, 728, 39, 729, 1066, 1067, 1068, 1069, 1070, 1072, 68, 1073, 1074, 1076, 69] (by decide +kernel)
set_option maxRecDepth 20000 in
theorem in_wsL_law_r34 : ∀ w ∈ wsL_law_r34, w ∈ lw_tbl := kd_by _ [1077, 731, 732, 733, 734, 735, 736, 738, 40, 739, 740, 741, 742, 743, 744, 745, 746, 748, 41, 749, 750, 751, 752, 753] (by decide +kernel)
set_option maxRecDepth 20000 in
theorem in_wsL_law_r35 : ∀ w ∈ wsL_law_r35, w ∈ lw_tbl := kd_by _ [754, 756, 1078, 1079, 1080, 1081, 1082, 796, 1083, 1085, 70, 1086, 1087, 1088, 1090, 71, 1091] (by decide +kernel)
set_option maxRecDepth 20000 in
theorem in_wsX00 : ∀ w ∈ wsX00, w ∈ lw_tbl := kd_by _ [170, 171, 172] (by decide +kernel)
set_option maxRecDepth 20000 in
theorem in_wsX10 : ∀ w ∈ wsX10, w ∈ lw_tbl := kd_by _ [127, 129, 131] (by decide +kernel)
set_option maxRecDepth 20000 in
theorem in_wsX20 : ∀ w ∈ wsX20, w ∈ lw_tbl := kd_by _ [195] (by decide +kernel)
set_option maxRecDepth 20000 in
theorem in_wsX30 : ∀ w ∈ wsX30, w ∈ lw_tbl := kd_by _ [140, 141, 142] (by decide +kernel)
set_option maxRecDepth 20000 in
theorem in_wsX40 : ∀ w ∈ wsX40, w ∈ lw_tbl := kd_by _ [160, 161, 162] (by decide +kernel)
set_option maxRecDepth 20000 in
theorem in_wsX50 : ∀ w ∈ wsX50, w ∈ lw_tbl := kd_by _ [183, 185] (by decide +kernel)
set_option maxRecDepth 20000 in
theorem in_wsX60 : ∀ w ∈ wsX60, w ∈ lw_tbl := kd_by _ [109, 111] (by decide +kernel)
set_option maxRecDepth 20000 in
theorem in_wsX70 : ∀ w ∈ wsX70, w ∈ lw_tbl := kd_by _ [245, 247, 249, 251, 253, 255] (by decide +kernel)
set_option maxRecDepth 20000 in
theorem in_wsX80 : ∀ w ∈ wsX80, w ∈ lw_tbl := kd_by _ [221, 223, 225, 227, 229, 231] (by decide +kernel)
set_option maxRecDepth 20000 in
theorem in_wsX90 : ∀ w ∈ wsX90, w ∈ lw_tbl := kd_by _ [150, 151, 152] (by decide +kernel)
set_option maxRecDepth 20000 in
theorem in_wsX100 : ∀ w ∈ wsX100, w ∈ lw_tbl := kd_by _ [268, 270, 272, 274, 276, 278, 280, 282, 284, 286] (by decide +kernel)
set_option maxRecDepth 20000 in
theorem in_wsX110 : ∀ w ∈ wsX110, w ∈ lw_tbl := kd_by _ [797, 799, 801, 803, 805, 807, 809, 811, 813, 815, 817, 819, 821, 823, 825, 827, 829, 831, 833, 835, 837, 839, 841, 843, 845, 847, 849, 851] (by decide +kernel)
theorem wsL_law_in : ∀ w ∈ wsL_law, w ∈ lw_tbl := kd_apin (kd_apin (kd_apin (kd_apin (kd_apin (kd_apin (kd_apin (kd_apin (kd_apin (kd_apin (kd_apin (kd_apin (kd_apin (kd_apin in_wsL_law_r1 (kd_apin in_wsL_law_r2 (kd_apin in_wsL_law_r3 (kd_apin in_wsL_law_r4 (kd_apin in_wsL_law_r5 (kd_apin in_wsL_law_r6 (kd_apin in_wsL_law_r7 (kd_apin in_wsL_law_r8 (kd_apin in_wsL_law_r9 (kd_apin in_wsL_law_r10 (kd_apin in_wsL_law_r11 (kd_apin in_wsL_law_r12 (kd_apin in_wsL_law_r13 (kd_apin in_wsL_law_r14 (kd_apin in_wsL_law_r15 (kd_apin in_wsL_law_r16 (kd_apin in_wsL_law_r17 (kd_apin in_wsL_law_r18 (kd_apin in_wsL_law_r19 (kd_apin in_wsL_law_r20 (kd_apin in_wsL_law_r21 (kd_apin in_wsL_law_r22 (kd_apin in_wsL_law_r23 (kd_apin in_wsL_law_r24 (kd_apin in_wsL_law_r25 (kd_apin in_wsL_law_r26 (kd_apin in_wsL_law_r27 (kd_apin in_wsL_law_r28 (kd_apin in_wsL_law_r29 (kd_apin in_wsL_law_r30 (kd_apin in_wsL_law_r31 (kd_apin in_wsL_law_r32 (kd_apin in_wsL_law_r33 (kd_apin in_wsL_law_r34 (in_wsL_law_r35))))))))))))))))))))))))))))))))))) in_wsX100) in_wsX110) in_wsX60) in_wsX10) in_wsX30) in_wsX90) in_wsX40) in_wsX00) in_wsX50) in_wsX20) in_wsX70) in_wsX80) (fun _ h => absurd h List.not_mem_nil)
theorem inX0 : ∀ w ∈ wsX00, w ∈ lw_tbl := fun w h => wsL_law_in w (inlX0 w h)
theorem inX1 : ∀ w ∈ wsX10, w ∈ lw_tbl := fun w h => wsL_law_in w (inlX1 w h)
theorem inX2 : ∀ w ∈ wsX20, w ∈ lw_tbl := fun w h => wsL_law_in w (inlX2 w h)
theorem inX3 : ∀ w ∈ wsX30, w ∈ lw_tbl := fun w h => wsL_law_in w (inlX3 w h)
theorem inX4 : ∀ w ∈ wsX40, w ∈ lw_tbl := fun w h => wsL_law_in w (inlX4 w h)
theorem inX5 : ∀ w ∈ wsX50, w ∈ lw_tbl := fun w h => wsL_law_in w (inlX5 w h)
theorem inX6 : ∀ w ∈ wsX60, w ∈ lw_tbl := fun w h => wsL_law_in w (inlX6 w h)
theorem inX7 : ∀ w ∈ wsX70, w ∈ lw_tbl := fun w h => wsL_law_in w (inlX7 w h)
theorem inX8 : ∀ w ∈ wsX80, w ∈ lw_tbl := fun w h => wsL_law_in w (inlX8 w h)
theorem inX9 : ∀ w ∈ wsX90, w ∈ lw_tbl := fun w h => wsL_law_in w (inlX9 w h)
theorem inX10 : ∀ w ∈ wsX100, w ∈ lw_tbl := fun w h => wsL_law_in w (inlX10 w h)
theorem inX11 : ∀ w ∈ wsX110, w ∈ lw_tbl := fun w h => wsL_law_in w (inlX11 w h)
end
section
set_option maxRecDepth 20000 in
theorem ggX0_init_X3_init : GoodIn wsX0_init wsX3_init := goodIn_r _ [4, 5, 6, 7, 8, 9, 10, 11, 12, 13, 14, 15, 16, 17, 18, 19, 20, 21, 22, 23, 24, 25, 26, 27, 28, 29] (by decide +kernel) (by decide +kernel)
set_option maxRecDepth 20000 in
theorem gX0_init_X3_init : GoodIn wsX0_init (wsX3_init) := ggX0_init_X3_init
theorem dX0_init_0 : decode cX0_init 0 = .ok (.aload_n 0, 1) := by decide +kernel
theorem dX0_init_1 : decode cX0_init 1 = .ok (.iconst 4, 1) := by decide +kernel
theorem dX0_init_2 : decode cX0_init 2 = .ok (.iconst 4, 1) := by decide +kernel
theorem dX0_init_3 : decode cX0_init 3 = .ok (.invokespecial 3, 3) := by decide +kernel
theorem dX0_init_6 : decode cX0_init 6 = .ok (.return_, 1) := by decide +kernel
theorem dX1_init_0 : decode cX1_init 0 = .ok (.aload_n 0, 1) := by decide +kernel
theorem dX1_init_1 : decode cX1_init 1 = .ok (.invokespecial 1, 3) := by decide +kernel
theorem dX1_init_4 : decode cX1_init 4 = .ok (.aload_n 0, 1) := by decide +kernel
theorem dX1_init_5 : decode cX1_init 5 = .ok (.iload_n 1, 1) := by decide +kernel
theorem dX1_init_6 : decode cX1_init 6 = .ok (.putfield 7, 3) := by decide +kernel
theorem dX1_init_9 : decode cX1_init 9 = .ok (.aload_n 0, 1) := by decide +kernel
theorem dX1_init_10 : decode cX1_init 10 = .ok (.iload_n 2, 1) := by decide +kernel
theorem dX1_init_11 : decode cX1_init 11 = .ok (.putfield 13, 3) := by decide +kernel
theorem dX1_init_14 : decode cX1_init 14 = .ok (.aload_n 0, 1) := by decide +kernel
theorem dX1_init_15 : decode cX1_init 15 = .ok (.iload_n 3, 1) := by decide +kernel
theorem dX1_init_16 : decode cX1_init 16 = .ok (.putfield 16, 3) := by decide +kernel
theorem dX1_init_19 : decode cX1_init 19 = .ok (.return_, 1) := by decide +kernel
set_option maxRecDepth 20000 in
theorem ggX1_tell_X1_wayMany : GoodIn wsX1_tell wsX1_wayMany := goodIn_r _ [9, 10, 11, 12, 13, 8, 14, 3, 2, 15, 16, 17, 18, 19, 32, 33, 34, 35, 36, 37, 38, 39, 40, 41, 42, 43, 44, 45, 46] (by decide +kernel) (by decide +kernel)
set_option maxRecDepth 20000 in
theorem gX1_tell_X1_wayMany_u19X0 : GoodIn wsX1_tell (va_wsU RX1 19 RX0 "KingdomAtDice$Dice" ⟨"KingdomAtDice$Dice", "wayMany", "()I"⟩ yX1_wayMany wsX1_wayMany) := goodIn_app (goodIn_of _ (by decide +kernel)) ggX1_tell_X1_wayMany
set_option maxRecDepth 20000 in
theorem gX1_tell_X1_wayMany : GoodIn wsX1_tell (wsV RX1 19 RX1 yX1_wayMany wsX1_wayMany) := goodIn_app (goodIn_of _ (by decide +kernel)) ggX1_tell_X1_wayMany
set_option maxRecDepth 20000 in
theorem gX1_tell_X1_wayMany_u19X3 : GoodIn wsX1_tell (va_wsU RX1 19 RX3 "KingdomAtDice$Dice" ⟨"KingdomAtDice$Dice", "wayMany", "()I"⟩ yX1_wayMany wsX1_wayMany) := goodIn_app (goodIn_of _ (by decide +kernel)) ggX1_tell_X1_wayMany
set_option maxRecDepth 20000 in
theorem gX1_tell_X1_wayMany_u19X4 : GoodIn wsX1_tell (va_wsU RX1 19 RX4 "KingdomAtDice$Dice" ⟨"KingdomAtDice$Dice", "wayMany", "()I"⟩ yX1_wayMany wsX1_wayMany) := goodIn_app (goodIn_of _ (by decide +kernel)) ggX1_tell_X1_wayMany
set_option maxRecDepth 20000 in
theorem ggX1_tell_X9_wayMany : GoodIn wsX1_tell wsX9_wayMany := goodIn_r _ [28, 29, 30, 31, 13, 8, 14, 3, 2, 32, 33, 34, 35, 36, 37, 38, 39, 40, 41, 42, 43, 44, 45, 46] (by decide +kernel) (by decide +kernel)
set_option maxRecDepth 20000 in
theorem gX1_tell_X9_wayMany_u19X9 : GoodIn wsX1_tell (va_wsO RX1 19 RX9 "KingdomAtDice$Dice" ⟨"KingdomAtDice$Dice", "wayMany", "()I"⟩ yX9_wayMany wsX9_wayMany) := goodIn_app (goodIn_of _ (by decide +kernel)) ggX1_tell_X9_wayMany
theorem dX1_tell_0 : decode cX1_tell 0 = .ok (.iload_n 1, 1) := by decide +kernel
theorem dX1_tell_1 : decode cX1_tell 1 = .ok (.tableswitch 46 0 2 #[27, 32, 39], 27) := by decide +kernel
theorem dX1_tell_28 : decode cX1_tell 28 = .ok (.aload_n 0, 1) := by decide +kernel
theorem dX1_tell_29 : decode cX1_tell 29 = .ok (.getfield 7, 3) := by decide +kernel
theorem dX1_tell_32 : decode cX1_tell 32 = .ok (.ireturn, 1) := by decide +kernel
theorem dX1_tell_33 : decode cX1_tell 33 = .ok (.iconst 2, 1) := by decide +kernel
theorem dX1_tell_34 : decode cX1_tell 34 = .ok (.aload_n 0, 1) := by decide +kernel
theorem dX1_tell_35 : decode cX1_tell 35 = .ok (.getfield 13, 3) := by decide +kernel
theorem dX1_tell_38 : decode cX1_tell 38 = .ok (.imul, 1) := by decide +kernel
theorem dX1_tell_39 : decode cX1_tell 39 = .ok (.ireturn, 1) := by decide +kernel
theorem dX1_tell_40 : decode cX1_tell 40 = .ok (.iconst 2, 1) := by decide +kernel
theorem dX1_tell_41 : decode cX1_tell 41 = .ok (.aload_n 0, 1) := by decide +kernel
theorem dX1_tell_42 : decode cX1_tell 42 = .ok (.getfield 16, 3) := by decide +kernel
theorem dX1_tell_45 : decode cX1_tell 45 = .ok (.imul, 1) := by decide +kernel
theorem dX1_tell_46 : decode cX1_tell 46 = .ok (.ireturn, 1) := by decide +kernel
theorem dX1_tell_47 : decode cX1_tell 47 = .ok (.aload_n 0, 1) := by decide +kernel
theorem dX1_tell_48 : decode cX1_tell 48 = .ok (.invokevirtual 19, 3) := by decide +kernel
theorem dX1_tell_51 : decode cX1_tell 51 = .ok (.ireturn, 1) := by decide +kernel
theorem dX1_faces_0 : decode cX1_faces 0 = .ok (.aload_n 0, 1) := by decide +kernel
theorem dX1_faces_1 : decode cX1_faces 1 = .ok (.getfield 16, 3) := by decide +kernel
theorem dX1_faces_4 : decode cX1_faces 4 = .ok (.aload_n 0, 1) := by decide +kernel
theorem dX1_faces_5 : decode cX1_faces 5 = .ok (.getfield 13, 3) := by decide +kernel
theorem dX1_faces_8 : decode cX1_faces 8 = .ok (.isub, 1) := by decide +kernel
theorem dX1_faces_9 : decode cX1_faces 9 = .ok (.iconst 1, 1) := by decide +kernel
theorem dX1_faces_10 : decode cX1_faces 10 = .ok (.iadd, 1) := by decide +kernel
theorem dX1_faces_11 : decode cX1_faces 11 = .ok (.ireturn, 1) := by decide +kernel
set_option maxRecDepth 20000 in
theorem ggX1_wayMany_X1_faces : GoodIn wsX1_wayMany wsX1_faces := goodIn_r _ [6, 7, 8, 14, 15, 16, 17, 18, 19, 20, 21, 22, 23, 24, 25, 26, 27, 28] (by decide +kernel) (by decide +kernel)
set_option maxRecDepth 20000 in
theorem gX1_wayMany_X1_faces_u23X0 : GoodIn wsX1_wayMany (va_wsU RX1 23 RX0 "KingdomAtDice$Dice" ⟨"KingdomAtDice$Dice", "faces", "()I"⟩ yX1_faces wsX1_faces) := goodIn_app (goodIn_of _ (by decide +kernel)) ggX1_wayMany_X1_faces
set_option maxRecDepth 20000 in
theorem gX1_wayMany_X1_faces : GoodIn wsX1_wayMany (wsV RX1 23 RX1 yX1_faces wsX1_faces) := goodIn_app (goodIn_of _ (by decide +kernel)) ggX1_wayMany_X1_faces
set_option maxRecDepth 20000 in
theorem gX1_wayMany_X1_faces_u23X3 : GoodIn wsX1_wayMany (va_wsU RX1 23 RX3 "KingdomAtDice$Dice" ⟨"KingdomAtDice$Dice", "faces", "()I"⟩ yX1_faces wsX1_faces) := goodIn_app (goodIn_of _ (by decide +kernel)) ggX1_wayMany_X1_faces
set_option maxRecDepth 20000 in
theorem gX1_wayMany_X1_faces_u23X4 : GoodIn wsX1_wayMany (va_wsU RX1 23 RX4 "KingdomAtDice$Dice" ⟨"KingdomAtDice$Dice", "faces", "()I"⟩ yX1_faces wsX1_faces) := goodIn_app (goodIn_of _ (by decide +kernel)) ggX1_wayMany_X1_faces
set_option maxRecDepth 20000 in
theorem gX1_wayMany_X1_faces_u23X9 : GoodIn wsX1_wayMany (va_wsU RX1 23 RX9 "KingdomAtDice$Dice" ⟨"KingdomAtDice$Dice", "faces", "()I"⟩ yX1_faces wsX1_faces) := goodIn_app (goodIn_of _ (by decide +kernel)) ggX1_wayMany_X1_faces
theorem dX1_wayMany_0 : decode cX1_wayMany 0 = .ok (.aload_n 0, 1) := by decide +kernel
theorem dX1_wayMany_1 : decode cX1_wayMany 1 = .ok (.invokevirtual 23, 3) := by decide +kernel
theorem dX1_wayMany_4 : decode cX1_wayMany 4 = .ok (.aload_n 0, 1) := by decide +kernel
theorem dX1_wayMany_5 : decode cX1_wayMany 5 = .ok (.invokevirtual 23, 3) := by decide +kernel
theorem dX1_wayMany_8 : decode cX1_wayMany 8 = .ok (.imul, 1) := by decide +kernel
theorem dX1_wayMany_9 : decode cX1_wayMany 9 = .ok (.ireturn, 1) := by decide +kernel
set_option maxRecDepth 20000 in
theorem ggX1_waysOf_X10_isSum : GoodIn wsX1_waysOf wsX10_isSum := goodIn_r _ [5] (by decide +kernel) (by decide +kernel)
set_option maxRecDepth 20000 in
theorem gX1_waysOf_X10_isSum_n26 : GoodIn wsX1_waysOf (wsX10_isSum) := ggX1_waysOf_X10_isSum
theorem dX1_waysOf_0 : decode cX1_waysOf 0 = .ok (.iload_n 1, 1) := by decide +kernel
theorem dX1_waysOf_1 : decode cX1_waysOf 1 = .ok (.invokestatic 26, 3) := by decide +kernel
theorem dX1_waysOf_4 : decode cX1_waysOf 4 = .ok (.ifCond .ne 5, 3) := by decide +kernel
theorem dX1_waysOf_7 : decode cX1_waysOf 7 = .ok (.iconst 0, 1) := by decide +kernel
theorem dX1_waysOf_8 : decode cX1_waysOf 8 = .ok (.ireturn, 1) := by decide +kernel
theorem dX1_waysOf_9 : decode cX1_waysOf 9 = .ok (.iconst 0, 1) := by decide +kernel
theorem dX1_waysOf_10 : decode cX1_waysOf 10 = .ok (.istore_n 2, 1) := by decide +kernel
theorem dX1_waysOf_11 : decode cX1_waysOf 11 = .ok (.aload_n 0, 1) := by decide +kernel
theorem dX1_waysOf_12 : decode cX1_waysOf 12 = .ok (.getfield 13, 3) := by decide +kernel
theorem dX1_waysOf_15 : decode cX1_waysOf 15 = .ok (.istore_n 3, 1) := by decide +kernel
theorem dX1_waysOf_16 : decode cX1_waysOf 16 = .ok (.iload_n 3, 1) := by decide +kernel
theorem dX1_waysOf_17 : decode cX1_waysOf 17 = .ok (.aload_n 0, 1) := by decide +kernel
theorem dX1_waysOf_18 : decode cX1_waysOf 18 = .ok (.getfield 16, 3) := by decide +kernel
theorem dX1_waysOf_21 : decode cX1_waysOf 21 = .ok (.if_icmp .gt 35, 3) := by decide +kernel
theorem dX1_waysOf_24 : decode cX1_waysOf 24 = .ok (.iload_n 1, 1) := by decide +kernel
theorem dX1_waysOf_25 : decode cX1_waysOf 25 = .ok (.iload_n 3, 1) := by decide +kernel
theorem dX1_waysOf_26 : decode cX1_waysOf 26 = .ok (.isub, 1) := by decide +kernel
theorem dX1_waysOf_27 : decode cX1_waysOf 27 = .ok (.istore 4, 2) := by decide +kernel
theorem dX1_waysOf_29 : decode cX1_waysOf 29 = .ok (.iload 4, 2) := by decide +kernel
theorem dX1_waysOf_31 : decode cX1_waysOf 31 = .ok (.aload_n 0, 1) := by decide +kernel
theorem dX1_waysOf_32 : decode cX1_waysOf 32 = .ok (.getfield 13, 3) := by decide +kernel
theorem dX1_waysOf_35 : decode cX1_waysOf 35 = .ok (.if_icmp .lt 15, 3) := by decide +kernel
theorem dX1_waysOf_38 : decode cX1_waysOf 38 = .ok (.iload 4, 2) := by decide +kernel
theorem dX1_waysOf_40 : decode cX1_waysOf 40 = .ok (.aload_n 0, 1) := by decide +kernel
theorem dX1_waysOf_41 : decode cX1_waysOf 41 = .ok (.getfield 16, 3) := by decide +kernel
theorem dX1_waysOf_44 : decode cX1_waysOf 44 = .ok (.if_icmp .gt 6, 3) := by decide +kernel
theorem dX1_waysOf_47 : decode cX1_waysOf 47 = .ok (.iinc 2 1, 3) := by decide +kernel
theorem dX1_waysOf_50 : decode cX1_waysOf 50 = .ok (.iinc 3 1, 3) := by decide +kernel
theorem dX1_waysOf_53 : decode cX1_waysOf 53 = .ok (.goto (-37), 3) := by decide +kernel
theorem dX1_waysOf_56 : decode cX1_waysOf 56 = .ok (.iload_n 2, 1) := by decide +kernel
theorem dX1_waysOf_57 : decode cX1_waysOf 57 = .ok (.ireturn, 1) := by decide +kernel
set_option maxRecDepth 20000 in
theorem ggX1_fall_X1_faces : GoodIn wsX1_fall wsX1_faces := goodIn_r _ [7, 8, 1, 23, 24, 25, 26, 27, 28, 29, 30, 31, 32, 33, 34, 35, 36, 37] (by decide +kernel) (by decide +kernel)
set_option maxRecDepth 20000 in
theorem gX1_fall_X1_faces_u23X0 : GoodIn wsX1_fall (va_wsU RX1 23 RX0 "KingdomAtDice$Dice" ⟨"KingdomAtDice$Dice", "faces", "()I"⟩ yX1_faces wsX1_faces) := goodIn_app (goodIn_of _ (by decide +kernel)) ggX1_fall_X1_faces
set_option maxRecDepth 20000 in
theorem gX1_fall_X1_faces : GoodIn wsX1_fall (wsV RX1 23 RX1 yX1_faces wsX1_faces) := goodIn_app (goodIn_of _ (by decide +kernel)) ggX1_fall_X1_faces
set_option maxRecDepth 20000 in
theorem gX1_fall_X1_faces_u23X3 : GoodIn wsX1_fall (va_wsU RX1 23 RX3 "KingdomAtDice$Dice" ⟨"KingdomAtDice$Dice", "faces", "()I"⟩ yX1_faces wsX1_faces) := goodIn_app (goodIn_of _ (by decide +kernel)) ggX1_fall_X1_faces
set_option maxRecDepth 20000 in
theorem gX1_fall_X1_faces_u23X4 : GoodIn wsX1_fall (va_wsU RX1 23 RX4 "KingdomAtDice$Dice" ⟨"KingdomAtDice$Dice", "faces", "()I"⟩ yX1_faces wsX1_faces) := goodIn_app (goodIn_of _ (by decide +kernel)) ggX1_fall_X1_faces
set_option maxRecDepth 20000 in
theorem gX1_fall_X1_faces_u23X9 : GoodIn wsX1_fall (va_wsU RX1 23 RX9 "KingdomAtDice$Dice" ⟨"KingdomAtDice$Dice", "faces", "()I"⟩ yX1_faces wsX1_faces) := goodIn_app (goodIn_of _ (by decide +kernel)) ggX1_fall_X1_faces
set_option maxRecDepth 20000 in
theorem ggX1_fall_X2_next : GoodIn wsX1_fall wsX2_next := goodIn_r _ [17, 18, 19, 20, 21, 22, 38] (by decide +kernel) (by decide +kernel)
set_option maxRecDepth 20000 in
theorem gX1_fall_X2_next_n32 : GoodIn wsX1_fall (wsX2_next) := ggX1_fall_X2_next
theorem dX1_fall_0 : decode cX1_fall 0 = .ok (.aload_n 0, 1) := by decide +kernel
theorem dX1_fall_1 : decode cX1_fall 1 = .ok (.getfield 13, 3) := by decide +kernel
theorem dX1_fall_4 : decode cX1_fall 4 = .ok (.aload_n 1, 1) := by decide +kernel
theorem dX1_fall_5 : decode cX1_fall 5 = .ok (.aload_n 0, 1) := by decide +kernel
theorem dX1_fall_6 : decode cX1_fall 6 = .ok (.invokevirtual 23, 3) := by decide +kernel
theorem dX1_fall_9 : decode cX1_fall 9 = .ok (.invokevirtual 32, 3) := by decide +kernel
theorem dX1_fall_12 : decode cX1_fall 12 = .ok (.iadd, 1) := by decide +kernel
theorem dX1_fall_13 : decode cX1_fall 13 = .ok (.istore_n 2, 1) := by decide +kernel
theorem dX1_fall_14 : decode cX1_fall 14 = .ok (.iload_n 2, 1) := by decide +kernel
theorem dX1_fall_15 : decode cX1_fall 15 = .ok (.aload_n 0, 1) := by decide +kernel
theorem dX1_fall_16 : decode cX1_fall 16 = .ok (.getfield 13, 3) := by decide +kernel
theorem dX1_fall_19 : decode cX1_fall 19 = .ok (.iadd, 1) := by decide +kernel
theorem dX1_fall_20 : decode cX1_fall 20 = .ok (.aload_n 1, 1) := by decide +kernel
theorem dX1_fall_21 : decode cX1_fall 21 = .ok (.aload_n 0, 1) := by decide +kernel
theorem dX1_fall_22 : decode cX1_fall 22 = .ok (.invokevirtual 23, 3) := by decide +kernel
theorem dX1_fall_25 : decode cX1_fall 25 = .ok (.invokevirtual 32, 3) := by decide +kernel
theorem dX1_fall_28 : decode cX1_fall 28 = .ok (.iadd, 1) := by decide +kernel
theorem dX1_fall_29 : decode cX1_fall 29 = .ok (.ireturn, 1) := by decide +kernel
theorem dX2_init_0 : decode cX2_init 0 = .ok (.aload_n 0, 1) := by decide +kernel
theorem dX2_init_1 : decode cX2_init 1 = .ok (.invokespecial 1, 3) := by decide +kernel
theorem dX2_init_4 : decode cX2_init 4 = .ok (.aload_n 0, 1) := by decide +kernel
theorem dX2_init_5 : decode cX2_init 5 = .ok (.lconst 0, 1) := by decide +kernel
theorem dX2_init_6 : decode cX2_init 6 = .ok (.putfield 7, 3) := by decide +kernel
theorem dX2_init_9 : decode cX2_init 9 = .ok (.return_, 1) := by decide +kernel
theorem dX2_begin_0 : decode cX2_begin 0 = .ok (.aload_n 0, 1) := by decide +kernel
theorem dX2_begin_1 : decode cX2_begin 1 = .ok (.iload_n 1, 1) := by decide +kernel
theorem dX2_begin_2 : decode cX2_begin 2 = .ok (.i2l, 1) := by decide +kernel
theorem dX2_begin_3 : decode cX2_begin 3 = .ok (.putfield 7, 3) := by decide +kernel
theorem dX2_begin_6 : decode cX2_begin 6 = .ok (.return_, 1) := by decide +kernel
theorem dX2_next_0 : decode cX2_next 0 = .ok (.aload_n 0, 1) := by decide +kernel
theorem dX2_next_1 : decode cX2_next 1 = .ok (.ldc2_w 13, 3) := by decide +kernel
theorem dX2_next_4 : decode cX2_next 4 = .ok (.aload_n 0, 1) := by decide +kernel
theorem dX2_next_5 : decode cX2_next 5 = .ok (.getfield 7, 3) := by decide +kernel
theorem dX2_next_8 : decode cX2_next 8 = .ok (.lmul, 1) := by decide +kernel
theorem dX2_next_9 : decode cX2_next 9 = .ok (.ldc2_w 15, 3) := by decide +kernel
theorem dX2_next_12 : decode cX2_next 12 = .ok (.ladd, 1) := by decide +kernel
theorem dX2_next_13 : decode cX2_next 13 = .ok (.ldc2_w 17, 3) := by decide +kernel
theorem dX2_next_16 : decode cX2_next 16 = .ok (.lrem, 1) := by decide +kernel
theorem dX2_next_17 : decode cX2_next 17 = .ok (.putfield 7, 3) := by decide +kernel
theorem dX2_next_20 : decode cX2_next 20 = .ok (.iload_n 1, 1) := by decide +kernel
theorem dX2_next_21 : decode cX2_next 21 = .ok (.ifCond .le 18, 3) := by decide +kernel
theorem dX2_next_24 : decode cX2_next 24 = .ok (.aload_n 0, 1) := by decide +kernel
theorem dX2_next_25 : decode cX2_next 25 = .ok (.getfield 7, 3) := by decide +kernel
theorem dX2_next_28 : decode cX2_next 28 = .ok (.ldc2_w 19, 3) := by decide +kernel
theorem dX2_next_31 : decode cX2_next 31 = .ok (.ldiv, 1) := by decide +kernel
theorem dX2_next_32 : decode cX2_next 32 = .ok (.iload_n 1, 1) := by decide +kernel
theorem dX2_next_33 : decode cX2_next 33 = .ok (.i2l, 1) := by decide +kernel
theorem dX2_next_34 : decode cX2_next 34 = .ok (.lrem, 1) := by decide +kernel
theorem dX2_next_35 : decode cX2_next 35 = .ok (.l2i, 1) := by decide +kernel
theorem dX2_next_36 : decode cX2_next 36 = .ok (.goto 4, 3) := by decide +kernel
theorem dX2_next_39 : decode cX2_next 39 = .ok (.iconst 0, 1) := by decide +kernel
theorem dX2_next_40 : decode cX2_next 40 = .ok (.ireturn, 1) := by decide +kernel
theorem dX2_seedNow_0 : decode cX2_seedNow 0 = .ok (.aload_n 0, 1) := by decide +kernel
theorem dX2_seedNow_1 : decode cX2_seedNow 1 = .ok (.getfield 7, 3) := by decide +kernel
theorem dX2_seedNow_4 : decode cX2_seedNow 4 = .ok (.l2i, 1) := by decide +kernel
theorem dX2_seedNow_5 : decode cX2_seedNow 5 = .ok (.ireturn, 1) := by decide +kernel
set_option maxRecDepth 20000 in
theorem ggX3_init_X1_init : GoodIn wsX3_init wsX1_init := goodIn_r _ [4, 5, 6, 7, 8, 9, 10, 11, 12, 13, 14, 15, 16, 17, 18, 19, 20, 21, 22, 23, 24, 25] (by decide +kernel) (by decide +kernel)
set_option maxRecDepth 20000 in
theorem gX3_init_X1_init : GoodIn wsX3_init (wsX1_init) := ggX3_init_X1_init
theorem dX3_init_0 : decode cX3_init 0 = .ok (.aload_n 0, 1) := by decide +kernel
theorem dX3_init_1 : decode cX3_init 1 = .ok (.iload_n 1, 1) := by decide +kernel
theorem dX3_init_2 : decode cX3_init 2 = .ok (.iload_n 2, 1) := by decide +kernel
theorem dX3_init_3 : decode cX3_init 3 = .ok (.bipush 6, 2) := by decide +kernel
theorem dX3_init_5 : decode cX3_init 5 = .ok (.invokespecial 1, 3) := by decide +kernel
theorem dX3_init_8 : decode cX3_init 8 = .ok (.return_, 1) := by decide +kernel
set_option maxRecDepth 20000 in
theorem ggX4_init_X1_init : GoodIn wsX4_init wsX1_init := goodIn_r _ [4, 5, 6, 7, 8, 9, 10, 11, 12, 13, 14, 15, 16, 17, 18, 19, 20, 21, 22, 23, 24, 25] (by decide +kernel) (by decide +kernel)
set_option maxRecDepth 20000 in
theorem gX4_init_X1_init : GoodIn wsX4_init (wsX1_init) := ggX4_init_X1_init
theorem dX4_init_0 : decode cX4_init 0 = .ok (.aload_n 0, 1) := by decide +kernel
theorem dX4_init_1 : decode cX4_init 1 = .ok (.iconst 3, 1) := by decide +kernel
theorem dX4_init_2 : decode cX4_init 2 = .ok (.iconst 1, 1) := by decide +kernel
theorem dX4_init_3 : decode cX4_init 3 = .ok (.iconst 3, 1) := by decide +kernel
theorem dX4_init_4 : decode cX4_init 4 = .ok (.invokespecial 3, 3) := by decide +kernel
theorem dX4_init_7 : decode cX4_init 7 = .ok (.return_, 1) := by decide +kernel
theorem dX5_init_0 : decode cX5_init 0 = .ok (.aload_n 0, 1) := by decide +kernel
theorem dX5_init_1 : decode cX5_init 1 = .ok (.invokespecial 3, 3) := by decide +kernel
theorem dX5_init_4 : decode cX5_init 4 = .ok (.aload_n 0, 1) := by decide +kernel
theorem dX5_init_5 : decode cX5_init 5 = .ok (.iconst 3, 1) := by decide +kernel
theorem dX5_init_6 : decode cX5_init 6 = .ok (.newarray .int, 2) := by decide +kernel
theorem dX5_init_8 : decode cX5_init 8 = .ok (.putfield 9, 3) := by decide +kernel
theorem dX5_init_11 : decode cX5_init 11 = .ok (.aload_n 0, 1) := by decide +kernel
theorem dX5_init_12 : decode cX5_init 12 = .ok (.iconst 1, 1) := by decide +kernel
theorem dX5_init_13 : decode cX5_init 13 = .ok (.putfield 15, 3) := by decide +kernel
theorem dX5_init_16 : decode cX5_init 16 = .ok (.return_, 1) := by decide +kernel
set_option maxRecDepth 20000 in
theorem ggX5_reckon_X5_outcomeOf : GoodIn wsX5_reckon wsX5_outcomeOf := goodIn_r _ [6] (by decide +kernel) (by decide +kernel)
set_option maxRecDepth 20000 in
theorem gX5_reckon_X5_outcomeOf : GoodIn wsX5_reckon (va_wsS RX5 19 yX5_outcomeOf wsX5_outcomeOf) := goodIn_app (goodIn_of _ (by decide +kernel)) ggX5_reckon_X5_outcomeOf
set_option maxRecDepth 20000 in
theorem ggX5_reckon_X1_waysOf : GoodIn wsX5_reckon wsX1_waysOf := goodIn_r _ [12, 13, 14, 15, 16, 17, 55, 56, 57, 58, 59, 60, 61, 62, 63, 64, 65, 66, 67, 68, 69] (by decide +kernel) (by decide +kernel)
set_option maxRecDepth 20000 in
theorem gX5_reckon_X1_waysOf_u23X0 : GoodIn wsX5_reckon (va_wsU RX5 23 RX0 "KingdomAtDice$Dice" ⟨"KingdomAtDice$Dice", "waysOf", "(I)I"⟩ yX1_waysOf wsX1_waysOf) := goodIn_app (goodIn_of _ (by decide +kernel)) ggX5_reckon_X1_waysOf
set_option maxRecDepth 20000 in
theorem gX5_reckon_X1_waysOf : GoodIn wsX5_reckon (wsV RX5 23 RX1 yX1_waysOf wsX1_waysOf) := goodIn_app (goodIn_of _ (by decide +kernel)) ggX5_reckon_X1_waysOf
set_option maxRecDepth 20000 in
theorem gX5_reckon_X1_waysOf_u23X3 : GoodIn wsX5_reckon (va_wsU RX5 23 RX3 "KingdomAtDice$Dice" ⟨"KingdomAtDice$Dice", "waysOf", "(I)I"⟩ yX1_waysOf wsX1_waysOf) := goodIn_app (goodIn_of _ (by decide +kernel)) ggX5_reckon_X1_waysOf
set_option maxRecDepth 20000 in
theorem gX5_reckon_X1_waysOf_u23X4 : GoodIn wsX5_reckon (va_wsU RX5 23 RX4 "KingdomAtDice$Dice" ⟨"KingdomAtDice$Dice", "waysOf", "(I)I"⟩ yX1_waysOf wsX1_waysOf) := goodIn_app (goodIn_of _ (by decide +kernel)) ggX5_reckon_X1_waysOf
set_option maxRecDepth 20000 in
theorem ggX5_reckon_X9_waysOf : GoodIn wsX5_reckon wsX9_waysOf := goodIn_r _ [26, 15, 16, 17] (by decide +kernel) (by decide +kernel)
set_option maxRecDepth 20000 in
theorem gX5_reckon_X9_waysOf_u23X9 : GoodIn wsX5_reckon (va_wsO RX5 23 RX9 "KingdomAtDice$Dice" ⟨"KingdomAtDice$Dice", "waysOf", "(I)I"⟩ yX9_waysOf wsX9_waysOf) := goodIn_app (goodIn_of _ (by decide +kernel)) ggX5_reckon_X9_waysOf
set_option maxRecDepth 20000 in
theorem ggX5_reckon_X1_wayMany : GoodIn wsX5_reckon wsX1_wayMany := goodIn_r _ [31, 32, 33, 34, 35, 11, 36, 14, 13, 37, 38, 39, 40, 41, 55, 56, 57, 58, 59, 60, 61, 62, 63, 64, 65, 66, 67, 68, 69] (by decide +kernel) (by decide +kernel)
set_option maxRecDepth 20000 in
theorem gX5_reckon_X1_wayMany_u29X0 : GoodIn wsX5_reckon (va_wsU RX5 29 RX0 "KingdomAtDice$Dice" ⟨"KingdomAtDice$Dice", "wayMany", "()I"⟩ yX1_wayMany wsX1_wayMany) := goodIn_app (goodIn_of _ (by decide +kernel)) ggX5_reckon_X1_wayMany
set_option maxRecDepth 20000 in
theorem gX5_reckon_X1_wayMany : GoodIn wsX5_reckon (wsV RX5 29 RX1 yX1_wayMany wsX1_wayMany) := goodIn_app (goodIn_of _ (by decide +kernel)) ggX5_reckon_X1_wayMany
set_option maxRecDepth 20000 in
theorem gX5_reckon_X1_wayMany_u29X3 : GoodIn wsX5_reckon (va_wsU RX5 29 RX3 "KingdomAtDice$Dice" ⟨"KingdomAtDice$Dice", "wayMany", "()I"⟩ yX1_wayMany wsX1_wayMany) := goodIn_app (goodIn_of _ (by decide +kernel)) ggX5_reckon_X1_wayMany
set_option maxRecDepth 20000 in
theorem gX5_reckon_X1_wayMany_u29X4 : GoodIn wsX5_reckon (va_wsU RX5 29 RX4 "KingdomAtDice$Dice" ⟨"KingdomAtDice$Dice", "wayMany", "()I"⟩ yX1_wayMany wsX1_wayMany) := goodIn_app (goodIn_of _ (by decide +kernel)) ggX5_reckon_X1_wayMany
set_option maxRecDepth 20000 in
theorem ggX5_reckon_X9_wayMany : GoodIn wsX5_reckon wsX9_wayMany := goodIn_r _ [49, 50, 51, 52, 35, 11, 36, 14, 13, 55, 56, 57, 58, 59, 60, 61, 62, 63, 64, 65, 66, 67, 68, 69] (by decide +kernel) (by decide +kernel)
set_option maxRecDepth 20000 in
theorem gX5_reckon_X9_wayMany_u29X9 : GoodIn wsX5_reckon (va_wsO RX5 29 RX9 "KingdomAtDice$Dice" ⟨"KingdomAtDice$Dice", "wayMany", "()I"⟩ yX9_wayMany wsX9_wayMany) := goodIn_app (goodIn_of _ (by decide +kernel)) ggX5_reckon_X9_wayMany
theorem dX5_reckon_0 : decode cX5_reckon 0 = .ok (.iconst 0, 1) := by decide +kernel
theorem dX5_reckon_1 : decode cX5_reckon 1 = .ok (.istore_n 3, 1) := by decide +kernel
theorem dX5_reckon_2 : decode cX5_reckon 2 = .ok (.iload_n 3, 1) := by decide +kernel
theorem dX5_reckon_3 : decode cX5_reckon 3 = .ok (.aload_n 0, 1) := by decide +kernel
theorem dX5_reckon_4 : decode cX5_reckon 4 = .ok (.getfield 9, 3) := by decide +kernel
theorem dX5_reckon_7 : decode cX5_reckon 7 = .ok (.arraylength, 1) := by decide +kernel
theorem dX5_reckon_8 : decode cX5_reckon 8 = .ok (.if_icmp .ge 16, 3) := by decide +kernel
theorem dX5_reckon_11 : decode cX5_reckon 11 = .ok (.aload_n 0, 1) := by decide +kernel
theorem dX5_reckon_12 : decode cX5_reckon 12 = .ok (.getfield 9, 3) := by decide +kernel
theorem dX5_reckon_15 : decode cX5_reckon 15 = .ok (.iload_n 3, 1) := by decide +kernel
theorem dX5_reckon_16 : decode cX5_reckon 16 = .ok (.iconst 0, 1) := by decide +kernel
theorem dX5_reckon_17 : decode cX5_reckon 17 = .ok (.iastore, 1) := by decide +kernel
theorem dX5_reckon_18 : decode cX5_reckon 18 = .ok (.iinc 3 1, 3) := by decide +kernel
theorem dX5_reckon_21 : decode cX5_reckon 21 = .ok (.goto (-19), 3) := by decide +kernel
theorem dX5_reckon_24 : decode cX5_reckon 24 = .ok (.iconst 2, 1) := by decide +kernel
theorem dX5_reckon_25 : decode cX5_reckon 25 = .ok (.istore_n 3, 1) := by decide +kernel
theorem dX5_reckon_26 : decode cX5_reckon 26 = .ok (.iload_n 3, 1) := by decide +kernel
theorem dX5_reckon_27 : decode cX5_reckon 27 = .ok (.bipush 12, 2) := by decide +kernel
theorem dX5_reckon_29 : decode cX5_reckon 29 = .ok (.if_icmp .gt 51, 3) := by decide +kernel
theorem dX5_reckon_32 : decode cX5_reckon 32 = .ok (.iconst 2, 1) := by decide +kernel
theorem dX5_reckon_33 : decode cX5_reckon 33 = .ok (.istore 4, 2) := by decide +kernel
theorem dX5_reckon_35 : decode cX5_reckon 35 = .ok (.iload 4, 2) := by decide +kernel
theorem dX5_reckon_37 : decode cX5_reckon 37 = .ok (.bipush 12, 2) := by decide +kernel
theorem dX5_reckon_39 : decode cX5_reckon 39 = .ok (.if_icmp .gt 35, 3) := by decide +kernel
theorem dX5_reckon_42 : decode cX5_reckon 42 = .ok (.aload_n 0, 1) := by decide +kernel
theorem dX5_reckon_43 : decode cX5_reckon 43 = .ok (.getfield 9, 3) := by decide +kernel
theorem dX5_reckon_46 : decode cX5_reckon 46 = .ok (.iload_n 3, 1) := by decide +kernel
theorem dX5_reckon_47 : decode cX5_reckon 47 = .ok (.iload 4, 2) := by decide +kernel
theorem dX5_reckon_49 : decode cX5_reckon 49 = .ok (.invokestatic 19, 3) := by decide +kernel
theorem dX5_reckon_52 : decode cX5_reckon 52 = .ok (.dup2, 1) := by decide +kernel
theorem dX5_reckon_53 : decode cX5_reckon 53 = .ok (.iaload, 1) := by decide +kernel
theorem dX5_reckon_54 : decode cX5_reckon 54 = .ok (.aload_n 1, 1) := by decide +kernel
theorem dX5_reckon_55 : decode cX5_reckon 55 = .ok (.iload_n 3, 1) := by decide +kernel
theorem dX5_reckon_56 : decode cX5_reckon 56 = .ok (.invokevirtual 23, 3) := by decide +kernel
theorem dX5_reckon_59 : decode cX5_reckon 59 = .ok (.aload_n 2, 1) := by decide +kernel
theorem dX5_reckon_60 : decode cX5_reckon 60 = .ok (.iload 4, 2) := by decide +kernel
theorem dX5_reckon_62 : decode cX5_reckon 62 = .ok (.invokevirtual 23, 3) := by decide +kernel
theorem dX5_reckon_65 : decode cX5_reckon 65 = .ok (.imul, 1) := by decide +kernel
theorem dX5_reckon_66 : decode cX5_reckon 66 = .ok (.iadd, 1) := by decide +kernel
theorem dX5_reckon_67 : decode cX5_reckon 67 = .ok (.iastore, 1) := by decide +kernel
theorem dX5_reckon_68 : decode cX5_reckon 68 = .ok (.iinc 4 1, 3) := by decide +kernel
theorem dX5_reckon_71 : decode cX5_reckon 71 = .ok (.goto (-36), 3) := by decide +kernel
theorem dX5_reckon_74 : decode cX5_reckon 74 = .ok (.iinc 3 1, 3) := by decide +kernel
theorem dX5_reckon_77 : decode cX5_reckon 77 = .ok (.goto (-51), 3) := by decide +kernel
theorem dX5_reckon_80 : decode cX5_reckon 80 = .ok (.aload_n 0, 1) := by decide +kernel
theorem dX5_reckon_81 : decode cX5_reckon 81 = .ok (.aload_n 1, 1) := by decide +kernel
theorem dX5_reckon_82 : decode cX5_reckon 82 = .ok (.invokevirtual 29, 3) := by decide +kernel
theorem dX5_reckon_85 : decode cX5_reckon 85 = .ok (.aload_n 2, 1) := by decide +kernel
theorem dX5_reckon_86 : decode cX5_reckon 86 = .ok (.invokevirtual 29, 3) := by decide +kernel
theorem dX5_reckon_89 : decode cX5_reckon 89 = .ok (.imul, 1) := by decide +kernel
theorem dX5_reckon_90 : decode cX5_reckon 90 = .ok (.putfield 15, 3) := by decide +kernel
theorem dX5_reckon_93 : decode cX5_reckon 93 = .ok (.return_, 1) := by decide +kernel
theorem dX5_outcomeOf_0 : decode cX5_outcomeOf 0 = .ok (.iload_n 0, 1) := by decide +kernel
theorem dX5_outcomeOf_1 : decode cX5_outcomeOf 1 = .ok (.iload_n 1, 1) := by decide +kernel
theorem dX5_outcomeOf_2 : decode cX5_outcomeOf 2 = .ok (.if_icmp .ne 5, 3) := by decide +kernel
theorem dX5_outcomeOf_5 : decode cX5_outcomeOf 5 = .ok (.iconst 2, 1) := by decide +kernel
theorem dX5_outcomeOf_6 : decode cX5_outcomeOf 6 = .ok (.ireturn, 1) := by decide +kernel
theorem dX5_outcomeOf_7 : decode cX5_outcomeOf 7 = .ok (.iload_n 0, 1) := by decide +kernel
theorem dX5_outcomeOf_8 : decode cX5_outcomeOf 8 = .ok (.iload_n 1, 1) := by decide +kernel
theorem dX5_outcomeOf_9 : decode cX5_outcomeOf 9 = .ok (.if_icmp .le 7, 3) := by decide +kernel
theorem dX5_outcomeOf_12 : decode cX5_outcomeOf 12 = .ok (.iconst 0, 1) := by decide +kernel
theorem dX5_outcomeOf_13 : decode cX5_outcomeOf 13 = .ok (.goto 4, 3) := by decide +kernel
theorem dX5_outcomeOf_16 : decode cX5_outcomeOf 16 = .ok (.iconst 1, 1) := by decide +kernel
theorem dX5_outcomeOf_17 : decode cX5_outcomeOf 17 = .ok (.ireturn, 1) := by decide +kernel
set_option maxRecDepth 20000 in
theorem ggX5_waysTo_X10_isBelow : GoodIn wsX5_waysTo wsX10_isBelow := goodIn_r _ [4] (by decide +kernel) (by decide +kernel)
set_option maxRecDepth 20000 in
theorem gX5_waysTo_X10_isBelow_n33 : GoodIn wsX5_waysTo (wsX10_isBelow) := ggX5_waysTo_X10_isBelow
theorem dX5_waysTo_0 : decode cX5_waysTo 0 = .ok (.iload_n 1, 1) := by decide +kernel
theorem dX5_waysTo_1 : decode cX5_waysTo 1 = .ok (.aload_n 0, 1) := by decide +kernel
theorem dX5_waysTo_2 : decode cX5_waysTo 2 = .ok (.getfield 9, 3) := by decide +kernel
theorem dX5_waysTo_5 : decode cX5_waysTo 5 = .ok (.arraylength, 1) := by decide +kernel
theorem dX5_waysTo_6 : decode cX5_waysTo 6 = .ok (.invokestatic 33, 3) := by decide +kernel
theorem dX5_waysTo_9 : decode cX5_waysTo 9 = .ok (.ifCond .eq 12, 3) := by decide +kernel
theorem dX5_waysTo_12 : decode cX5_waysTo 12 = .ok (.aload_n 0, 1) := by decide +kernel
theorem dX5_waysTo_13 : decode cX5_waysTo 13 = .ok (.getfield 9, 3) := by decide +kernel
theorem dX5_waysTo_16 : decode cX5_waysTo 16 = .ok (.iload_n 1, 1) := by decide +kernel
theorem dX5_waysTo_17 : decode cX5_waysTo 17 = .ok (.iaload, 1) := by decide +kernel
theorem dX5_waysTo_18 : decode cX5_waysTo 18 = .ok (.goto 4, 3) := by decide +kernel
theorem dX5_waysTo_21 : decode cX5_waysTo 21 = .ok (.iconst 0, 1) := by decide +kernel
theorem dX5_waysTo_22 : decode cX5_waysTo 22 = .ok (.ireturn, 1) := by decide +kernel
theorem dX6_init_0 : decode cX6_init 0 = .ok (.aload_n 0, 1) := by decide +kernel
theorem dX6_init_1 : decode cX6_init 1 = .ok (.invokespecial 3, 3) := by decide +kernel
theorem dX6_init_4 : decode cX6_init 4 = .ok (.aload_n 0, 1) := by decide +kernel
theorem dX6_init_5 : decode cX6_init 5 = .ok (.bipush 22, 2) := by decide +kernel
theorem dX6_init_7 : decode cX6_init 7 = .ok (.newarray .int, 2) := by decide +kernel
theorem dX6_init_9 : decode cX6_init 9 = .ok (.putfield 9, 3) := by decide +kernel
theorem dX6_init_12 : decode cX6_init 12 = .ok (.aload_n 0, 1) := by decide +kernel
theorem dX6_init_13 : decode cX6_init 13 = .ok (.iconst 0, 1) := by decide +kernel
theorem dX6_init_14 : decode cX6_init 14 = .ok (.putfield 15, 3) := by decide +kernel
theorem dX6_init_17 : decode cX6_init 17 = .ok (.return_, 1) := by decide +kernel
theorem dX6_isFull_0 : decode cX6_isFull 0 = .ok (.aload_n 0, 1) := by decide +kernel
theorem dX6_isFull_1 : decode cX6_isFull 1 = .ok (.getfield 15, 3) := by decide +kernel
theorem dX6_isFull_4 : decode cX6_isFull 4 = .ok (.aload_n 0, 1) := by decide +kernel
theorem dX6_isFull_5 : decode cX6_isFull 5 = .ok (.getfield 9, 3) := by decide +kernel
theorem dX6_isFull_8 : decode cX6_isFull 8 = .ok (.arraylength, 1) := by decide +kernel
theorem dX6_isFull_9 : decode cX6_isFull 9 = .ok (.if_icmp .lt 7, 3) := by decide +kernel
theorem dX6_isFull_12 : decode cX6_isFull 12 = .ok (.iconst 1, 1) := by decide +kernel
theorem dX6_isFull_13 : decode cX6_isFull 13 = .ok (.goto 4, 3) := by decide +kernel
theorem dX6_isFull_16 : decode cX6_isFull 16 = .ok (.iconst 0, 1) := by decide +kernel
theorem dX6_isFull_17 : decode cX6_isFull 17 = .ok (.ireturn, 1) := by decide +kernel
set_option maxRecDepth 20000 in
theorem ggX6_push_X6_isFull : GoodIn wsX6_push wsX6_isFull := goodIn_r _ [7, 2, 1, 8, 9] (by decide +kernel) (by decide +kernel)
set_option maxRecDepth 20000 in
theorem gX6_push_X6_isFull : GoodIn wsX6_push (wsV RX6 19 RX6 yX6_isFull wsX6_isFull) := goodIn_app (goodIn_of _ (by decide +kernel)) ggX6_push_X6_isFull
theorem dX6_push_0 : decode cX6_push 0 = .ok (.aload_n 0, 1) := by decide +kernel
theorem dX6_push_1 : decode cX6_push 1 = .ok (.invokevirtual 19, 3) := by decide +kernel
theorem dX6_push_4 : decode cX6_push 4 = .ok (.ifCond .ne 23, 3) := by decide +kernel
theorem dX6_push_7 : decode cX6_push 7 = .ok (.aload_n 0, 1) := by decide +kernel
theorem dX6_push_8 : decode cX6_push 8 = .ok (.getfield 9, 3) := by decide +kernel
theorem dX6_push_11 : decode cX6_push 11 = .ok (.aload_n 0, 1) := by decide +kernel
theorem dX6_push_12 : decode cX6_push 12 = .ok (.getfield 15, 3) := by decide +kernel
theorem dX6_push_15 : decode cX6_push 15 = .ok (.iload_n 1, 1) := by decide +kernel
theorem dX6_push_16 : decode cX6_push 16 = .ok (.iastore, 1) := by decide +kernel
theorem dX6_push_17 : decode cX6_push 17 = .ok (.aload_n 0, 1) := by decide +kernel
theorem dX6_push_18 : decode cX6_push 18 = .ok (.dup, 1) := by decide +kernel
theorem dX6_push_19 : decode cX6_push 19 = .ok (.getfield 15, 3) := by decide +kernel
theorem dX6_push_22 : decode cX6_push 22 = .ok (.iconst 1, 1) := by decide +kernel
theorem dX6_push_23 : decode cX6_push 23 = .ok (.iadd, 1) := by decide +kernel
theorem dX6_push_24 : decode cX6_push 24 = .ok (.putfield 15, 3) := by decide +kernel
theorem dX6_push_27 : decode cX6_push 27 = .ok (.aload_n 0, 1) := by decide +kernel
theorem dX6_push_28 : decode cX6_push 28 = .ok (.getfield 15, 3) := by decide +kernel
theorem dX6_push_31 : decode cX6_push 31 = .ok (.ireturn, 1) := by decide +kernel
theorem dX6_clear_0 : decode cX6_clear 0 = .ok (.aload_n 0, 1) := by decide +kernel
theorem dX6_clear_1 : decode cX6_clear 1 = .ok (.getfield 15, 3) := by decide +kernel
theorem dX6_clear_4 : decode cX6_clear 4 = .ok (.istore_n 1, 1) := by decide +kernel
theorem dX6_clear_5 : decode cX6_clear 5 = .ok (.aload_n 0, 1) := by decide +kernel
theorem dX6_clear_6 : decode cX6_clear 6 = .ok (.iconst 0, 1) := by decide +kernel
theorem dX6_clear_7 : decode cX6_clear 7 = .ok (.putfield 15, 3) := by decide +kernel
theorem dX6_clear_10 : decode cX6_clear 10 = .ok (.iload_n 1, 1) := by decide +kernel
theorem dX6_clear_11 : decode cX6_clear 11 = .ok (.ireturn, 1) := by decide +kernel
set_option maxRecDepth 20000 in
theorem ggX6_codeAt_X10_isBelow : GoodIn wsX6_codeAt wsX10_isBelow := goodIn_r _ [5] (by decide +kernel) (by decide +kernel)
set_option maxRecDepth 20000 in
theorem gX6_codeAt_X10_isBelow_n23 : GoodIn wsX6_codeAt (wsX10_isBelow) := ggX6_codeAt_X10_isBelow
theorem dX6_codeAt_0 : decode cX6_codeAt 0 = .ok (.iload_n 1, 1) := by decide +kernel
theorem dX6_codeAt_1 : decode cX6_codeAt 1 = .ok (.aload_n 0, 1) := by decide +kernel
theorem dX6_codeAt_2 : decode cX6_codeAt 2 = .ok (.getfield 15, 3) := by decide +kernel
theorem dX6_codeAt_5 : decode cX6_codeAt 5 = .ok (.invokestatic 23, 3) := by decide +kernel
theorem dX6_codeAt_8 : decode cX6_codeAt 8 = .ok (.ifCond .eq 12, 3) := by decide +kernel
theorem dX6_codeAt_11 : decode cX6_codeAt 11 = .ok (.aload_n 0, 1) := by decide +kernel
theorem dX6_codeAt_12 : decode cX6_codeAt 12 = .ok (.getfield 9, 3) := by decide +kernel
theorem dX6_codeAt_15 : decode cX6_codeAt 15 = .ok (.iload_n 1, 1) := by decide +kernel
theorem dX6_codeAt_16 : decode cX6_codeAt 16 = .ok (.iaload, 1) := by decide +kernel
theorem dX6_codeAt_17 : decode cX6_codeAt 17 = .ok (.goto 4, 3) := by decide +kernel
theorem dX6_codeAt_20 : decode cX6_codeAt 20 = .ok (.iconst 0, 1) := by decide +kernel
theorem dX6_codeAt_21 : decode cX6_codeAt 21 = .ok (.ireturn, 1) := by decide +kernel
set_option maxRecDepth 20000 in
theorem ggX6_faultPlace_X6_codeAt : GoodIn wsX6_faultPlace wsX6_codeAt := goodIn_r _ [6, 1, 7, 8, 9, 10, 106, 107] (by decide +kernel) (by decide +kernel)
set_option maxRecDepth 20000 in
theorem gX6_faultPlace_X6_codeAt : GoodIn wsX6_faultPlace (wsV RX6 27 RX6 yX6_codeAt wsX6_codeAt) := goodIn_app (goodIn_of _ (by decide +kernel)) ggX6_faultPlace_X6_codeAt
set_option maxRecDepth 20000 in
theorem ggX6_faultPlace_X6_fitsBehind : GoodIn wsX6_faultPlace wsX6_fitsBehind := goodIn_r _ [13, 14, 15, 16, 17, 18, 19, 20, 21, 22, 23, 24, 25, 26, 27, 28, 29, 30, 31, 32, 33, 34, 35, 36, 37, 38, 39, 40, 41, 42, 43, 44, 45, 46, 47, 48, 49, 50, 51, 52, 53, 54, 55, 56, 57, 58, 59, 60, 61, 62, 63, 64, 65, 66, 67, 68, 69, 70, 71, 72, 73, 74, 75, 76, 77, 78, 79, 80, 81, 82, 83, 84, 85, 86, 87, 88, 89, 90, 91, 92, 93, 94, 95, 96, 97, 98, 99, 100, 101, 102] (by decide +kernel) (by decide +kernel)
set_option maxRecDepth 20000 in
theorem gX6_faultPlace_X6_fitsBehind : GoodIn wsX6_faultPlace (va_wsS RX6 31 yX6_fitsBehind wsX6_fitsBehind) := goodIn_app (goodIn_of _ (by decide +kernel)) ggX6_faultPlace_X6_fitsBehind
set_option maxRecDepth 20000 in
theorem ggX6_faultPlace_X6_fitsThings : GoodIn wsX6_faultPlace wsX6_fitsThings := goodIn_r _ [105, 14, 15, 16, 17, 18, 19, 20, 21, 22, 23, 24, 25, 26, 27, 28, 29, 30, 31, 32, 33, 34, 35, 36, 37, 38, 39, 40, 41, 42, 43, 44, 45, 46, 47, 48, 49, 50, 51, 52, 53, 54, 55, 56, 57, 58, 59, 60, 61, 62, 63, 64, 65, 66, 67, 68, 69, 70, 71, 72, 73, 74, 75, 76, 77, 78, 79, 80, 81, 82, 83, 84, 85, 86, 87, 88, 89, 90, 91, 92, 93, 94, 95, 96, 97, 98, 99, 100, 101, 102] (by decide +kernel) (by decide +kernel)
set_option maxRecDepth 20000 in
theorem gX6_faultPlace_X6_fitsThings : GoodIn wsX6_faultPlace (va_wsS RX6 34 yX6_fitsThings wsX6_fitsThings) := goodIn_app (goodIn_of _ (by decide +kernel)) ggX6_faultPlace_X6_fitsThings
theorem dX6_faultPlace_0 : decode cX6_faultPlace 0 = .ok (.iconst 0, 1) := by decide +kernel
theorem dX6_faultPlace_1 : decode cX6_faultPlace 1 = .ok (.istore_n 1, 1) := by decide +kernel
theorem dX6_faultPlace_2 : decode cX6_faultPlace 2 = .ok (.iconst (-1), 1) := by decide +kernel
theorem dX6_faultPlace_3 : decode cX6_faultPlace 3 = .ok (.istore_n 2, 1) := by decide +kernel
theorem dX6_faultPlace_4 : decode cX6_faultPlace 4 = .ok (.iconst 0, 1) := by decide +kernel
theorem dX6_faultPlace_5 : decode cX6_faultPlace 5 = .ok (.istore_n 3, 1) := by decide +kernel
theorem dX6_faultPlace_6 : decode cX6_faultPlace 6 = .ok (.iload_n 3, 1) := by decide +kernel
theorem dX6_faultPlace_7 : decode cX6_faultPlace 7 = .ok (.aload_n 0, 1) := by decide +kernel
theorem dX6_faultPlace_8 : decode cX6_faultPlace 8 = .ok (.getfield 15, 3) := by decide +kernel
theorem dX6_faultPlace_11 : decode cX6_faultPlace 11 = .ok (.if_icmp .ge 65, 3) := by decide +kernel
theorem dX6_faultPlace_14 : decode cX6_faultPlace 14 = .ok (.aload_n 0, 1) := by decide +kernel
theorem dX6_faultPlace_15 : decode cX6_faultPlace 15 = .ok (.iload_n 3, 1) := by decide +kernel
theorem dX6_faultPlace_16 : decode cX6_faultPlace 16 = .ok (.invokevirtual 27, 3) := by decide +kernel
theorem dX6_faultPlace_19 : decode cX6_faultPlace 19 = .ok (.istore 4, 2) := by decide +kernel
theorem dX6_faultPlace_21 : decode cX6_faultPlace 21 = .ok (.iload_n 2, 1) := by decide +kernel
theorem dX6_faultPlace_22 : decode cX6_faultPlace 22 = .ok (.iconst (-1), 1) := by decide +kernel
theorem dX6_faultPlace_23 : decode cX6_faultPlace 23 = .ok (.if_icmp .eq 17, 3) := by decide +kernel
theorem dX6_faultPlace_26 : decode cX6_faultPlace 26 = .ok (.iload_n 3, 1) := by decide +kernel
theorem dX6_faultPlace_27 : decode cX6_faultPlace 27 = .ok (.iload_n 2, 1) := by decide +kernel
theorem dX6_faultPlace_28 : decode cX6_faultPlace 28 = .ok (.isub, 1) := by decide +kernel
theorem dX6_faultPlace_29 : decode cX6_faultPlace 29 = .ok (.iload 4, 2) := by decide +kernel
theorem dX6_faultPlace_31 : decode cX6_faultPlace 31 = .ok (.invokestatic 31, 3) := by decide +kernel
theorem dX6_faultPlace_34 : decode cX6_faultPlace 34 = .ok (.ifCond .ne 18, 3) := by decide +kernel
theorem dX6_faultPlace_37 : decode cX6_faultPlace 37 = .ok (.goto 13, 3) := by decide +kernel
theorem dX6_faultPlace_40 : decode cX6_faultPlace 40 = .ok (.iload_n 3, 1) := by decide +kernel
theorem dX6_faultPlace_41 : decode cX6_faultPlace 41 = .ok (.iload 4, 2) := by decide +kernel
theorem dX6_faultPlace_43 : decode cX6_faultPlace 43 = .ok (.iload_n 1, 1) := by decide +kernel
theorem dX6_faultPlace_44 : decode cX6_faultPlace 44 = .ok (.invokestatic 34, 3) := by decide +kernel
theorem dX6_faultPlace_47 : decode cX6_faultPlace 47 = .ok (.ifCond .ne 5, 3) := by decide +kernel
theorem dX6_faultPlace_50 : decode cX6_faultPlace 50 = .ok (.iload_n 3, 1) := by decide +kernel
theorem dX6_faultPlace_51 : decode cX6_faultPlace 51 = .ok (.ireturn, 1) := by decide +kernel
theorem dX6_faultPlace_52 : decode cX6_faultPlace 52 = .ok (.iload 4, 2) := by decide +kernel
theorem dX6_faultPlace_54 : decode cX6_faultPlace 54 = .ok (.bipush 115, 2) := by decide +kernel
theorem dX6_faultPlace_56 : decode cX6_faultPlace 56 = .ok (.if_icmp .ne 5, 3) := by decide +kernel
theorem dX6_faultPlace_59 : decode cX6_faultPlace 59 = .ok (.iconst 1, 1) := by decide +kernel
theorem dX6_faultPlace_60 : decode cX6_faultPlace 60 = .ok (.istore_n 1, 1) := by decide +kernel
theorem dX6_faultPlace_61 : decode cX6_faultPlace 61 = .ok (.iload 4, 2) := by decide +kernel
theorem dX6_faultPlace_63 : decode cX6_faultPlace 63 = .ok (.bipush 59, 2) := by decide +kernel
theorem dX6_faultPlace_65 : decode cX6_faultPlace 65 = .ok (.if_icmp .ne 5, 3) := by decide +kernel
theorem dX6_faultPlace_68 : decode cX6_faultPlace 68 = .ok (.iload_n 3, 1) := by decide +kernel
theorem dX6_faultPlace_69 : decode cX6_faultPlace 69 = .ok (.istore_n 2, 1) := by decide +kernel
theorem dX6_faultPlace_70 : decode cX6_faultPlace 70 = .ok (.iinc 3 1, 3) := by decide +kernel
theorem dX6_faultPlace_73 : decode cX6_faultPlace 73 = .ok (.goto (-67), 3) := by decide +kernel
theorem dX6_faultPlace_76 : decode cX6_faultPlace 76 = .ok (.aload_n 0, 1) := by decide +kernel
theorem dX6_faultPlace_77 : decode cX6_faultPlace 77 = .ok (.getfield 15, 3) := by decide +kernel
theorem dX6_faultPlace_80 : decode cX6_faultPlace 80 = .ok (.ireturn, 1) := by decide +kernel
set_option maxRecDepth 20000 in
theorem ggX6_fitsThings_J0_indexOf_0f7a4 : GoodIn wsX6_fitsThings wsJ0_indexOf_0f7a4 := goodIn_r _ [5, 6, 7, 8, 4, 9, 10, 11, 12, 13, 14, 15, 16, 17, 18, 19, 20, 21, 22, 23, 24, 25, 26, 27, 28, 29, 30, 31, 32, 33, 34, 35, 36, 37, 38, 39, 40, 41, 42, 43, 44, 45, 46, 47, 48, 49, 50, 51, 52, 53, 54, 55, 56, 57, 58, 59, 60, 61, 62, 63, 64, 65, 66, 67, 68, 69, 70, 71, 72, 73, 74, 75, 76, 77, 78, 79, 80, 81, 82, 83, 84, 85, 86, 87, 88, 89] (by decide +kernel) (by decide +kernel)
set_option maxRecDepth 20000 in
theorem gX6_fitsThings_J0_indexOf_0f7a4 : GoodIn wsX6_fitsThings (wsV RX6 40 RJ0 yJ0_indexOf_0f7a4 wsJ0_indexOf_0f7a4) := goodIn_app (goodIn_of _ (by decide +kernel)) ggX6_fitsThings_J0_indexOf_0f7a4
theorem dX6_fitsThings_0 : decode cX6_fitsThings 0 = .ok (.iload_n 0, 1) := by decide +kernel
theorem dX6_fitsThings_1 : decode cX6_fitsThings 1 = .ok (.iconst 3, 1) := by decide +kernel
theorem dX6_fitsThings_2 : decode cX6_fitsThings 2 = .ok (.idiv, 1) := by decide +kernel
theorem dX6_fitsThings_3 : decode cX6_fitsThings 3 = .ok (.iconst 1, 1) := by decide +kernel
theorem dX6_fitsThings_4 : decode cX6_fitsThings 4 = .ok (.iadd, 1) := by decide +kernel
theorem dX6_fitsThings_5 : decode cX6_fitsThings 5 = .ok (.istore_n 3, 1) := by decide +kernel
theorem dX6_fitsThings_6 : decode cX6_fitsThings 6 = .ok (.iload_n 0, 1) := by decide +kernel
theorem dX6_fitsThings_7 : decode cX6_fitsThings 7 = .ok (.iconst 3, 1) := by decide +kernel
theorem dX6_fitsThings_8 : decode cX6_fitsThings 8 = .ok (.irem, 1) := by decide +kernel
theorem dX6_fitsThings_9 : decode cX6_fitsThings 9 = .ok (.lookupswitch 71 #[(0, 27), (1, 53)], 27) := by decide +kernel
theorem dX6_fitsThings_36 : decode cX6_fitsThings 36 = .ok (.ldc 38, 2) := by decide +kernel
theorem dX6_fitsThings_38 : decode cX6_fitsThings 38 = .ok (.iload_n 1, 1) := by decide +kernel
theorem dX6_fitsThings_39 : decode cX6_fitsThings 39 = .ok (.i2c, 1) := by decide +kernel
theorem dX6_fitsThings_40 : decode cX6_fitsThings 40 = .ok (.invokevirtual 40, 3) := by decide +kernel
theorem dX6_fitsThings_43 : decode cX6_fitsThings 43 = .ok (.ifCond .lt 17, 3) := by decide +kernel
theorem dX6_fitsThings_46 : decode cX6_fitsThings 46 = .ok (.iload_n 1, 1) := by decide +kernel
theorem dX6_fitsThings_47 : decode cX6_fitsThings 47 = .ok (.bipush 115, 2) := by decide +kernel
theorem dX6_fitsThings_49 : decode cX6_fitsThings 49 = .ok (.if_icmp .ne 7, 3) := by decide +kernel
theorem dX6_fitsThings_52 : decode cX6_fitsThings 52 = .ok (.iload_n 2, 1) := by decide +kernel
theorem dX6_fitsThings_53 : decode cX6_fitsThings 53 = .ok (.ifCond .ne 7, 3) := by decide +kernel
theorem dX6_fitsThings_56 : decode cX6_fitsThings 56 = .ok (.iconst 1, 1) := by decide +kernel
theorem dX6_fitsThings_57 : decode cX6_fitsThings 57 = .ok (.goto 4, 3) := by decide +kernel
theorem dX6_fitsThings_60 : decode cX6_fitsThings 60 = .ok (.iconst 0, 1) := by decide +kernel
theorem dX6_fitsThings_61 : decode cX6_fitsThings 61 = .ok (.ireturn, 1) := by decide +kernel
theorem dX6_fitsThings_62 : decode cX6_fitsThings 62 = .ok (.iload_n 1, 1) := by decide +kernel
theorem dX6_fitsThings_63 : decode cX6_fitsThings 63 = .ok (.bipush 49, 2) := by decide +kernel
theorem dX6_fitsThings_65 : decode cX6_fitsThings 65 = .ok (.if_icmp .lt 13, 3) := by decide +kernel
theorem dX6_fitsThings_68 : decode cX6_fitsThings 68 = .ok (.iload_n 1, 1) := by decide +kernel
theorem dX6_fitsThings_69 : decode cX6_fitsThings 69 = .ok (.bipush 57, 2) := by decide +kernel
theorem dX6_fitsThings_71 : decode cX6_fitsThings 71 = .ok (.if_icmp .gt 7, 3) := by decide +kernel
theorem dX6_fitsThings_74 : decode cX6_fitsThings 74 = .ok (.iconst 1, 1) := by decide +kernel
theorem dX6_fitsThings_75 : decode cX6_fitsThings 75 = .ok (.goto 4, 3) := by decide +kernel
theorem dX6_fitsThings_78 : decode cX6_fitsThings 78 = .ok (.iconst 0, 1) := by decide +kernel
theorem dX6_fitsThings_79 : decode cX6_fitsThings 79 = .ok (.ireturn, 1) := by decide +kernel
theorem dX6_fitsThings_80 : decode cX6_fitsThings 80 = .ok (.iload_n 1, 1) := by decide +kernel
theorem dX6_fitsThings_81 : decode cX6_fitsThings 81 = .ok (.bipush 44, 2) := by decide +kernel
theorem dX6_fitsThings_83 : decode cX6_fitsThings 83 = .ok (.if_icmp .ne 9, 3) := by decide +kernel
theorem dX6_fitsThings_86 : decode cX6_fitsThings 86 = .ok (.iload_n 3, 1) := by decide +kernel
theorem dX6_fitsThings_87 : decode cX6_fitsThings 87 = .ok (.bipush 6, 2) := by decide +kernel
theorem dX6_fitsThings_89 : decode cX6_fitsThings 89 = .ok (.if_icmp .lt 14, 3) := by decide +kernel
theorem dX6_fitsThings_92 : decode cX6_fitsThings 92 = .ok (.iload_n 1, 1) := by decide +kernel
theorem dX6_fitsThings_93 : decode cX6_fitsThings 93 = .ok (.bipush 59, 2) := by decide +kernel
theorem dX6_fitsThings_95 : decode cX6_fitsThings 95 = .ok (.if_icmp .ne 12, 3) := by decide +kernel
theorem dX6_fitsThings_98 : decode cX6_fitsThings 98 = .ok (.iload_n 3, 1) := by decide +kernel
theorem dX6_fitsThings_99 : decode cX6_fitsThings 99 = .ok (.iconst 2, 1) := by decide +kernel
theorem dX6_fitsThings_100 : decode cX6_fitsThings 100 = .ok (.if_icmp .lt 7, 3) := by decide +kernel
theorem dX6_fitsThings_103 : decode cX6_fitsThings 103 = .ok (.iconst 1, 1) := by decide +kernel
theorem dX6_fitsThings_104 : decode cX6_fitsThings 104 = .ok (.goto 4, 3) := by decide +kernel
theorem dX6_fitsThings_107 : decode cX6_fitsThings 107 = .ok (.iconst 0, 1) := by decide +kernel
theorem dX6_fitsThings_108 : decode cX6_fitsThings 108 = .ok (.ireturn, 1) := by decide +kernel
set_option maxRecDepth 20000 in
theorem ggX6_fitsBehind_J0_indexOf_0f7a4 : GoodIn wsX6_fitsBehind wsJ0_indexOf_0f7a4 := goodIn_r _ [5, 6, 7, 8, 4, 9, 10, 11, 12, 13, 14, 15, 16, 17, 18, 19, 20, 21, 22, 23, 24, 25, 26, 27, 28, 29, 30, 31, 32, 33, 34, 35, 36, 37, 38, 39, 40, 41, 42, 43, 44, 45, 46, 47, 48, 49, 50, 51, 52, 53, 54, 55, 56, 57, 58, 59, 60, 61, 62, 63, 64, 65, 66, 67, 68, 69, 70, 71, 72, 73, 74, 75, 76, 77, 78, 79, 80, 81, 82, 83, 84, 85, 86, 87, 88, 89] (by decide +kernel) (by decide +kernel)
set_option maxRecDepth 20000 in
theorem gX6_fitsBehind_J0_indexOf_0f7a4 : GoodIn wsX6_fitsBehind (wsV RX6 40 RJ0 yJ0_indexOf_0f7a4 wsJ0_indexOf_0f7a4) := goodIn_app (goodIn_of _ (by decide +kernel)) ggX6_fitsBehind_J0_indexOf_0f7a4
theorem dX6_fitsBehind_0 : decode cX6_fitsBehind 0 = .ok (.iload_n 0, 1) := by decide +kernel
theorem dX6_fitsBehind_1 : decode cX6_fitsBehind 1 = .ok (.iconst 2, 1) := by decide +kernel
theorem dX6_fitsBehind_2 : decode cX6_fitsBehind 2 = .ok (.if_icmp .gt 17, 3) := by decide +kernel
theorem dX6_fitsBehind_5 : decode cX6_fitsBehind 5 = .ok (.ldc 45, 2) := by decide +kernel
theorem dX6_fitsBehind_7 : decode cX6_fitsBehind 7 = .ok (.iload_n 1, 1) := by decide +kernel
theorem dX6_fitsBehind_8 : decode cX6_fitsBehind 8 = .ok (.i2c, 1) := by decide +kernel
theorem dX6_fitsBehind_9 : decode cX6_fitsBehind 9 = .ok (.invokevirtual 40, 3) := by decide +kernel
theorem dX6_fitsBehind_12 : decode cX6_fitsBehind 12 = .ok (.ifCond .lt 7, 3) := by decide +kernel
theorem dX6_fitsBehind_15 : decode cX6_fitsBehind 15 = .ok (.iconst 1, 1) := by decide +kernel
theorem dX6_fitsBehind_16 : decode cX6_fitsBehind 16 = .ok (.goto 4, 3) := by decide +kernel
theorem dX6_fitsBehind_19 : decode cX6_fitsBehind 19 = .ok (.iconst 0, 1) := by decide +kernel
theorem dX6_fitsBehind_20 : decode cX6_fitsBehind 20 = .ok (.ireturn, 1) := by decide +kernel
set_option maxRecDepth 20000 in
theorem ggX6_isHall_X6_codeAt : GoodIn wsX6_isHall wsX6_codeAt := goodIn_r _ [6, 1, 7, 8, 9, 10, 110, 111] (by decide +kernel) (by decide +kernel)
set_option maxRecDepth 20000 in
theorem gX6_isHall_X6_codeAt : GoodIn wsX6_isHall (wsV RX6 27 RX6 yX6_codeAt wsX6_codeAt) := goodIn_app (goodIn_of _ (by decide +kernel)) ggX6_isHall_X6_codeAt
set_option maxRecDepth 20000 in
theorem ggX6_isHall_X6_faultPlace : GoodIn wsX6_isHall wsX6_faultPlace := goodIn_r _ [14, 1, 2, 3, 4, 5, 6, 7, 8, 9, 10, 15, 16, 17, 18, 19, 20, 21, 22, 23, 24, 25, 26, 27, 28, 29, 30, 31, 32, 33, 34, 35, 36, 37, 38, 39, 40, 41, 42, 43, 44, 45, 46, 47, 48, 49, 50, 51, 52, 53, 54, 55, 56, 57, 58, 59, 60, 61, 62, 63, 64, 65, 66, 67, 68, 69, 70, 71, 72, 73, 74, 75, 76, 77, 78, 79, 80, 81, 82, 83, 84, 85, 86, 87, 88, 89, 90, 91, 92, 93, 94, 95, 96, 97, 98, 99, 100, 101, 102, 103, 104, 105, 106, 107, 108, 109, 110, 111] (by decide +kernel) (by decide +kernel)
set_option maxRecDepth 20000 in
theorem gX6_isHall_X6_faultPlace : GoodIn wsX6_isHall (wsV RX6 47 RX6 yX6_faultPlace wsX6_faultPlace) := goodIn_app (goodIn_of _ (by decide +kernel)) ggX6_isHall_X6_faultPlace
theorem dX6_isHall_0 : decode cX6_isHall 0 = .ok (.aload_n 0, 1) := by decide +kernel
theorem dX6_isHall_1 : decode cX6_isHall 1 = .ok (.aload_n 0, 1) := by decide +kernel
theorem dX6_isHall_2 : decode cX6_isHall 2 = .ok (.getfield 15, 3) := by decide +kernel
theorem dX6_isHall_5 : decode cX6_isHall 5 = .ok (.iconst 3, 1) := by decide +kernel
theorem dX6_isHall_6 : decode cX6_isHall 6 = .ok (.isub, 1) := by decide +kernel
theorem dX6_isHall_7 : decode cX6_isHall 7 = .ok (.invokevirtual 27, 3) := by decide +kernel
theorem dX6_isHall_10 : decode cX6_isHall 10 = .ok (.bipush 59, 2) := by decide +kernel
theorem dX6_isHall_12 : decode cX6_isHall 12 = .ok (.if_icmp .ne 18, 3) := by decide +kernel
theorem dX6_isHall_15 : decode cX6_isHall 15 = .ok (.aload_n 0, 1) := by decide +kernel
theorem dX6_isHall_16 : decode cX6_isHall 16 = .ok (.invokevirtual 47, 3) := by decide +kernel
theorem dX6_isHall_19 : decode cX6_isHall 19 = .ok (.aload_n 0, 1) := by decide +kernel
theorem dX6_isHall_20 : decode cX6_isHall 20 = .ok (.getfield 15, 3) := by decide +kernel
theorem dX6_isHall_23 : decode cX6_isHall 23 = .ok (.if_icmp .ne 7, 3) := by decide +kernel
theorem dX6_isHall_26 : decode cX6_isHall 26 = .ok (.iconst 1, 1) := by decide +kernel
theorem dX6_isHall_27 : decode cX6_isHall 27 = .ok (.goto 4, 3) := by decide +kernel
theorem dX6_isHall_30 : decode cX6_isHall 30 = .ok (.iconst 0, 1) := by decide +kernel
theorem dX6_isHall_31 : decode cX6_isHall 31 = .ok (.ireturn, 1) := by decide +kernel
theorem dX6_hallThings_0 : decode cX6_hallThings 0 = .ok (.aload_n 0, 1) := by decide +kernel
theorem dX6_hallThings_1 : decode cX6_hallThings 1 = .ok (.getfield 15, 3) := by decide +kernel
theorem dX6_hallThings_4 : decode cX6_hallThings 4 = .ok (.iconst 2, 1) := by decide +kernel
theorem dX6_hallThings_5 : decode cX6_hallThings 5 = .ok (.isub, 1) := by decide +kernel
theorem dX6_hallThings_6 : decode cX6_hallThings 6 = .ok (.iconst 3, 1) := by decide +kernel
theorem dX6_hallThings_7 : decode cX6_hallThings 7 = .ok (.idiv, 1) := by decide +kernel
theorem dX6_hallThings_8 : decode cX6_hallThings 8 = .ok (.ireturn, 1) := by decide +kernel
set_option maxRecDepth 20000 in
theorem ggX6_hallSort_X6_codeAt : GoodIn wsX6_hallSort wsX6_codeAt := goodIn_r _ [5, 6, 7, 8, 9, 10, 100, 101] (by decide +kernel) (by decide +kernel)
set_option maxRecDepth 20000 in
theorem gX6_hallSort_X6_codeAt : GoodIn wsX6_hallSort (wsV RX6 27 RX6 yX6_codeAt wsX6_codeAt) := goodIn_app (goodIn_of _ (by decide +kernel)) ggX6_hallSort_X6_codeAt
set_option maxRecDepth 20000 in
theorem ggX6_hallSort_J0_indexOf_0f7a4 : GoodIn wsX6_hallSort wsJ0_indexOf_0f7a4 := goodIn_r _ [15, 16, 17, 18, 14, 19, 20, 21, 22, 23, 24, 25, 26, 27, 28, 29, 30, 31, 32, 33, 34, 35, 36, 37, 38, 39, 40, 41, 42, 43, 44, 45, 46, 47, 48, 49, 50, 51, 52, 53, 54, 55, 56, 57, 58, 59, 60, 61, 62, 63, 64, 65, 66, 67, 68, 69, 70, 71, 72, 73, 74, 75, 76, 77, 78, 79, 80, 81, 82, 83, 84, 85, 86, 87, 88, 89, 90, 91, 92, 93, 94, 95, 96, 97, 98, 99] (by decide +kernel) (by decide +kernel)
set_option maxRecDepth 20000 in
theorem gX6_hallSort_J0_indexOf_0f7a4 : GoodIn wsX6_hallSort (wsV RX6 40 RJ0 yJ0_indexOf_0f7a4 wsJ0_indexOf_0f7a4) := goodIn_app (goodIn_of _ (by decide +kernel)) ggX6_hallSort_J0_indexOf_0f7a4
theorem dX6_hallSort_0 : decode cX6_hallSort 0 = .ok (.ldc 38, 2) := by decide +kernel
theorem dX6_hallSort_2 : decode cX6_hallSort 2 = .ok (.aload_n 0, 1) := by decide +kernel
theorem dX6_hallSort_3 : decode cX6_hallSort 3 = .ok (.iconst 3, 1) := by decide +kernel
theorem dX6_hallSort_4 : decode cX6_hallSort 4 = .ok (.iload_n 1, 1) := by decide +kernel
theorem dX6_hallSort_5 : decode cX6_hallSort 5 = .ok (.imul, 1) := by decide +kernel
theorem dX6_hallSort_6 : decode cX6_hallSort 6 = .ok (.invokevirtual 27, 3) := by decide +kernel
theorem dX6_hallSort_9 : decode cX6_hallSort 9 = .ok (.i2c, 1) := by decide +kernel
theorem dX6_hallSort_10 : decode cX6_hallSort 10 = .ok (.invokevirtual 40, 3) := by decide +kernel
theorem dX6_hallSort_13 : decode cX6_hallSort 13 = .ok (.ireturn, 1) := by decide +kernel
set_option maxRecDepth 20000 in
theorem ggX6_hallWorth_X6_codeAt : GoodIn wsX6_hallWorth wsX6_codeAt := goodIn_r _ [5, 6, 7, 8, 9, 10, 11, 12] (by decide +kernel) (by decide +kernel)
set_option maxRecDepth 20000 in
theorem gX6_hallWorth_X6_codeAt : GoodIn wsX6_hallWorth (wsV RX6 27 RX6 yX6_codeAt wsX6_codeAt) := goodIn_app (goodIn_of _ (by decide +kernel)) ggX6_hallWorth_X6_codeAt
theorem dX6_hallWorth_0 : decode cX6_hallWorth 0 = .ok (.aload_n 0, 1) := by decide +kernel
theorem dX6_hallWorth_1 : decode cX6_hallWorth 1 = .ok (.iconst 3, 1) := by decide +kernel
theorem dX6_hallWorth_2 : decode cX6_hallWorth 2 = .ok (.iload_n 1, 1) := by decide +kernel
theorem dX6_hallWorth_3 : decode cX6_hallWorth 3 = .ok (.imul, 1) := by decide +kernel
theorem dX6_hallWorth_4 : decode cX6_hallWorth 4 = .ok (.iconst 1, 1) := by decide +kernel
theorem dX6_hallWorth_5 : decode cX6_hallWorth 5 = .ok (.iadd, 1) := by decide +kernel
theorem dX6_hallWorth_6 : decode cX6_hallWorth 6 = .ok (.invokevirtual 27, 3) := by decide +kernel
theorem dX6_hallWorth_9 : decode cX6_hallWorth 9 = .ok (.bipush 48, 2) := by decide +kernel
theorem dX6_hallWorth_11 : decode cX6_hallWorth 11 = .ok (.isub, 1) := by decide +kernel
theorem dX6_hallWorth_12 : decode cX6_hallWorth 12 = .ok (.ireturn, 1) := by decide +kernel
set_option maxRecDepth 20000 in
theorem ggX6_kingKindCode_X6_codeAt : GoodIn wsX6_kingKindCode wsX6_codeAt := goodIn_r _ [6, 1, 7, 8, 9, 10, 11, 12] (by decide +kernel) (by decide +kernel)
set_option maxRecDepth 20000 in
theorem gX6_kingKindCode_X6_codeAt : GoodIn wsX6_kingKindCode (wsV RX6 27 RX6 yX6_codeAt wsX6_codeAt) := goodIn_app (goodIn_of _ (by decide +kernel)) ggX6_kingKindCode_X6_codeAt
theorem dX6_kingKindCode_0 : decode cX6_kingKindCode 0 = .ok (.aload_n 0, 1) := by decide +kernel
theorem dX6_kingKindCode_1 : decode cX6_kingKindCode 1 = .ok (.aload_n 0, 1) := by decide +kernel
theorem dX6_kingKindCode_2 : decode cX6_kingKindCode 2 = .ok (.getfield 15, 3) := by decide +kernel
theorem dX6_kingKindCode_5 : decode cX6_kingKindCode 5 = .ok (.iconst 2, 1) := by decide +kernel
theorem dX6_kingKindCode_6 : decode cX6_kingKindCode 6 = .ok (.isub, 1) := by decide +kernel
theorem dX6_kingKindCode_7 : decode cX6_kingKindCode 7 = .ok (.invokevirtual 27, 3) := by decide +kernel
theorem dX6_kingKindCode_10 : decode cX6_kingKindCode 10 = .ok (.ireturn, 1) := by decide +kernel
set_option maxRecDepth 20000 in
theorem ggX6_cousinKindCode_X6_codeAt : GoodIn wsX6_cousinKindCode wsX6_codeAt := goodIn_r _ [6, 1, 7, 8, 9, 10, 11, 12] (by decide +kernel) (by decide +kernel)
set_option maxRecDepth 20000 in
theorem gX6_cousinKindCode_X6_codeAt : GoodIn wsX6_cousinKindCode (wsV RX6 27 RX6 yX6_codeAt wsX6_codeAt) := goodIn_app (goodIn_of _ (by decide +kernel)) ggX6_cousinKindCode_X6_codeAt
theorem dX6_cousinKindCode_0 : decode cX6_cousinKindCode 0 = .ok (.aload_n 0, 1) := by decide +kernel
theorem dX6_cousinKindCode_1 : decode cX6_cousinKindCode 1 = .ok (.aload_n 0, 1) := by decide +kernel
theorem dX6_cousinKindCode_2 : decode cX6_cousinKindCode 2 = .ok (.getfield 15, 3) := by decide +kernel
theorem dX6_cousinKindCode_5 : decode cX6_cousinKindCode 5 = .ok (.iconst 1, 1) := by decide +kernel
theorem dX6_cousinKindCode_6 : decode cX6_cousinKindCode 6 = .ok (.isub, 1) := by decide +kernel
theorem dX6_cousinKindCode_7 : decode cX6_cousinKindCode 7 = .ok (.invokevirtual 27, 3) := by decide +kernel
theorem dX6_cousinKindCode_10 : decode cX6_cousinKindCode 10 = .ok (.ireturn, 1) := by decide +kernel
set_option maxRecDepth 20000 in
theorem ggX7_init_X8_init : GoodIn wsX7_init wsX8_init := goodIn_r _ [15, 16, 2, 3, 17, 18, 19, 20, 21, 22, 29, 30, 31, 32, 33, 34] (by decide +kernel) (by decide +kernel)
set_option maxRecDepth 20000 in
theorem gX7_init_X8_init_n17 : GoodIn wsX7_init (wsX8_init) := ggX7_init_X8_init
theorem dX7_init_0 : decode cX7_init 0 = .ok (.aload_n 0, 1) := by decide +kernel
theorem dX7_init_1 : decode cX7_init 1 = .ok (.invokespecial 3, 3) := by decide +kernel
theorem dX7_init_4 : decode cX7_init 4 = .ok (.aload_n 0, 1) := by decide +kernel
theorem dX7_init_5 : decode cX7_init 5 = .ok (.bipush 6, 2) := by decide +kernel
theorem dX7_init_7 : decode cX7_init 7 = .ok (.anewarray 9, 3) := by decide +kernel
theorem dX7_init_10 : decode cX7_init 10 = .ok (.putfield 11, 3) := by decide +kernel
theorem dX7_init_13 : decode cX7_init 13 = .ok (.iconst 0, 1) := by decide +kernel
theorem dX7_init_14 : decode cX7_init 14 = .ok (.istore_n 1, 1) := by decide +kernel
theorem dX7_init_15 : decode cX7_init 15 = .ok (.iload_n 1, 1) := by decide +kernel
theorem dX7_init_16 : decode cX7_init 16 = .ok (.aload_n 0, 1) := by decide +kernel
theorem dX7_init_17 : decode cX7_init 17 = .ok (.getfield 11, 3) := by decide +kernel
theorem dX7_init_20 : decode cX7_init 20 = .ok (.arraylength, 1) := by decide +kernel
theorem dX7_init_21 : decode cX7_init 21 = .ok (.if_icmp .ge 22, 3) := by decide +kernel
theorem dX7_init_24 : decode cX7_init 24 = .ok (.aload_n 0, 1) := by decide +kernel
theorem dX7_init_25 : decode cX7_init 25 = .ok (.getfield 11, 3) := by decide +kernel
theorem dX7_init_28 : decode cX7_init 28 = .ok (.iload_n 1, 1) := by decide +kernel
theorem dX7_init_29 : decode cX7_init 29 = .ok (.new 9, 3) := by decide +kernel
theorem dX7_init_32 : decode cX7_init 32 = .ok (.dup, 1) := by decide +kernel
theorem dX7_init_33 : decode cX7_init 33 = .ok (.invokespecial 17, 3) := by decide +kernel
theorem dX7_init_36 : decode cX7_init 36 = .ok (.aastore, 1) := by decide +kernel
theorem dX7_init_37 : decode cX7_init 37 = .ok (.iinc 1 1, 3) := by decide +kernel
theorem dX7_init_40 : decode cX7_init 40 = .ok (.goto (-25), 3) := by decide +kernel
theorem dX7_init_43 : decode cX7_init 43 = .ok (.aload_n 0, 1) := by decide +kernel
theorem dX7_init_44 : decode cX7_init 44 = .ok (.bipush 8, 2) := by decide +kernel
theorem dX7_init_46 : decode cX7_init 46 = .ok (.newarray .int, 2) := by decide +kernel
theorem dX7_init_48 : decode cX7_init 48 = .ok (.putfield 18, 3) := by decide +kernel
theorem dX7_init_51 : decode cX7_init 51 = .ok (.aload_n 0, 1) := by decide +kernel
theorem dX7_init_52 : decode cX7_init 52 = .ok (.iconst 0, 1) := by decide +kernel
theorem dX7_init_53 : decode cX7_init 53 = .ok (.putfield 22, 3) := by decide +kernel
theorem dX7_init_56 : decode cX7_init 56 = .ok (.aload_n 0, 1) := by decide +kernel
theorem dX7_init_57 : decode cX7_init 57 = .ok (.iconst 0, 1) := by decide +kernel
theorem dX7_init_58 : decode cX7_init 58 = .ok (.putfield 26, 3) := by decide +kernel
theorem dX7_init_61 : decode cX7_init 61 = .ok (.aload_n 0, 1) := by decide +kernel
theorem dX7_init_62 : decode cX7_init 62 = .ok (.iconst 0, 1) := by decide +kernel
theorem dX7_init_63 : decode cX7_init 63 = .ok (.putfield 29, 3) := by decide +kernel
theorem dX7_init_66 : decode cX7_init 66 = .ok (.aload_n 0, 1) := by decide +kernel
theorem dX7_init_67 : decode cX7_init 67 = .ok (.iconst 0, 1) := by decide +kernel
theorem dX7_init_68 : decode cX7_init 68 = .ok (.putfield 32, 3) := by decide +kernel
theorem dX7_init_71 : decode cX7_init 71 = .ok (.return_, 1) := by decide +kernel
set_option maxRecDepth 20000 in
theorem ggX7_begin_X6_hallThings : GoodIn wsX7_begin wsX6_hallThings := goodIn_r _ [13, 14, 131, 132] (by decide +kernel) (by decide +kernel)
set_option maxRecDepth 20000 in
theorem gX7_begin_X6_hallThings_n35 : GoodIn wsX7_begin (wsX6_hallThings) := ggX7_begin_X6_hallThings
set_option maxRecDepth 20000 in
theorem ggX7_begin_X6_hallSort : GoodIn wsX7_begin wsX6_hallSort := goodIn_r _ [17, 18, 19, 20, 11, 21, 14, 22, 23, 24, 25, 26, 27, 28, 29, 30, 31, 32, 33, 34, 35, 36, 37, 38, 39, 40, 41, 42, 43, 44, 45, 46, 47, 48, 49, 50, 51, 52, 53, 54, 55, 4, 56, 57, 3, 5, 58, 59, 60, 61, 62, 63, 64, 65, 66, 67, 68, 69, 70, 71, 72, 73, 74, 75, 76, 77, 78, 79, 80, 81, 82, 83, 84, 85, 86, 87, 88, 89, 90, 91, 92, 93, 94, 95, 96, 97, 98, 99, 100, 101, 102, 103, 104, 105, 106, 107, 108, 109, 110, 111, 131, 132] (by decide +kernel) (by decide +kernel)
set_option maxRecDepth 20000 in
theorem gX7_begin_X6_hallSort_n47 : GoodIn wsX7_begin (wsX6_hallSort) := ggX7_begin_X6_hallSort
set_option maxRecDepth 20000 in
theorem ggX7_begin_X6_hallWorth : GoodIn wsX7_begin wsX6_hallWorth := goodIn_r _ [114, 18, 19, 20, 11, 21, 14, 22, 23, 24, 25, 131, 132] (by decide +kernel) (by decide +kernel)
set_option maxRecDepth 20000 in
theorem gX7_begin_X6_hallWorth_n51 : GoodIn wsX7_begin (wsX6_hallWorth) := ggX7_begin_X6_hallWorth
set_option maxRecDepth 20000 in
theorem ggX7_begin_X8_begin : GoodIn wsX7_begin wsX8_begin := goodIn_r _ [118, 119, 120, 121, 122, 123, 124, 133, 134, 135, 136, 137, 138] (by decide +kernel) (by decide +kernel)
set_option maxRecDepth 20000 in
theorem gX7_begin_X8_begin_n54 : GoodIn wsX7_begin (wsX8_begin) := ggX7_begin_X8_begin
theorem dX7_begin_0 : decode cX7_begin 0 = .ok (.aload_n 0, 1) := by decide +kernel
theorem dX7_begin_1 : decode cX7_begin 1 = .ok (.aload_n 1, 1) := by decide +kernel
theorem dX7_begin_2 : decode cX7_begin 2 = .ok (.invokevirtual 35, 3) := by decide +kernel
theorem dX7_begin_5 : decode cX7_begin 5 = .ok (.aload_n 0, 1) := by decide +kernel
theorem dX7_begin_6 : decode cX7_begin 6 = .ok (.getfield 11, 3) := by decide +kernel
theorem dX7_begin_9 : decode cX7_begin 9 = .ok (.arraylength, 1) := by decide +kernel
theorem dX7_begin_10 : decode cX7_begin 10 = .ok (.invokestatic 41, 3) := by decide +kernel
theorem dX7_begin_13 : decode cX7_begin 13 = .ok (.putfield 22, 3) := by decide +kernel
theorem dX7_begin_16 : decode cX7_begin 16 = .ok (.iconst 0, 1) := by decide +kernel
theorem dX7_begin_17 : decode cX7_begin 17 = .ok (.istore_n 2, 1) := by decide +kernel
theorem dX7_begin_18 : decode cX7_begin 18 = .ok (.iload_n 2, 1) := by decide +kernel
theorem dX7_begin_19 : decode cX7_begin 19 = .ok (.aload_n 0, 1) := by decide +kernel
theorem dX7_begin_20 : decode cX7_begin 20 = .ok (.getfield 22, 3) := by decide +kernel
theorem dX7_begin_23 : decode cX7_begin 23 = .ok (.if_icmp .ge 28, 3) := by decide +kernel
theorem dX7_begin_26 : decode cX7_begin 26 = .ok (.aload_n 0, 1) := by decide +kernel
theorem dX7_begin_27 : decode cX7_begin 27 = .ok (.getfield 11, 3) := by decide +kernel
theorem dX7_begin_30 : decode cX7_begin 30 = .ok (.iload_n 2, 1) := by decide +kernel
theorem dX7_begin_31 : decode cX7_begin 31 = .ok (.aaload, 1) := by decide +kernel
theorem dX7_begin_32 : decode cX7_begin 32 = .ok (.aload_n 1, 1) := by decide +kernel
theorem dX7_begin_33 : decode cX7_begin 33 = .ok (.iload_n 2, 1) := by decide +kernel
theorem dX7_begin_34 : decode cX7_begin 34 = .ok (.invokevirtual 47, 3) := by decide +kernel
theorem dX7_begin_37 : decode cX7_begin 37 = .ok (.aload_n 1, 1) := by decide +kernel
theorem dX7_begin_38 : decode cX7_begin 38 = .ok (.iload_n 2, 1) := by decide +kernel
theorem dX7_begin_39 : decode cX7_begin 39 = .ok (.invokevirtual 51, 3) := by decide +kernel
theorem dX7_begin_42 : decode cX7_begin 42 = .ok (.invokevirtual 54, 3) := by decide +kernel
theorem dX7_begin_45 : decode cX7_begin 45 = .ok (.iinc 2 1, 3) := by decide +kernel
theorem dX7_begin_48 : decode cX7_begin 48 = .ok (.goto (-30), 3) := by decide +kernel
theorem dX7_begin_51 : decode cX7_begin 51 = .ok (.aload_n 0, 1) := by decide +kernel
theorem dX7_begin_52 : decode cX7_begin 52 = .ok (.iconst 0, 1) := by decide +kernel
theorem dX7_begin_53 : decode cX7_begin 53 = .ok (.putfield 26, 3) := by decide +kernel
theorem dX7_begin_56 : decode cX7_begin 56 = .ok (.aload_n 0, 1) := by decide +kernel
theorem dX7_begin_57 : decode cX7_begin 57 = .ok (.iconst 0, 1) := by decide +kernel
theorem dX7_begin_58 : decode cX7_begin 58 = .ok (.putfield 29, 3) := by decide +kernel
theorem dX7_begin_61 : decode cX7_begin 61 = .ok (.aload_n 0, 1) := by decide +kernel
theorem dX7_begin_62 : decode cX7_begin 62 = .ok (.iconst 0, 1) := by decide +kernel
theorem dX7_begin_63 : decode cX7_begin 63 = .ok (.putfield 32, 3) := by decide +kernel
theorem dX7_begin_66 : decode cX7_begin 66 = .ok (.return_, 1) := by decide +kernel
set_option maxRecDepth 20000 in
theorem ggX7_copy_X8_copy : GoodIn wsX7_copy wsX8_copy := goodIn_r _ [10, 11, 12, 13, 14, 15, 16, 23, 24, 25, 26, 27, 28] (by decide +kernel) (by decide +kernel)
set_option maxRecDepth 20000 in
theorem gX7_copy_X8_copy_n58 : GoodIn wsX7_copy (wsX8_copy) := ggX7_copy_X8_copy
theorem dX7_copy_0 : decode cX7_copy 0 = .ok (.iconst 0, 1) := by decide +kernel
theorem dX7_copy_1 : decode cX7_copy 1 = .ok (.istore_n 2, 1) := by decide +kernel
theorem dX7_copy_2 : decode cX7_copy 2 = .ok (.iload_n 2, 1) := by decide +kernel
theorem dX7_copy_3 : decode cX7_copy 3 = .ok (.aload_n 0, 1) := by decide +kernel
theorem dX7_copy_4 : decode cX7_copy 4 = .ok (.getfield 11, 3) := by decide +kernel
theorem dX7_copy_7 : decode cX7_copy 7 = .ok (.arraylength, 1) := by decide +kernel
theorem dX7_copy_8 : decode cX7_copy 8 = .ok (.if_icmp .ge 24, 3) := by decide +kernel
theorem dX7_copy_11 : decode cX7_copy 11 = .ok (.aload_n 0, 1) := by decide +kernel
theorem dX7_copy_12 : decode cX7_copy 12 = .ok (.getfield 11, 3) := by decide +kernel
theorem dX7_copy_15 : decode cX7_copy 15 = .ok (.iload_n 2, 1) := by decide +kernel
theorem dX7_copy_16 : decode cX7_copy 16 = .ok (.aaload, 1) := by decide +kernel
theorem dX7_copy_17 : decode cX7_copy 17 = .ok (.aload_n 1, 1) := by decide +kernel
theorem dX7_copy_18 : decode cX7_copy 18 = .ok (.getfield 11, 3) := by decide +kernel
theorem dX7_copy_21 : decode cX7_copy 21 = .ok (.iload_n 2, 1) := by decide +kernel
theorem dX7_copy_22 : decode cX7_copy 22 = .ok (.aaload, 1) := by decide +kernel
theorem dX7_copy_23 : decode cX7_copy 23 = .ok (.invokevirtual 58, 3) := by decide +kernel
theorem dX7_copy_26 : decode cX7_copy 26 = .ok (.iinc 2 1, 3) := by decide +kernel
theorem dX7_copy_29 : decode cX7_copy 29 = .ok (.goto (-27), 3) := by decide +kernel
theorem dX7_copy_32 : decode cX7_copy 32 = .ok (.iconst 0, 1) := by decide +kernel
theorem dX7_copy_33 : decode cX7_copy 33 = .ok (.istore_n 2, 1) := by decide +kernel
theorem dX7_copy_34 : decode cX7_copy 34 = .ok (.iload_n 2, 1) := by decide +kernel
theorem dX7_copy_35 : decode cX7_copy 35 = .ok (.aload_n 0, 1) := by decide +kernel
theorem dX7_copy_36 : decode cX7_copy 36 = .ok (.getfield 18, 3) := by decide +kernel
theorem dX7_copy_39 : decode cX7_copy 39 = .ok (.arraylength, 1) := by decide +kernel
theorem dX7_copy_40 : decode cX7_copy 40 = .ok (.if_icmp .ge 21, 3) := by decide +kernel
theorem dX7_copy_43 : decode cX7_copy 43 = .ok (.aload_n 0, 1) := by decide +kernel
theorem dX7_copy_44 : decode cX7_copy 44 = .ok (.getfield 18, 3) := by decide +kernel
theorem dX7_copy_47 : decode cX7_copy 47 = .ok (.iload_n 2, 1) := by decide +kernel
theorem dX7_copy_48 : decode cX7_copy 48 = .ok (.aload_n 1, 1) := by decide +kernel
theorem dX7_copy_49 : decode cX7_copy 49 = .ok (.getfield 18, 3) := by decide +kernel
theorem dX7_copy_52 : decode cX7_copy 52 = .ok (.iload_n 2, 1) := by decide +kernel
theorem dX7_copy_53 : decode cX7_copy 53 = .ok (.iaload, 1) := by decide +kernel
theorem dX7_copy_54 : decode cX7_copy 54 = .ok (.iastore, 1) := by decide +kernel
theorem dX7_copy_55 : decode cX7_copy 55 = .ok (.iinc 2 1, 3) := by decide +kernel
theorem dX7_copy_58 : decode cX7_copy 58 = .ok (.goto (-24), 3) := by decide +kernel
theorem dX7_copy_61 : decode cX7_copy 61 = .ok (.aload_n 0, 1) := by decide +kernel
theorem dX7_copy_62 : decode cX7_copy 62 = .ok (.aload_n 1, 1) := by decide +kernel
theorem dX7_copy_63 : decode cX7_copy 63 = .ok (.getfield 22, 3) := by decide +kernel
theorem dX7_copy_66 : decode cX7_copy 66 = .ok (.putfield 22, 3) := by decide +kernel
theorem dX7_copy_69 : decode cX7_copy 69 = .ok (.aload_n 0, 1) := by decide +kernel
theorem dX7_copy_70 : decode cX7_copy 70 = .ok (.aload_n 1, 1) := by decide +kernel
theorem dX7_copy_71 : decode cX7_copy 71 = .ok (.getfield 26, 3) := by decide +kernel
theorem dX7_copy_74 : decode cX7_copy 74 = .ok (.putfield 26, 3) := by decide +kernel
theorem dX7_copy_77 : decode cX7_copy 77 = .ok (.aload_n 0, 1) := by decide +kernel
theorem dX7_copy_78 : decode cX7_copy 78 = .ok (.aload_n 1, 1) := by decide +kernel
theorem dX7_copy_79 : decode cX7_copy 79 = .ok (.getfield 29, 3) := by decide +kernel
theorem dX7_copy_82 : decode cX7_copy 82 = .ok (.putfield 29, 3) := by decide +kernel
theorem dX7_copy_85 : decode cX7_copy 85 = .ok (.aload_n 0, 1) := by decide +kernel
theorem dX7_copy_86 : decode cX7_copy 86 = .ok (.aload_n 1, 1) := by decide +kernel
theorem dX7_copy_87 : decode cX7_copy 87 = .ok (.getfield 32, 3) := by decide +kernel
theorem dX7_copy_90 : decode cX7_copy 90 = .ok (.putfield 32, 3) := by decide +kernel
theorem dX7_copy_93 : decode cX7_copy 93 = .ok (.return_, 1) := by decide +kernel
theorem dX7_hasHall_0 : decode cX7_hasHall 0 = .ok (.aload_n 0, 1) := by decide +kernel
theorem dX7_hasHall_1 : decode cX7_hasHall 1 = .ok (.getfield 22, 3) := by decide +kernel
theorem dX7_hasHall_4 : decode cX7_hasHall 4 = .ok (.ifCond .le 7, 3) := by decide +kernel
theorem dX7_hasHall_7 : decode cX7_hasHall 7 = .ok (.iconst 1, 1) := by decide +kernel
theorem dX7_hasHall_8 : decode cX7_hasHall 8 = .ok (.goto 4, 3) := by decide +kernel
theorem dX7_hasHall_11 : decode cX7_hasHall 11 = .ok (.iconst 0, 1) := by decide +kernel
theorem dX7_hasHall_12 : decode cX7_hasHall 12 = .ok (.ireturn, 1) := by decide +kernel
set_option maxRecDepth 20000 in
theorem ggX7_has_X10_isBelow : GoodIn wsX7_has wsX10_isBelow := goodIn_r _ [4] (by decide +kernel) (by decide +kernel)
set_option maxRecDepth 20000 in
theorem gX7_has_X10_isBelow_n62 : GoodIn wsX7_has (wsX10_isBelow) := ggX7_has_X10_isBelow
theorem dX7_has_0 : decode cX7_has 0 = .ok (.iload_n 1, 1) := by decide +kernel
theorem dX7_has_1 : decode cX7_has 1 = .ok (.aload_n 0, 1) := by decide +kernel
theorem dX7_has_2 : decode cX7_has 2 = .ok (.getfield 22, 3) := by decide +kernel
theorem dX7_has_5 : decode cX7_has 5 = .ok (.invokestatic 62, 3) := by decide +kernel
theorem dX7_has_8 : decode cX7_has 8 = .ok (.ireturn, 1) := by decide +kernel
set_option maxRecDepth 20000 in
theorem ggX7_mayStake_X7_has : GoodIn wsX7_mayStake wsX7_has := goodIn_r _ [6, 7, 8, 9, 10, 11, 12, 13, 14, 15, 16] (by decide +kernel) (by decide +kernel)
set_option maxRecDepth 20000 in
theorem gX7_mayStake_X7_has : GoodIn wsX7_mayStake (wsV RX7 66 RX7 yX7_has wsX7_has) := goodIn_app (goodIn_of _ (by decide +kernel)) ggX7_mayStake_X7_has
theorem dX7_mayStake_0 : decode cX7_mayStake 0 = .ok (.aload_n 0, 1) := by decide +kernel
theorem dX7_mayStake_1 : decode cX7_mayStake 1 = .ok (.iload_n 1, 1) := by decide +kernel
theorem dX7_mayStake_2 : decode cX7_mayStake 2 = .ok (.invokevirtual 66, 3) := by decide +kernel
theorem dX7_mayStake_5 : decode cX7_mayStake 5 = .ok (.ifCond .eq 15, 3) := by decide +kernel
theorem dX7_mayStake_8 : decode cX7_mayStake 8 = .ok (.aload_n 0, 1) := by decide +kernel
theorem dX7_mayStake_9 : decode cX7_mayStake 9 = .ok (.getfield 11, 3) := by decide +kernel
theorem dX7_mayStake_12 : decode cX7_mayStake 12 = .ok (.iload_n 1, 1) := by decide +kernel
theorem dX7_mayStake_13 : decode cX7_mayStake 13 = .ok (.aaload, 1) := by decide +kernel
theorem dX7_mayStake_14 : decode cX7_mayStake 14 = .ok (.getfield 70, 3) := by decide +kernel
theorem dX7_mayStake_17 : decode cX7_mayStake 17 = .ok (.ifCond .ne 5, 3) := by decide +kernel
theorem dX7_mayStake_20 : decode cX7_mayStake 20 = .ok (.iconst 0, 1) := by decide +kernel
theorem dX7_mayStake_21 : decode cX7_mayStake 21 = .ok (.ireturn, 1) := by decide +kernel
theorem dX7_mayStake_22 : decode cX7_mayStake 22 = .ok (.aload_n 0, 1) := by decide +kernel
theorem dX7_mayStake_23 : decode cX7_mayStake 23 = .ok (.iload_n 2, 1) := by decide +kernel
theorem dX7_mayStake_24 : decode cX7_mayStake 24 = .ok (.invokevirtual 66, 3) := by decide +kernel
theorem dX7_mayStake_27 : decode cX7_mayStake 27 = .ok (.ifCond .ne 14, 3) := by decide +kernel
theorem dX7_mayStake_30 : decode cX7_mayStake 30 = .ok (.iload_n 2, 1) := by decide +kernel
theorem dX7_mayStake_31 : decode cX7_mayStake 31 = .ok (.iconst (-1), 1) := by decide +kernel
theorem dX7_mayStake_32 : decode cX7_mayStake 32 = .ok (.if_icmp .ne 7, 3) := by decide +kernel
theorem dX7_mayStake_35 : decode cX7_mayStake 35 = .ok (.iconst 1, 1) := by decide +kernel
theorem dX7_mayStake_36 : decode cX7_mayStake 36 = .ok (.goto 4, 3) := by decide +kernel
theorem dX7_mayStake_39 : decode cX7_mayStake 39 = .ok (.iconst 0, 1) := by decide +kernel
theorem dX7_mayStake_40 : decode cX7_mayStake 40 = .ok (.ireturn, 1) := by decide +kernel
theorem dX7_mayStake_41 : decode cX7_mayStake 41 = .ok (.aload_n 0, 1) := by decide +kernel
theorem dX7_mayStake_42 : decode cX7_mayStake 42 = .ok (.getfield 11, 3) := by decide +kernel
theorem dX7_mayStake_45 : decode cX7_mayStake 45 = .ok (.iload_n 2, 1) := by decide +kernel
theorem dX7_mayStake_46 : decode cX7_mayStake 46 = .ok (.aaload, 1) := by decide +kernel
theorem dX7_mayStake_47 : decode cX7_mayStake 47 = .ok (.getfield 70, 3) := by decide +kernel
theorem dX7_mayStake_50 : decode cX7_mayStake 50 = .ok (.ifCond .ne 28, 3) := by decide +kernel
theorem dX7_mayStake_53 : decode cX7_mayStake 53 = .ok (.aload_n 0, 1) := by decide +kernel
theorem dX7_mayStake_54 : decode cX7_mayStake 54 = .ok (.getfield 11, 3) := by decide +kernel
theorem dX7_mayStake_57 : decode cX7_mayStake 57 = .ok (.iload_n 2, 1) := by decide +kernel
theorem dX7_mayStake_58 : decode cX7_mayStake 58 = .ok (.aaload, 1) := by decide +kernel
theorem dX7_mayStake_59 : decode cX7_mayStake 59 = .ok (.getfield 74, 3) := by decide +kernel
theorem dX7_mayStake_62 : decode cX7_mayStake 62 = .ok (.aload_n 0, 1) := by decide +kernel
theorem dX7_mayStake_63 : decode cX7_mayStake 63 = .ok (.getfield 11, 3) := by decide +kernel
theorem dX7_mayStake_66 : decode cX7_mayStake 66 = .ok (.iload_n 1, 1) := by decide +kernel
theorem dX7_mayStake_67 : decode cX7_mayStake 67 = .ok (.aaload, 1) := by decide +kernel
theorem dX7_mayStake_68 : decode cX7_mayStake 68 = .ok (.getfield 74, 3) := by decide +kernel
theorem dX7_mayStake_71 : decode cX7_mayStake 71 = .ok (.if_icmp .gt 7, 3) := by decide +kernel
theorem dX7_mayStake_74 : decode cX7_mayStake 74 = .ok (.iconst 1, 1) := by decide +kernel
theorem dX7_mayStake_75 : decode cX7_mayStake 75 = .ok (.goto 4, 3) := by decide +kernel
theorem dX7_mayStake_78 : decode cX7_mayStake 78 = .ok (.iconst 0, 1) := by decide +kernel
theorem dX7_mayStake_79 : decode cX7_mayStake 79 = .ok (.ireturn, 1) := by decide +kernel
set_option maxRecDepth 20000 in
theorem ggX7_settle_X7_mayStake : GoodIn wsX7_settle wsX7_mayStake := goodIn_r _ [8, 2, 9, 10, 11, 7, 12, 13, 14, 15, 16, 32, 33, 34, 35, 36, 37, 38, 39, 40, 41, 42, 43] (by decide +kernel) (by decide +kernel)
set_option maxRecDepth 20000 in
theorem gX7_settle_X7_mayStake : GoodIn wsX7_settle (wsV RX7 77 RX7 yX7_mayStake wsX7_mayStake) := goodIn_app (goodIn_of _ (by decide +kernel)) ggX7_settle_X7_mayStake
set_option maxRecDepth 20000 in
theorem ggX7_settle_X7_isSelfKings : GoodIn wsX7_settle wsX7_isSelfKings := goodIn_r _ [20, 13, 2, 32, 33, 34, 35, 36, 37, 38, 39, 40, 41, 42, 43] (by decide +kernel) (by decide +kernel)
set_option maxRecDepth 20000 in
theorem gX7_settle_X7_isSelfKings : GoodIn wsX7_settle (wsV RX7 80 RX7 yX7_isSelfKings wsX7_isSelfKings) := goodIn_app (goodIn_of _ (by decide +kernel)) ggX7_settle_X7_isSelfKings
set_option maxRecDepth 20000 in
theorem ggX7_settle_X8_lose : GoodIn wsX7_settle wsX8_lose := goodIn_r _ [24, 25, 26, 27, 28, 38, 39, 40, 41, 42, 43] (by decide +kernel) (by decide +kernel)
set_option maxRecDepth 20000 in
theorem gX7_settle_X8_lose_n84 : GoodIn wsX7_settle (wsX8_lose) := ggX7_settle_X8_lose
set_option maxRecDepth 20000 in
theorem ggX7_settle_X7_has : GoodIn wsX7_settle wsX7_has := goodIn_r _ [12, 13, 14, 15, 16, 32, 33, 34, 35, 36, 37] (by decide +kernel) (by decide +kernel)
set_option maxRecDepth 20000 in
theorem gX7_settle_X7_has : GoodIn wsX7_settle (wsV RX7 66 RX7 yX7_has wsX7_has) := goodIn_app (goodIn_of _ (by decide +kernel)) ggX7_settle_X7_has
set_option maxRecDepth 20000 in
theorem ggX7_settle_X8_comeBack : GoodIn wsX7_settle wsX8_comeBack := goodIn_r _ [31, 25, 28, 38, 39, 40, 41, 42, 43] (by decide +kernel) (by decide +kernel)
set_option maxRecDepth 20000 in
theorem gX7_settle_X8_comeBack_n88 : GoodIn wsX7_settle (wsX8_comeBack) := ggX7_settle_X8_comeBack
theorem dX7_settle_0 : decode cX7_settle 0 = .ok (.aload_n 0, 1) := by decide +kernel
theorem dX7_settle_1 : decode cX7_settle 1 = .ok (.iload_n 1, 1) := by decide +kernel
theorem dX7_settle_2 : decode cX7_settle 2 = .ok (.iload_n 2, 1) := by decide +kernel
theorem dX7_settle_3 : decode cX7_settle 3 = .ok (.invokevirtual 77, 3) := by decide +kernel
theorem dX7_settle_6 : decode cX7_settle 6 = .ok (.ifCond .ne 5, 3) := by decide +kernel
theorem dX7_settle_9 : decode cX7_settle 9 = .ok (.iconst (-1), 1) := by decide +kernel
theorem dX7_settle_10 : decode cX7_settle 10 = .ok (.ireturn, 1) := by decide +kernel
theorem dX7_settle_11 : decode cX7_settle 11 = .ok (.aload_n 0, 1) := by decide +kernel
theorem dX7_settle_12 : decode cX7_settle 12 = .ok (.dup, 1) := by decide +kernel
theorem dX7_settle_13 : decode cX7_settle 13 = .ok (.getfield 29, 3) := by decide +kernel
theorem dX7_settle_16 : decode cX7_settle 16 = .ok (.iconst 1, 1) := by decide +kernel
theorem dX7_settle_17 : decode cX7_settle 17 = .ok (.iadd, 1) := by decide +kernel
theorem dX7_settle_18 : decode cX7_settle 18 = .ok (.putfield 29, 3) := by decide +kernel
theorem dX7_settle_21 : decode cX7_settle 21 = .ok (.iload_n 3, 1) := by decide +kernel
theorem dX7_settle_22 : decode cX7_settle 22 = .ok (.iload 4, 2) := by decide +kernel
theorem dX7_settle_24 : decode cX7_settle 24 = .ok (.if_icmp .ne 5, 3) := by decide +kernel
theorem dX7_settle_27 : decode cX7_settle 27 = .ok (.iconst (-1), 1) := by decide +kernel
theorem dX7_settle_28 : decode cX7_settle 28 = .ok (.ireturn, 1) := by decide +kernel
theorem dX7_settle_29 : decode cX7_settle 29 = .ok (.iload_n 3, 1) := by decide +kernel
theorem dX7_settle_30 : decode cX7_settle 30 = .ok (.iload 4, 2) := by decide +kernel
theorem dX7_settle_32 : decode cX7_settle 32 = .ok (.if_icmp .ge 22, 3) := by decide +kernel
theorem dX7_settle_35 : decode cX7_settle 35 = .ok (.aload_n 0, 1) := by decide +kernel
theorem dX7_settle_36 : decode cX7_settle 36 = .ok (.getfield 11, 3) := by decide +kernel
theorem dX7_settle_39 : decode cX7_settle 39 = .ok (.iload_n 1, 1) := by decide +kernel
theorem dX7_settle_40 : decode cX7_settle 40 = .ok (.aaload, 1) := by decide +kernel
theorem dX7_settle_41 : decode cX7_settle 41 = .ok (.aload_n 0, 1) := by decide +kernel
theorem dX7_settle_42 : decode cX7_settle 42 = .ok (.getfield 29, 3) := by decide +kernel
theorem dX7_settle_45 : decode cX7_settle 45 = .ok (.aload_n 0, 1) := by decide +kernel
theorem dX7_settle_46 : decode cX7_settle 46 = .ok (.invokevirtual 80, 3) := by decide +kernel
theorem dX7_settle_49 : decode cX7_settle 49 = .ok (.invokevirtual 84, 3) := by decide +kernel
theorem dX7_settle_52 : decode cX7_settle 52 = .ok (.iconst 1, 1) := by decide +kernel
theorem dX7_settle_53 : decode cX7_settle 53 = .ok (.ireturn, 1) := by decide +kernel
theorem dX7_settle_54 : decode cX7_settle 54 = .ok (.aload_n 0, 1) := by decide +kernel
theorem dX7_settle_55 : decode cX7_settle 55 = .ok (.iload_n 2, 1) := by decide +kernel
theorem dX7_settle_56 : decode cX7_settle 56 = .ok (.invokevirtual 66, 3) := by decide +kernel
theorem dX7_settle_59 : decode cX7_settle 59 = .ok (.ifCond .eq 15, 3) := by decide +kernel
theorem dX7_settle_62 : decode cX7_settle 62 = .ok (.aload_n 0, 1) := by decide +kernel
theorem dX7_settle_63 : decode cX7_settle 63 = .ok (.getfield 11, 3) := by decide +kernel
theorem dX7_settle_66 : decode cX7_settle 66 = .ok (.iload_n 2, 1) := by decide +kernel
theorem dX7_settle_67 : decode cX7_settle 67 = .ok (.aaload, 1) := by decide +kernel
theorem dX7_settle_68 : decode cX7_settle 68 = .ok (.invokevirtual 88, 3) := by decide +kernel
theorem dX7_settle_71 : decode cX7_settle 71 = .ok (.goto 21, 3) := by decide +kernel
theorem dX7_settle_74 : decode cX7_settle 74 = .ok (.aload_n 0, 1) := by decide +kernel
theorem dX7_settle_75 : decode cX7_settle 75 = .ok (.dup, 1) := by decide +kernel
theorem dX7_settle_76 : decode cX7_settle 76 = .ok (.getfield 26, 3) := by decide +kernel
theorem dX7_settle_79 : decode cX7_settle 79 = .ok (.aload_n 0, 1) := by decide +kernel
theorem dX7_settle_80 : decode cX7_settle 80 = .ok (.getfield 11, 3) := by decide +kernel
theorem dX7_settle_83 : decode cX7_settle 83 = .ok (.iload_n 1, 1) := by decide +kernel
theorem dX7_settle_84 : decode cX7_settle 84 = .ok (.aaload, 1) := by decide +kernel
theorem dX7_settle_85 : decode cX7_settle 85 = .ok (.getfield 74, 3) := by decide +kernel
theorem dX7_settle_88 : decode cX7_settle 88 = .ok (.iadd, 1) := by decide +kernel
theorem dX7_settle_89 : decode cX7_settle 89 = .ok (.putfield 26, 3) := by decide +kernel
theorem dX7_settle_92 : decode cX7_settle 92 = .ok (.iconst 0, 1) := by decide +kernel
theorem dX7_settle_93 : decode cX7_settle 93 = .ok (.ireturn, 1) := by decide +kernel
theorem dX7_isSelfKings_0 : decode cX7_isSelfKings 0 = .ok (.iconst 0, 1) := by decide +kernel
theorem dX7_isSelfKings_1 : decode cX7_isSelfKings 1 = .ok (.istore_n 1, 1) := by decide +kernel
theorem dX7_isSelfKings_2 : decode cX7_isSelfKings 2 = .ok (.iload_n 1, 1) := by decide +kernel
theorem dX7_isSelfKings_3 : decode cX7_isSelfKings 3 = .ok (.aload_n 0, 1) := by decide +kernel
theorem dX7_isSelfKings_4 : decode cX7_isSelfKings 4 = .ok (.getfield 22, 3) := by decide +kernel
theorem dX7_isSelfKings_7 : decode cX7_isSelfKings 7 = .ok (.if_icmp .ge 32, 3) := by decide +kernel
theorem dX7_isSelfKings_10 : decode cX7_isSelfKings 10 = .ok (.aload_n 0, 1) := by decide +kernel
theorem dX7_isSelfKings_11 : decode cX7_isSelfKings 11 = .ok (.getfield 11, 3) := by decide +kernel
theorem dX7_isSelfKings_14 : decode cX7_isSelfKings 14 = .ok (.iload_n 1, 1) := by decide +kernel
theorem dX7_isSelfKings_15 : decode cX7_isSelfKings 15 = .ok (.aaload, 1) := by decide +kernel
theorem dX7_isSelfKings_16 : decode cX7_isSelfKings 16 = .ok (.getfield 91, 3) := by decide +kernel
theorem dX7_isSelfKings_19 : decode cX7_isSelfKings 19 = .ok (.iconst 2, 1) := by decide +kernel
theorem dX7_isSelfKings_20 : decode cX7_isSelfKings 20 = .ok (.if_icmp .ne 13, 3) := by decide +kernel
theorem dX7_isSelfKings_23 : decode cX7_isSelfKings 23 = .ok (.aload_n 0, 1) := by decide +kernel
theorem dX7_isSelfKings_24 : decode cX7_isSelfKings 24 = .ok (.getfield 11, 3) := by decide +kernel
theorem dX7_isSelfKings_27 : decode cX7_isSelfKings 27 = .ok (.iload_n 1, 1) := by decide +kernel
theorem dX7_isSelfKings_28 : decode cX7_isSelfKings 28 = .ok (.aaload, 1) := by decide +kernel
theorem dX7_isSelfKings_29 : decode cX7_isSelfKings 29 = .ok (.getfield 70, 3) := by decide +kernel
theorem dX7_isSelfKings_32 : decode cX7_isSelfKings 32 = .ok (.ireturn, 1) := by decide +kernel
theorem dX7_isSelfKings_33 : decode cX7_isSelfKings 33 = .ok (.iinc 1 1, 3) := by decide +kernel
theorem dX7_isSelfKings_36 : decode cX7_isSelfKings 36 = .ok (.goto (-34), 3) := by decide +kernel
theorem dX7_isSelfKings_39 : decode cX7_isSelfKings 39 = .ok (.iconst 1, 1) := by decide +kernel
theorem dX7_isSelfKings_40 : decode cX7_isSelfKings 40 = .ok (.ireturn, 1) := by decide +kernel
set_option maxRecDepth 20000 in
theorem ggX7_stakesFor_X7_mayStake : GoodIn wsX7_stakesFor wsX7_mayStake := goodIn_r _ [6, 7, 8, 9, 10, 5, 11, 1, 12, 13, 14, 15, 16, 17, 18, 19, 20, 21, 22, 23, 24, 25, 26] (by decide +kernel) (by decide +kernel)
set_option maxRecDepth 20000 in
theorem gX7_stakesFor_X7_mayStake : GoodIn wsX7_stakesFor (wsV RX7 77 RX7 yX7_mayStake wsX7_mayStake) := goodIn_app (goodIn_of _ (by decide +kernel)) ggX7_stakesFor_X7_mayStake
theorem dX7_stakesFor_0 : decode cX7_stakesFor 0 = .ok (.iconst 0, 1) := by decide +kernel
theorem dX7_stakesFor_1 : decode cX7_stakesFor 1 = .ok (.istore_n 2, 1) := by decide +kernel
theorem dX7_stakesFor_2 : decode cX7_stakesFor 2 = .ok (.iconst 0, 1) := by decide +kernel
theorem dX7_stakesFor_3 : decode cX7_stakesFor 3 = .ok (.istore_n 3, 1) := by decide +kernel
theorem dX7_stakesFor_4 : decode cX7_stakesFor 4 = .ok (.iload_n 3, 1) := by decide +kernel
theorem dX7_stakesFor_5 : decode cX7_stakesFor 5 = .ok (.aload_n 0, 1) := by decide +kernel
theorem dX7_stakesFor_6 : decode cX7_stakesFor 6 = .ok (.getfield 22, 3) := by decide +kernel
theorem dX7_stakesFor_9 : decode cX7_stakesFor 9 = .ok (.if_icmp .ge 21, 3) := by decide +kernel
theorem dX7_stakesFor_12 : decode cX7_stakesFor 12 = .ok (.aload_n 0, 1) := by decide +kernel
theorem dX7_stakesFor_13 : decode cX7_stakesFor 13 = .ok (.iload_n 3, 1) := by decide +kernel
theorem dX7_stakesFor_14 : decode cX7_stakesFor 14 = .ok (.iload_n 1, 1) := by decide +kernel
theorem dX7_stakesFor_15 : decode cX7_stakesFor 15 = .ok (.invokevirtual 77, 3) := by decide +kernel
theorem dX7_stakesFor_18 : decode cX7_stakesFor 18 = .ok (.ifCond .eq 6, 3) := by decide +kernel
theorem dX7_stakesFor_21 : decode cX7_stakesFor 21 = .ok (.iinc 2 1, 3) := by decide +kernel
theorem dX7_stakesFor_24 : decode cX7_stakesFor 24 = .ok (.iinc 3 1, 3) := by decide +kernel
theorem dX7_stakesFor_27 : decode cX7_stakesFor 27 = .ok (.goto (-23), 3) := by decide +kernel
theorem dX7_stakesFor_30 : decode cX7_stakesFor 30 = .ok (.iload_n 2, 1) := by decide +kernel
theorem dX7_stakesFor_31 : decode cX7_stakesFor 31 = .ok (.ireturn, 1) := by decide +kernel
set_option maxRecDepth 20000 in
theorem ggX7_kingsBy_X8_isKingsBy : GoodIn wsX7_kingsBy wsX8_isKingsBy := goodIn_r _ [6, 7, 8, 9, 10, 11, 4, 12, 13, 20, 21, 22, 23, 24, 25] (by decide +kernel) (by decide +kernel)
set_option maxRecDepth 20000 in
theorem gX7_kingsBy_X8_isKingsBy_n94 : GoodIn wsX7_kingsBy (wsX8_isKingsBy) := ggX7_kingsBy_X8_isKingsBy
theorem dX7_kingsBy_0 : decode cX7_kingsBy 0 = .ok (.iconst 0, 1) := by decide +kernel
theorem dX7_kingsBy_1 : decode cX7_kingsBy 1 = .ok (.istore_n 2, 1) := by decide +kernel
theorem dX7_kingsBy_2 : decode cX7_kingsBy 2 = .ok (.iconst 0, 1) := by decide +kernel
theorem dX7_kingsBy_3 : decode cX7_kingsBy 3 = .ok (.istore_n 3, 1) := by decide +kernel
theorem dX7_kingsBy_4 : decode cX7_kingsBy 4 = .ok (.iload_n 3, 1) := by decide +kernel
theorem dX7_kingsBy_5 : decode cX7_kingsBy 5 = .ok (.aload_n 0, 1) := by decide +kernel
theorem dX7_kingsBy_6 : decode cX7_kingsBy 6 = .ok (.getfield 22, 3) := by decide +kernel
theorem dX7_kingsBy_9 : decode cX7_kingsBy 9 = .ok (.if_icmp .ge 28, 3) := by decide +kernel
theorem dX7_kingsBy_12 : decode cX7_kingsBy 12 = .ok (.aload_n 0, 1) := by decide +kernel
theorem dX7_kingsBy_13 : decode cX7_kingsBy 13 = .ok (.getfield 11, 3) := by decide +kernel
theorem dX7_kingsBy_16 : decode cX7_kingsBy 16 = .ok (.iload_n 3, 1) := by decide +kernel
theorem dX7_kingsBy_17 : decode cX7_kingsBy 17 = .ok (.aaload, 1) := by decide +kernel
theorem dX7_kingsBy_18 : decode cX7_kingsBy 18 = .ok (.iload_n 1, 1) := by decide +kernel
theorem dX7_kingsBy_19 : decode cX7_kingsBy 19 = .ok (.invokevirtual 94, 3) := by decide +kernel
theorem dX7_kingsBy_22 : decode cX7_kingsBy 22 = .ok (.ifCond .eq 9, 3) := by decide +kernel
theorem dX7_kingsBy_25 : decode cX7_kingsBy 25 = .ok (.iload_n 2, 1) := by decide +kernel
theorem dX7_kingsBy_26 : decode cX7_kingsBy 26 = .ok (.iconst 1, 1) := by decide +kernel
theorem dX7_kingsBy_27 : decode cX7_kingsBy 27 = .ok (.iload_n 3, 1) := by decide +kernel
theorem dX7_kingsBy_28 : decode cX7_kingsBy 28 = .ok (.ishl, 1) := by decide +kernel
theorem dX7_kingsBy_29 : decode cX7_kingsBy 29 = .ok (.ior, 1) := by decide +kernel
theorem dX7_kingsBy_30 : decode cX7_kingsBy 30 = .ok (.istore_n 2, 1) := by decide +kernel
theorem dX7_kingsBy_31 : decode cX7_kingsBy 31 = .ok (.iinc 3 1, 3) := by decide +kernel
theorem dX7_kingsBy_34 : decode cX7_kingsBy 34 = .ok (.goto (-30), 3) := by decide +kernel
theorem dX7_kingsBy_37 : decode cX7_kingsBy 37 = .ok (.iload_n 2, 1) := by decide +kernel
theorem dX7_kingsBy_38 : decode cX7_kingsBy 38 = .ok (.ireturn, 1) := by decide +kernel
theorem dX7_worthOf_0 : decode cX7_worthOf 0 = .ok (.iconst 0, 1) := by decide +kernel
theorem dX7_worthOf_1 : decode cX7_worthOf 1 = .ok (.istore_n 2, 1) := by decide +kernel
theorem dX7_worthOf_2 : decode cX7_worthOf 2 = .ok (.iconst 0, 1) := by decide +kernel
theorem dX7_worthOf_3 : decode cX7_worthOf 3 = .ok (.istore_n 3, 1) := by decide +kernel
theorem dX7_worthOf_4 : decode cX7_worthOf 4 = .ok (.iload_n 3, 1) := by decide +kernel
theorem dX7_worthOf_5 : decode cX7_worthOf 5 = .ok (.aload_n 0, 1) := by decide +kernel
theorem dX7_worthOf_6 : decode cX7_worthOf 6 = .ok (.getfield 22, 3) := by decide +kernel
theorem dX7_worthOf_9 : decode cX7_worthOf 9 = .ok (.if_icmp .ge 29, 3) := by decide +kernel
theorem dX7_worthOf_12 : decode cX7_worthOf 12 = .ok (.iload_n 1, 1) := by decide +kernel
theorem dX7_worthOf_13 : decode cX7_worthOf 13 = .ok (.iload_n 3, 1) := by decide +kernel
theorem dX7_worthOf_14 : decode cX7_worthOf 14 = .ok (.ishr, 1) := by decide +kernel
theorem dX7_worthOf_15 : decode cX7_worthOf 15 = .ok (.iconst 1, 1) := by decide +kernel
theorem dX7_worthOf_16 : decode cX7_worthOf 16 = .ok (.iand, 1) := by decide +kernel
theorem dX7_worthOf_17 : decode cX7_worthOf 17 = .ok (.ifCond .eq 15, 3) := by decide +kernel
theorem dX7_worthOf_20 : decode cX7_worthOf 20 = .ok (.iload_n 2, 1) := by decide +kernel
theorem dX7_worthOf_21 : decode cX7_worthOf 21 = .ok (.aload_n 0, 1) := by decide +kernel
theorem dX7_worthOf_22 : decode cX7_worthOf 22 = .ok (.getfield 11, 3) := by decide +kernel
theorem dX7_worthOf_25 : decode cX7_worthOf 25 = .ok (.iload_n 3, 1) := by decide +kernel
theorem dX7_worthOf_26 : decode cX7_worthOf 26 = .ok (.aaload, 1) := by decide +kernel
theorem dX7_worthOf_27 : decode cX7_worthOf 27 = .ok (.getfield 74, 3) := by decide +kernel
theorem dX7_worthOf_30 : decode cX7_worthOf 30 = .ok (.iadd, 1) := by decide +kernel
theorem dX7_worthOf_31 : decode cX7_worthOf 31 = .ok (.istore_n 2, 1) := by decide +kernel
theorem dX7_worthOf_32 : decode cX7_worthOf 32 = .ok (.iinc 3 1, 3) := by decide +kernel
theorem dX7_worthOf_35 : decode cX7_worthOf 35 = .ok (.goto (-31), 3) := by decide +kernel
theorem dX7_worthOf_38 : decode cX7_worthOf 38 = .ok (.iload_n 2, 1) := by decide +kernel
theorem dX7_worthOf_39 : decode cX7_worthOf 39 = .ok (.ireturn, 1) := by decide +kernel
set_option maxRecDepth 20000 in
theorem ggX7_wrongMany_X8_isWronglyLost : GoodIn wsX7_wrongMany wsX8_isWronglyLost := goodIn_r _ [6, 7, 8, 15, 16, 17, 18, 19, 20] (by decide +kernel) (by decide +kernel)
set_option maxRecDepth 20000 in
theorem gX7_wrongMany_X8_isWronglyLost_n97 : GoodIn wsX7_wrongMany (wsX8_isWronglyLost) := ggX7_wrongMany_X8_isWronglyLost
theorem dX7_wrongMany_0 : decode cX7_wrongMany 0 = .ok (.iconst 0, 1) := by decide +kernel
theorem dX7_wrongMany_1 : decode cX7_wrongMany 1 = .ok (.istore_n 1, 1) := by decide +kernel
theorem dX7_wrongMany_2 : decode cX7_wrongMany 2 = .ok (.iconst 0, 1) := by decide +kernel
theorem dX7_wrongMany_3 : decode cX7_wrongMany 3 = .ok (.istore_n 2, 1) := by decide +kernel
theorem dX7_wrongMany_4 : decode cX7_wrongMany 4 = .ok (.iload_n 2, 1) := by decide +kernel
theorem dX7_wrongMany_5 : decode cX7_wrongMany 5 = .ok (.aload_n 0, 1) := by decide +kernel
theorem dX7_wrongMany_6 : decode cX7_wrongMany 6 = .ok (.getfield 22, 3) := by decide +kernel
theorem dX7_wrongMany_9 : decode cX7_wrongMany 9 = .ok (.if_icmp .ge 24, 3) := by decide +kernel
theorem dX7_wrongMany_12 : decode cX7_wrongMany 12 = .ok (.aload_n 0, 1) := by decide +kernel
theorem dX7_wrongMany_13 : decode cX7_wrongMany 13 = .ok (.getfield 11, 3) := by decide +kernel
theorem dX7_wrongMany_16 : decode cX7_wrongMany 16 = .ok (.iload_n 2, 1) := by decide +kernel
theorem dX7_wrongMany_17 : decode cX7_wrongMany 17 = .ok (.aaload, 1) := by decide +kernel
theorem dX7_wrongMany_18 : decode cX7_wrongMany 18 = .ok (.invokevirtual 97, 3) := by decide +kernel
theorem dX7_wrongMany_21 : decode cX7_wrongMany 21 = .ok (.ifCond .eq 6, 3) := by decide +kernel
theorem dX7_wrongMany_24 : decode cX7_wrongMany 24 = .ok (.iinc 1 1, 3) := by decide +kernel
theorem dX7_wrongMany_27 : decode cX7_wrongMany 27 = .ok (.iinc 2 1, 3) := by decide +kernel
theorem dX7_wrongMany_30 : decode cX7_wrongMany 30 = .ok (.goto (-26), 3) := by decide +kernel
theorem dX7_wrongMany_33 : decode cX7_wrongMany 33 = .ok (.iload_n 1, 1) := by decide +kernel
theorem dX7_wrongMany_34 : decode cX7_wrongMany 34 = .ok (.ireturn, 1) := by decide +kernel
set_option maxRecDepth 20000 in
theorem ggX7_addSeen_X10_isBelow : GoodIn wsX7_addSeen wsX10_isBelow := goodIn_r _ [5] (by decide +kernel) (by decide +kernel)
set_option maxRecDepth 20000 in
theorem gX7_addSeen_X10_isBelow_n62 : GoodIn wsX7_addSeen (wsX10_isBelow) := ggX7_addSeen_X10_isBelow
theorem dX7_addSeen_0 : decode cX7_addSeen 0 = .ok (.aload_n 0, 1) := by decide +kernel
theorem dX7_addSeen_1 : decode cX7_addSeen 1 = .ok (.getfield 32, 3) := by decide +kernel
theorem dX7_addSeen_4 : decode cX7_addSeen 4 = .ok (.aload_n 0, 1) := by decide +kernel
theorem dX7_addSeen_5 : decode cX7_addSeen 5 = .ok (.getfield 18, 3) := by decide +kernel
theorem dX7_addSeen_8 : decode cX7_addSeen 8 = .ok (.arraylength, 1) := by decide +kernel
theorem dX7_addSeen_9 : decode cX7_addSeen 9 = .ok (.invokestatic 62, 3) := by decide +kernel
theorem dX7_addSeen_12 : decode cX7_addSeen 12 = .ok (.ifCond .eq 23, 3) := by decide +kernel
theorem dX7_addSeen_15 : decode cX7_addSeen 15 = .ok (.aload_n 0, 1) := by decide +kernel
theorem dX7_addSeen_16 : decode cX7_addSeen 16 = .ok (.getfield 18, 3) := by decide +kernel
theorem dX7_addSeen_19 : decode cX7_addSeen 19 = .ok (.aload_n 0, 1) := by decide +kernel
theorem dX7_addSeen_20 : decode cX7_addSeen 20 = .ok (.getfield 32, 3) := by decide +kernel
theorem dX7_addSeen_23 : decode cX7_addSeen 23 = .ok (.iload_n 1, 1) := by decide +kernel
theorem dX7_addSeen_24 : decode cX7_addSeen 24 = .ok (.iastore, 1) := by decide +kernel
theorem dX7_addSeen_25 : decode cX7_addSeen 25 = .ok (.aload_n 0, 1) := by decide +kernel
theorem dX7_addSeen_26 : decode cX7_addSeen 26 = .ok (.dup, 1) := by decide +kernel
theorem dX7_addSeen_27 : decode cX7_addSeen 27 = .ok (.getfield 32, 3) := by decide +kernel
theorem dX7_addSeen_30 : decode cX7_addSeen 30 = .ok (.iconst 1, 1) := by decide +kernel
theorem dX7_addSeen_31 : decode cX7_addSeen 31 = .ok (.iadd, 1) := by decide +kernel
theorem dX7_addSeen_32 : decode cX7_addSeen 32 = .ok (.putfield 32, 3) := by decide +kernel
theorem dX7_addSeen_35 : decode cX7_addSeen 35 = .ok (.aload_n 0, 1) := by decide +kernel
theorem dX7_addSeen_36 : decode cX7_addSeen 36 = .ok (.getfield 32, 3) := by decide +kernel
theorem dX7_addSeen_39 : decode cX7_addSeen 39 = .ok (.ireturn, 1) := by decide +kernel
theorem dX7_clearSeen_0 : decode cX7_clearSeen 0 = .ok (.aload_n 0, 1) := by decide +kernel
theorem dX7_clearSeen_1 : decode cX7_clearSeen 1 = .ok (.getfield 32, 3) := by decide +kernel
theorem dX7_clearSeen_4 : decode cX7_clearSeen 4 = .ok (.istore_n 1, 1) := by decide +kernel
theorem dX7_clearSeen_5 : decode cX7_clearSeen 5 = .ok (.aload_n 0, 1) := by decide +kernel
theorem dX7_clearSeen_6 : decode cX7_clearSeen 6 = .ok (.iconst 0, 1) := by decide +kernel
theorem dX7_clearSeen_7 : decode cX7_clearSeen 7 = .ok (.putfield 32, 3) := by decide +kernel
theorem dX7_clearSeen_10 : decode cX7_clearSeen 10 = .ok (.iload_n 1, 1) := by decide +kernel
theorem dX7_clearSeen_11 : decode cX7_clearSeen 11 = .ok (.ireturn, 1) := by decide +kernel
set_option maxRecDepth 20000 in
theorem ggX7_waysSeenBy_X1_waysOf : GoodIn wsX7_waysSeenBy wsX1_waysOf := goodIn_r _ [8, 9, 10, 11, 12, 13, 29, 30, 31, 32, 33, 34, 35, 36, 37, 38, 39, 40, 41, 42, 43] (by decide +kernel) (by decide +kernel)
set_option maxRecDepth 20000 in
theorem gX7_waysSeenBy_X1_waysOf_u100X0 : GoodIn wsX7_waysSeenBy (va_wsU RX7 100 RX0 "KingdomAtDice$Dice" ⟨"KingdomAtDice$Dice", "waysOf", "(I)I"⟩ yX1_waysOf wsX1_waysOf) := goodIn_app (goodIn_of _ (by decide +kernel)) ggX7_waysSeenBy_X1_waysOf
set_option maxRecDepth 20000 in
theorem gX7_waysSeenBy_X1_waysOf : GoodIn wsX7_waysSeenBy (wsV RX7 100 RX1 yX1_waysOf wsX1_waysOf) := goodIn_app (goodIn_of _ (by decide +kernel)) ggX7_waysSeenBy_X1_waysOf
set_option maxRecDepth 20000 in
theorem gX7_waysSeenBy_X1_waysOf_u100X3 : GoodIn wsX7_waysSeenBy (va_wsU RX7 100 RX3 "KingdomAtDice$Dice" ⟨"KingdomAtDice$Dice", "waysOf", "(I)I"⟩ yX1_waysOf wsX1_waysOf) := goodIn_app (goodIn_of _ (by decide +kernel)) ggX7_waysSeenBy_X1_waysOf
set_option maxRecDepth 20000 in
theorem gX7_waysSeenBy_X1_waysOf_u100X4 : GoodIn wsX7_waysSeenBy (va_wsU RX7 100 RX4 "KingdomAtDice$Dice" ⟨"KingdomAtDice$Dice", "waysOf", "(I)I"⟩ yX1_waysOf wsX1_waysOf) := goodIn_app (goodIn_of _ (by decide +kernel)) ggX7_waysSeenBy_X1_waysOf
set_option maxRecDepth 20000 in
theorem ggX7_waysSeenBy_X9_waysOf : GoodIn wsX7_waysSeenBy wsX9_waysOf := goodIn_r _ [22, 11, 12, 13] (by decide +kernel) (by decide +kernel)
set_option maxRecDepth 20000 in
theorem gX7_waysSeenBy_X9_waysOf_u100X9 : GoodIn wsX7_waysSeenBy (va_wsO RX7 100 RX9 "KingdomAtDice$Dice" ⟨"KingdomAtDice$Dice", "waysOf", "(I)I"⟩ yX9_waysOf wsX9_waysOf) := goodIn_app (goodIn_of _ (by decide +kernel)) ggX7_waysSeenBy_X9_waysOf
theorem dX7_waysSeenBy_0 : decode cX7_waysSeenBy 0 = .ok (.lconst 1, 1) := by decide +kernel
theorem dX7_waysSeenBy_1 : decode cX7_waysSeenBy 1 = .ok (.lstore_n 2, 1) := by decide +kernel
theorem dX7_waysSeenBy_2 : decode cX7_waysSeenBy 2 = .ok (.iconst 0, 1) := by decide +kernel
theorem dX7_waysSeenBy_3 : decode cX7_waysSeenBy 3 = .ok (.istore 4, 2) := by decide +kernel
theorem dX7_waysSeenBy_5 : decode cX7_waysSeenBy 5 = .ok (.iload 4, 2) := by decide +kernel
theorem dX7_waysSeenBy_7 : decode cX7_waysSeenBy 7 = .ok (.aload_n 0, 1) := by decide +kernel
theorem dX7_waysSeenBy_8 : decode cX7_waysSeenBy 8 = .ok (.getfield 32, 3) := by decide +kernel
theorem dX7_waysSeenBy_11 : decode cX7_waysSeenBy 11 = .ok (.if_icmp .ge 24, 3) := by decide +kernel
theorem dX7_waysSeenBy_14 : decode cX7_waysSeenBy 14 = .ok (.lload_n 2, 1) := by decide +kernel
theorem dX7_waysSeenBy_15 : decode cX7_waysSeenBy 15 = .ok (.aload_n 1, 1) := by decide +kernel
theorem dX7_waysSeenBy_16 : decode cX7_waysSeenBy 16 = .ok (.aload_n 0, 1) := by decide +kernel
theorem dX7_waysSeenBy_17 : decode cX7_waysSeenBy 17 = .ok (.getfield 18, 3) := by decide +kernel
theorem dX7_waysSeenBy_20 : decode cX7_waysSeenBy 20 = .ok (.iload 4, 2) := by decide +kernel
theorem dX7_waysSeenBy_22 : decode cX7_waysSeenBy 22 = .ok (.iaload, 1) := by decide +kernel
theorem dX7_waysSeenBy_23 : decode cX7_waysSeenBy 23 = .ok (.invokevirtual 100, 3) := by decide +kernel
theorem dX7_waysSeenBy_26 : decode cX7_waysSeenBy 26 = .ok (.i2l, 1) := by decide +kernel
theorem dX7_waysSeenBy_27 : decode cX7_waysSeenBy 27 = .ok (.lmul, 1) := by decide +kernel
theorem dX7_waysSeenBy_28 : decode cX7_waysSeenBy 28 = .ok (.lstore_n 2, 1) := by decide +kernel
theorem dX7_waysSeenBy_29 : decode cX7_waysSeenBy 29 = .ok (.iinc 4 1, 3) := by decide +kernel
theorem dX7_waysSeenBy_32 : decode cX7_waysSeenBy 32 = .ok (.goto (-27), 3) := by decide +kernel
theorem dX7_waysSeenBy_35 : decode cX7_waysSeenBy 35 = .ok (.lload_n 2, 1) := by decide +kernel
theorem dX7_waysSeenBy_36 : decode cX7_waysSeenBy 36 = .ok (.lreturn, 1) := by decide +kernel
theorem dX8_init_0 : decode cX8_init 0 = .ok (.aload_n 0, 1) := by decide +kernel
theorem dX8_init_1 : decode cX8_init 1 = .ok (.invokespecial 3, 3) := by decide +kernel
theorem dX8_init_4 : decode cX8_init 4 = .ok (.aload_n 0, 1) := by decide +kernel
theorem dX8_init_5 : decode cX8_init 5 = .ok (.iconst 0, 1) := by decide +kernel
theorem dX8_init_6 : decode cX8_init 6 = .ok (.putfield 9, 3) := by decide +kernel
theorem dX8_init_9 : decode cX8_init 9 = .ok (.aload_n 0, 1) := by decide +kernel
theorem dX8_init_10 : decode cX8_init 10 = .ok (.iconst 0, 1) := by decide +kernel
theorem dX8_init_11 : decode cX8_init 11 = .ok (.putfield 15, 3) := by decide +kernel
theorem dX8_init_14 : decode cX8_init 14 = .ok (.aload_n 0, 1) := by decide +kernel
theorem dX8_init_15 : decode cX8_init 15 = .ok (.iconst 1, 1) := by decide +kernel
theorem dX8_init_16 : decode cX8_init 16 = .ok (.putfield 18, 3) := by decide +kernel
theorem dX8_init_19 : decode cX8_init 19 = .ok (.aload_n 0, 1) := by decide +kernel
theorem dX8_init_20 : decode cX8_init 20 = .ok (.iconst (-1), 1) := by decide +kernel
theorem dX8_init_21 : decode cX8_init 21 = .ok (.putfield 22, 3) := by decide +kernel
theorem dX8_init_24 : decode cX8_init 24 = .ok (.aload_n 0, 1) := by decide +kernel
theorem dX8_init_25 : decode cX8_init 25 = .ok (.iconst (-1), 1) := by decide +kernel
theorem dX8_init_26 : decode cX8_init 26 = .ok (.putfield 25, 3) := by decide +kernel
theorem dX8_init_29 : decode cX8_init 29 = .ok (.aload_n 0, 1) := by decide +kernel
theorem dX8_init_30 : decode cX8_init 30 = .ok (.iconst 0, 1) := by decide +kernel
theorem dX8_init_31 : decode cX8_init 31 = .ok (.putfield 28, 3) := by decide +kernel
theorem dX8_init_34 : decode cX8_init 34 = .ok (.return_, 1) := by decide +kernel
theorem dX8_begin_0 : decode cX8_begin 0 = .ok (.aload_n 0, 1) := by decide +kernel
theorem dX8_begin_1 : decode cX8_begin 1 = .ok (.iload_n 1, 1) := by decide +kernel
theorem dX8_begin_2 : decode cX8_begin 2 = .ok (.putfield 9, 3) := by decide +kernel
theorem dX8_begin_5 : decode cX8_begin 5 = .ok (.aload_n 0, 1) := by decide +kernel
theorem dX8_begin_6 : decode cX8_begin 6 = .ok (.iload_n 2, 1) := by decide +kernel
theorem dX8_begin_7 : decode cX8_begin 7 = .ok (.putfield 15, 3) := by decide +kernel
theorem dX8_begin_10 : decode cX8_begin 10 = .ok (.aload_n 0, 1) := by decide +kernel
theorem dX8_begin_11 : decode cX8_begin 11 = .ok (.iconst 1, 1) := by decide +kernel
theorem dX8_begin_12 : decode cX8_begin 12 = .ok (.putfield 18, 3) := by decide +kernel
theorem dX8_begin_15 : decode cX8_begin 15 = .ok (.aload_n 0, 1) := by decide +kernel
theorem dX8_begin_16 : decode cX8_begin 16 = .ok (.iconst (-1), 1) := by decide +kernel
theorem dX8_begin_17 : decode cX8_begin 17 = .ok (.putfield 22, 3) := by decide +kernel
theorem dX8_begin_20 : decode cX8_begin 20 = .ok (.aload_n 0, 1) := by decide +kernel
theorem dX8_begin_21 : decode cX8_begin 21 = .ok (.iconst (-1), 1) := by decide +kernel
theorem dX8_begin_22 : decode cX8_begin 22 = .ok (.putfield 25, 3) := by decide +kernel
theorem dX8_begin_25 : decode cX8_begin 25 = .ok (.aload_n 0, 1) := by decide +kernel
theorem dX8_begin_26 : decode cX8_begin 26 = .ok (.iconst 0, 1) := by decide +kernel
theorem dX8_begin_27 : decode cX8_begin 27 = .ok (.putfield 28, 3) := by decide +kernel
theorem dX8_begin_30 : decode cX8_begin 30 = .ok (.return_, 1) := by decide +kernel
theorem dX8_copy_0 : decode cX8_copy 0 = .ok (.aload_n 0, 1) := by decide +kernel
theorem dX8_copy_1 : decode cX8_copy 1 = .ok (.aload_n 1, 1) := by decide +kernel
theorem dX8_copy_2 : decode cX8_copy 2 = .ok (.getfield 9, 3) := by decide +kernel
theorem dX8_copy_5 : decode cX8_copy 5 = .ok (.putfield 9, 3) := by decide +kernel
theorem dX8_copy_8 : decode cX8_copy 8 = .ok (.aload_n 0, 1) := by decide +kernel
theorem dX8_copy_9 : decode cX8_copy 9 = .ok (.aload_n 1, 1) := by decide +kernel
theorem dX8_copy_10 : decode cX8_copy 10 = .ok (.getfield 15, 3) := by decide +kernel
theorem dX8_copy_13 : decode cX8_copy 13 = .ok (.putfield 15, 3) := by decide +kernel
theorem dX8_copy_16 : decode cX8_copy 16 = .ok (.aload_n 0, 1) := by decide +kernel
theorem dX8_copy_17 : decode cX8_copy 17 = .ok (.aload_n 1, 1) := by decide +kernel
theorem dX8_copy_18 : decode cX8_copy 18 = .ok (.getfield 18, 3) := by decide +kernel
theorem dX8_copy_21 : decode cX8_copy 21 = .ok (.putfield 18, 3) := by decide +kernel
theorem dX8_copy_24 : decode cX8_copy 24 = .ok (.aload_n 0, 1) := by decide +kernel
theorem dX8_copy_25 : decode cX8_copy 25 = .ok (.aload_n 1, 1) := by decide +kernel
theorem dX8_copy_26 : decode cX8_copy 26 = .ok (.getfield 22, 3) := by decide +kernel
theorem dX8_copy_29 : decode cX8_copy 29 = .ok (.putfield 22, 3) := by decide +kernel
theorem dX8_copy_32 : decode cX8_copy 32 = .ok (.aload_n 0, 1) := by decide +kernel
theorem dX8_copy_33 : decode cX8_copy 33 = .ok (.aload_n 1, 1) := by decide +kernel
theorem dX8_copy_34 : decode cX8_copy 34 = .ok (.getfield 25, 3) := by decide +kernel
theorem dX8_copy_37 : decode cX8_copy 37 = .ok (.putfield 25, 3) := by decide +kernel
theorem dX8_copy_40 : decode cX8_copy 40 = .ok (.aload_n 0, 1) := by decide +kernel
theorem dX8_copy_41 : decode cX8_copy 41 = .ok (.aload_n 1, 1) := by decide +kernel
theorem dX8_copy_42 : decode cX8_copy 42 = .ok (.getfield 28, 3) := by decide +kernel
theorem dX8_copy_45 : decode cX8_copy 45 = .ok (.putfield 28, 3) := by decide +kernel
theorem dX8_copy_48 : decode cX8_copy 48 = .ok (.return_, 1) := by decide +kernel
theorem dX8_lose_0 : decode cX8_lose 0 = .ok (.aload_n 0, 1) := by decide +kernel
theorem dX8_lose_1 : decode cX8_lose 1 = .ok (.iconst 0, 1) := by decide +kernel
theorem dX8_lose_2 : decode cX8_lose 2 = .ok (.putfield 18, 3) := by decide +kernel
theorem dX8_lose_5 : decode cX8_lose 5 = .ok (.aload_n 0, 1) := by decide +kernel
theorem dX8_lose_6 : decode cX8_lose 6 = .ok (.iload_n 1, 1) := by decide +kernel
theorem dX8_lose_7 : decode cX8_lose 7 = .ok (.putfield 22, 3) := by decide +kernel
theorem dX8_lose_10 : decode cX8_lose 10 = .ok (.aload_n 0, 1) := by decide +kernel
theorem dX8_lose_11 : decode cX8_lose 11 = .ok (.iload_n 2, 1) := by decide +kernel
theorem dX8_lose_12 : decode cX8_lose 12 = .ok (.ifCond .eq 7, 3) := by decide +kernel
theorem dX8_lose_15 : decode cX8_lose 15 = .ok (.iconst 1, 1) := by decide +kernel
theorem dX8_lose_16 : decode cX8_lose 16 = .ok (.goto 4, 3) := by decide +kernel
theorem dX8_lose_19 : decode cX8_lose 19 = .ok (.iconst 0, 1) := by decide +kernel
theorem dX8_lose_20 : decode cX8_lose 20 = .ok (.putfield 25, 3) := by decide +kernel
theorem dX8_lose_23 : decode cX8_lose 23 = .ok (.aload_n 0, 1) := by decide +kernel
theorem dX8_lose_24 : decode cX8_lose 24 = .ok (.dup, 1) := by decide +kernel
theorem dX8_lose_25 : decode cX8_lose 25 = .ok (.getfield 28, 3) := by decide +kernel
theorem dX8_lose_28 : decode cX8_lose 28 = .ok (.iconst 1, 1) := by decide +kernel
theorem dX8_lose_29 : decode cX8_lose 29 = .ok (.iadd, 1) := by decide +kernel
theorem dX8_lose_30 : decode cX8_lose 30 = .ok (.putfield 28, 3) := by decide +kernel
theorem dX8_lose_33 : decode cX8_lose 33 = .ok (.return_, 1) := by decide +kernel
theorem dX8_comeBack_0 : decode cX8_comeBack 0 = .ok (.aload_n 0, 1) := by decide +kernel
theorem dX8_comeBack_1 : decode cX8_comeBack 1 = .ok (.iconst 1, 1) := by decide +kernel
theorem dX8_comeBack_2 : decode cX8_comeBack 2 = .ok (.putfield 18, 3) := by decide +kernel
theorem dX8_comeBack_5 : decode cX8_comeBack 5 = .ok (.aload_n 0, 1) := by decide +kernel
theorem dX8_comeBack_6 : decode cX8_comeBack 6 = .ok (.dup, 1) := by decide +kernel
theorem dX8_comeBack_7 : decode cX8_comeBack 7 = .ok (.getfield 28, 3) := by decide +kernel
theorem dX8_comeBack_10 : decode cX8_comeBack 10 = .ok (.iconst 1, 1) := by decide +kernel
theorem dX8_comeBack_11 : decode cX8_comeBack 11 = .ok (.iadd, 1) := by decide +kernel
theorem dX8_comeBack_12 : decode cX8_comeBack 12 = .ok (.putfield 28, 3) := by decide +kernel
theorem dX8_comeBack_15 : decode cX8_comeBack 15 = .ok (.return_, 1) := by decide +kernel
theorem dX8_isWronglyLost_0 : decode cX8_isWronglyLost 0 = .ok (.aload_n 0, 1) := by decide +kernel
theorem dX8_isWronglyLost_1 : decode cX8_isWronglyLost 1 = .ok (.getfield 18, 3) := by decide +kernel
theorem dX8_isWronglyLost_4 : decode cX8_isWronglyLost 4 = .ok (.ifCond .ne 14, 3) := by decide +kernel
theorem dX8_isWronglyLost_7 : decode cX8_isWronglyLost 7 = .ok (.aload_n 0, 1) := by decide +kernel
theorem dX8_isWronglyLost_8 : decode cX8_isWronglyLost 8 = .ok (.getfield 25, 3) := by decide +kernel
theorem dX8_isWronglyLost_11 : decode cX8_isWronglyLost 11 = .ok (.ifCond .ne 7, 3) := by decide +kernel
theorem dX8_isWronglyLost_14 : decode cX8_isWronglyLost 14 = .ok (.iconst 1, 1) := by decide +kernel
theorem dX8_isWronglyLost_15 : decode cX8_isWronglyLost 15 = .ok (.goto 4, 3) := by decide +kernel
theorem dX8_isWronglyLost_18 : decode cX8_isWronglyLost 18 = .ok (.iconst 0, 1) := by decide +kernel
theorem dX8_isWronglyLost_19 : decode cX8_isWronglyLost 19 = .ok (.ireturn, 1) := by decide +kernel
set_option maxRecDepth 20000 in
theorem ggX8_isKingsBy_X8_isWronglyLost : GoodIn wsX8_isKingsBy wsX8_isWronglyLost := goodIn_r _ [7, 1, 8, 9, 10, 11, 12, 13, 14] (by decide +kernel) (by decide +kernel)
set_option maxRecDepth 20000 in
theorem gX8_isKingsBy_X8_isWronglyLost : GoodIn wsX8_isKingsBy (wsV RX8 31 RX8 yX8_isWronglyLost wsX8_isWronglyLost) := goodIn_app (goodIn_of _ (by decide +kernel)) ggX8_isKingsBy_X8_isWronglyLost
theorem dX8_isKingsBy_0 : decode cX8_isKingsBy 0 = .ok (.aload_n 0, 1) := by decide +kernel
theorem dX8_isKingsBy_1 : decode cX8_isKingsBy 1 = .ok (.getfield 18, 3) := by decide +kernel
theorem dX8_isKingsBy_4 : decode cX8_isKingsBy 4 = .ok (.ifCond .ne 30, 3) := by decide +kernel
theorem dX8_isKingsBy_7 : decode cX8_isKingsBy 7 = .ok (.iload_n 1, 1) := by decide +kernel
theorem dX8_isKingsBy_8 : decode cX8_isKingsBy 8 = .ok (.iconst 1, 1) := by decide +kernel
theorem dX8_isKingsBy_9 : decode cX8_isKingsBy 9 = .ok (.iand, 1) := by decide +kernel
theorem dX8_isKingsBy_10 : decode cX8_isKingsBy 10 = .ok (.ifCond .eq 10, 3) := by decide +kernel
theorem dX8_isKingsBy_13 : decode cX8_isKingsBy 13 = .ok (.aload_n 0, 1) := by decide +kernel
theorem dX8_isKingsBy_14 : decode cX8_isKingsBy 14 = .ok (.invokevirtual 31, 3) := by decide +kernel
theorem dX8_isKingsBy_17 : decode cX8_isKingsBy 17 = .ok (.ifCond .ne 17, 3) := by decide +kernel
theorem dX8_isKingsBy_20 : decode cX8_isKingsBy 20 = .ok (.iload_n 1, 1) := by decide +kernel
theorem dX8_isKingsBy_21 : decode cX8_isKingsBy 21 = .ok (.iconst 2, 1) := by decide +kernel
theorem dX8_isKingsBy_22 : decode cX8_isKingsBy 22 = .ok (.iand, 1) := by decide +kernel
theorem dX8_isKingsBy_23 : decode cX8_isKingsBy 23 = .ok (.ifCond .eq 15, 3) := by decide +kernel
theorem dX8_isKingsBy_26 : decode cX8_isKingsBy 26 = .ok (.aload_n 0, 1) := by decide +kernel
theorem dX8_isKingsBy_27 : decode cX8_isKingsBy 27 = .ok (.getfield 9, 3) := by decide +kernel
theorem dX8_isKingsBy_30 : decode cX8_isKingsBy 30 = .ok (.iconst 1, 1) := by decide +kernel
theorem dX8_isKingsBy_31 : decode cX8_isKingsBy 31 = .ok (.if_icmp .ne 7, 3) := by decide +kernel
theorem dX8_isKingsBy_34 : decode cX8_isKingsBy 34 = .ok (.iconst 1, 1) := by decide +kernel
theorem dX8_isKingsBy_35 : decode cX8_isKingsBy 35 = .ok (.goto 4, 3) := by decide +kernel
theorem dX8_isKingsBy_38 : decode cX8_isKingsBy 38 = .ok (.iconst 0, 1) := by decide +kernel
theorem dX8_isKingsBy_39 : decode cX8_isKingsBy 39 = .ok (.ireturn, 1) := by decide +kernel
theorem dX8_tell_0 : decode cX8_tell 0 = .ok (.iload_n 1, 1) := by decide +kernel
theorem dX8_tell_1 : decode cX8_tell 1 = .ok (.tableswitch 68 0 4 #[35, 40, 45, 58, 63], 35) := by decide +kernel
theorem dX8_tell_36 : decode cX8_tell 36 = .ok (.aload_n 0, 1) := by decide +kernel
theorem dX8_tell_37 : decode cX8_tell 37 = .ok (.getfield 9, 3) := by decide +kernel
theorem dX8_tell_40 : decode cX8_tell 40 = .ok (.ireturn, 1) := by decide +kernel
theorem dX8_tell_41 : decode cX8_tell 41 = .ok (.aload_n 0, 1) := by decide +kernel
theorem dX8_tell_42 : decode cX8_tell 42 = .ok (.getfield 15, 3) := by decide +kernel
theorem dX8_tell_45 : decode cX8_tell 45 = .ok (.ireturn, 1) := by decide +kernel
theorem dX8_tell_46 : decode cX8_tell 46 = .ok (.aload_n 0, 1) := by decide +kernel
theorem dX8_tell_47 : decode cX8_tell 47 = .ok (.getfield 18, 3) := by decide +kernel
theorem dX8_tell_50 : decode cX8_tell 50 = .ok (.ifCond .eq 7, 3) := by decide +kernel
theorem dX8_tell_53 : decode cX8_tell 53 = .ok (.iconst 0, 1) := by decide +kernel
theorem dX8_tell_54 : decode cX8_tell 54 = .ok (.goto 4, 3) := by decide +kernel
theorem dX8_tell_57 : decode cX8_tell 57 = .ok (.iconst 1, 1) := by decide +kernel
theorem dX8_tell_58 : decode cX8_tell 58 = .ok (.ireturn, 1) := by decide +kernel
theorem dX8_tell_59 : decode cX8_tell 59 = .ok (.aload_n 0, 1) := by decide +kernel
theorem dX8_tell_60 : decode cX8_tell 60 = .ok (.getfield 22, 3) := by decide +kernel
theorem dX8_tell_63 : decode cX8_tell 63 = .ok (.ireturn, 1) := by decide +kernel
theorem dX8_tell_64 : decode cX8_tell 64 = .ok (.aload_n 0, 1) := by decide +kernel
theorem dX8_tell_65 : decode cX8_tell 65 = .ok (.getfield 25, 3) := by decide +kernel
theorem dX8_tell_68 : decode cX8_tell 68 = .ok (.ireturn, 1) := by decide +kernel
theorem dX8_tell_69 : decode cX8_tell 69 = .ok (.aload_n 0, 1) := by decide +kernel
theorem dX8_tell_70 : decode cX8_tell 70 = .ok (.getfield 28, 3) := by decide +kernel
theorem dX8_tell_73 : decode cX8_tell 73 = .ok (.ireturn, 1) := by decide +kernel
set_option maxRecDepth 20000 in
theorem ggX9_init_X1_init : GoodIn wsX9_init wsX1_init := goodIn_r _ [4, 5, 6, 7, 8, 9, 10, 11, 12, 13, 14, 15, 16, 17, 18, 19, 20, 21, 22, 23, 24, 25] (by decide +kernel) (by decide +kernel)
set_option maxRecDepth 20000 in
theorem gX9_init_X1_init : GoodIn wsX9_init (wsX1_init) := ggX9_init_X1_init
theorem dX9_init_0 : decode cX9_init 0 = .ok (.aload_n 0, 1) := by decide +kernel
theorem dX9_init_1 : decode cX9_init 1 = .ok (.iconst 2, 1) := by decide +kernel
theorem dX9_init_2 : decode cX9_init 2 = .ok (.iconst 1, 1) := by decide +kernel
theorem dX9_init_3 : decode cX9_init 3 = .ok (.bipush 6, 2) := by decide +kernel
theorem dX9_init_5 : decode cX9_init 5 = .ok (.invokespecial 3, 3) := by decide +kernel
theorem dX9_init_8 : decode cX9_init 8 = .ok (.return_, 1) := by decide +kernel
set_option maxRecDepth 20000 in
theorem ggX9_wayMany_X1_faces : GoodIn wsX9_wayMany wsX1_faces := goodIn_r _ [6, 7, 8, 9, 10, 11, 12, 13, 14, 15, 16, 17, 18, 19, 20, 21, 22, 23] (by decide +kernel) (by decide +kernel)
set_option maxRecDepth 20000 in
theorem gX9_wayMany_X1_faces_u9X9 : GoodIn wsX9_wayMany (va_wsU RX9 9 RX9 "KingdomAtDice$Dice" ⟨"KingdomAtDice$Twins", "faces", "()I"⟩ yX1_faces wsX1_faces) := goodIn_app (goodIn_of _ (by decide +kernel)) ggX9_wayMany_X1_faces
theorem dX9_wayMany_0 : decode cX9_wayMany 0 = .ok (.aload_n 0, 1) := by decide +kernel
theorem dX9_wayMany_1 : decode cX9_wayMany 1 = .ok (.invokevirtual 9, 3) := by decide +kernel
theorem dX9_wayMany_4 : decode cX9_wayMany 4 = .ok (.ireturn, 1) := by decide +kernel
set_option maxRecDepth 20000 in
theorem ggX9_waysOf_X10_isSum : GoodIn wsX9_waysOf wsX10_isSum := goodIn_r _ [3] (by decide +kernel) (by decide +kernel)
set_option maxRecDepth 20000 in
theorem gX9_waysOf_X10_isSum_n15 : GoodIn wsX9_waysOf (wsX10_isSum) := ggX9_waysOf_X10_isSum
theorem dX9_waysOf_0 : decode cX9_waysOf 0 = .ok (.iload_n 1, 1) := by decide +kernel
theorem dX9_waysOf_1 : decode cX9_waysOf 1 = .ok (.invokestatic 15, 3) := by decide +kernel
theorem dX9_waysOf_4 : decode cX9_waysOf 4 = .ok (.ifCond .eq 13, 3) := by decide +kernel
theorem dX9_waysOf_7 : decode cX9_waysOf 7 = .ok (.iload_n 1, 1) := by decide +kernel
theorem dX9_waysOf_8 : decode cX9_waysOf 8 = .ok (.iconst 2, 1) := by decide +kernel
theorem dX9_waysOf_9 : decode cX9_waysOf 9 = .ok (.irem, 1) := by decide +kernel
theorem dX9_waysOf_10 : decode cX9_waysOf 10 = .ok (.ifCond .ne 7, 3) := by decide +kernel
theorem dX9_waysOf_13 : decode cX9_waysOf 13 = .ok (.iconst 1, 1) := by decide +kernel
theorem dX9_waysOf_14 : decode cX9_waysOf 14 = .ok (.goto 4, 3) := by decide +kernel
theorem dX9_waysOf_17 : decode cX9_waysOf 17 = .ok (.iconst 0, 1) := by decide +kernel
theorem dX9_waysOf_18 : decode cX9_waysOf 18 = .ok (.ireturn, 1) := by decide +kernel
set_option maxRecDepth 20000 in
theorem ggX9_fall_X1_faces : GoodIn wsX9_fall wsX1_faces := goodIn_r _ [8, 9, 10, 20, 21, 22, 23, 24, 25, 26, 27, 28, 29, 30, 31, 32, 33, 34] (by decide +kernel) (by decide +kernel)
set_option maxRecDepth 20000 in
theorem gX9_fall_X1_faces_u9X9 : GoodIn wsX9_fall (va_wsU RX9 9 RX9 "KingdomAtDice$Dice" ⟨"KingdomAtDice$Twins", "faces", "()I"⟩ yX1_faces wsX1_faces) := goodIn_app (goodIn_of _ (by decide +kernel)) ggX9_fall_X1_faces
set_option maxRecDepth 20000 in
theorem ggX9_fall_X2_next : GoodIn wsX9_fall wsX2_next := goodIn_r _ [14, 15, 16, 17, 18, 19, 35] (by decide +kernel) (by decide +kernel)
set_option maxRecDepth 20000 in
theorem gX9_fall_X2_next_n23 : GoodIn wsX9_fall (wsX2_next) := ggX9_fall_X2_next
theorem dX9_fall_0 : decode cX9_fall 0 = .ok (.iconst 2, 1) := by decide +kernel
theorem dX9_fall_1 : decode cX9_fall 1 = .ok (.aload_n 0, 1) := by decide +kernel
theorem dX9_fall_2 : decode cX9_fall 2 = .ok (.getfield 19, 3) := by decide +kernel
theorem dX9_fall_5 : decode cX9_fall 5 = .ok (.aload_n 1, 1) := by decide +kernel
theorem dX9_fall_6 : decode cX9_fall 6 = .ok (.aload_n 0, 1) := by decide +kernel
theorem dX9_fall_7 : decode cX9_fall 7 = .ok (.invokevirtual 9, 3) := by decide +kernel
theorem dX9_fall_10 : decode cX9_fall 10 = .ok (.invokevirtual 23, 3) := by decide +kernel
theorem dX9_fall_13 : decode cX9_fall 13 = .ok (.iadd, 1) := by decide +kernel
theorem dX9_fall_14 : decode cX9_fall 14 = .ok (.imul, 1) := by decide +kernel
theorem dX9_fall_15 : decode cX9_fall 15 = .ok (.ireturn, 1) := by decide +kernel
set_option maxRecDepth 20000 in
theorem ggX10_init_X6_init : GoodIn wsX10_init wsX6_init := goodIn_r _ [42, 43, 2, 3, 44, 45, 46, 100, 101] (by decide +kernel) (by decide +kernel)
set_option maxRecDepth 20000 in
theorem gX10_init_X6_init_n9 : GoodIn wsX10_init (wsX6_init) := ggX10_init_X6_init
set_option maxRecDepth 20000 in
theorem ggX10_init_X1_init : GoodIn wsX10_init wsX1_init := goodIn_r _ [49, 50, 2, 3, 51, 52, 53, 124, 125, 126, 112, 113, 114, 115, 116, 117, 121, 122, 123, 118, 119, 120] (by decide +kernel) (by decide +kernel)
set_option maxRecDepth 20000 in
theorem gX10_init_X1_init : GoodIn wsX10_init (wsX1_init) := ggX10_init_X1_init
set_option maxRecDepth 20000 in
theorem ggX10_init_X3_init : GoodIn wsX10_init wsX3_init := goodIn_r _ [56, 57, 48, 10, 49, 50, 2, 3, 51, 52, 53, 124, 125, 126, 112, 113, 114, 115, 116, 117, 121, 122, 123, 118, 119, 120] (by decide +kernel) (by decide +kernel)
set_option maxRecDepth 20000 in
theorem gX10_init_X3_init : GoodIn wsX10_init (wsX3_init) := ggX10_init_X3_init
set_option maxRecDepth 20000 in
theorem ggX10_init_X9_init : GoodIn wsX10_init wsX9_init := goodIn_r _ [60, 61, 48, 10, 49, 50, 2, 3, 51, 52, 53, 124, 125, 126, 112, 113, 114, 115, 116, 117, 121, 122, 123, 118, 119, 120] (by decide +kernel) (by decide +kernel)
set_option maxRecDepth 20000 in
theorem gX10_init_X9_init : GoodIn wsX10_init (wsX9_init) := ggX10_init_X9_init
set_option maxRecDepth 20000 in
theorem ggX10_init_X4_init : GoodIn wsX10_init wsX4_init := goodIn_r _ [64, 65, 48, 10, 49, 50, 2, 3, 51, 52, 53, 124, 125, 126, 112, 113, 114, 115, 116, 117, 121, 122, 123, 118, 119, 120] (by decide +kernel) (by decide +kernel)
set_option maxRecDepth 20000 in
theorem gX10_init_X4_init : GoodIn wsX10_init (wsX4_init) := ggX10_init_X4_init
set_option maxRecDepth 20000 in
theorem ggX10_init_X0_init : GoodIn wsX10_init wsX0_init := goodIn_r _ [68, 69, 55, 13, 56, 57, 48, 10, 49, 50, 2, 3, 51, 52, 53, 124, 125, 126, 112, 113, 114, 115, 116, 117, 121, 122, 123, 118, 119, 120] (by decide +kernel) (by decide +kernel)
set_option maxRecDepth 20000 in
theorem gX10_init_X0_init : GoodIn wsX10_init (wsX0_init) := ggX10_init_X0_init
set_option maxRecDepth 20000 in
theorem ggX10_init_X5_init : GoodIn wsX10_init wsX5_init := goodIn_r _ [71, 72, 2, 3, 44, 73, 74, 127, 128] (by decide +kernel) (by decide +kernel)
set_option maxRecDepth 20000 in
theorem gX10_init_X5_init_n41 : GoodIn wsX10_init (wsX5_init) := ggX10_init_X5_init
set_option maxRecDepth 20000 in
theorem ggX10_init_X2_init : GoodIn wsX10_init wsX2_init := goodIn_r _ [76, 77, 2, 3, 78, 129] (by decide +kernel) (by decide +kernel)
set_option maxRecDepth 20000 in
theorem gX10_init_X2_init_n48 : GoodIn wsX10_init (wsX2_init) := ggX10_init_X2_init
set_option maxRecDepth 20000 in
theorem ggX10_init_X7_init : GoodIn wsX10_init wsX7_init := goodIn_r _ [80, 81, 2, 3, 82, 83, 84, 85, 44, 86, 87, 88, 89, 90, 91, 92, 93, 94, 95, 96, 97, 98, 99, 130, 131, 132, 133, 134, 135, 136, 137, 138, 139, 140, 141] (by decide +kernel) (by decide +kernel)
set_option maxRecDepth 20000 in
theorem gX10_init_X7_init_n55 : GoodIn wsX10_init (wsX7_init) := ggX10_init_X7_init
theorem dX10_init_0 : decode cX10_init 0 = .ok (.aload_n 0, 1) := by decide +kernel
theorem dX10_init_1 : decode cX10_init 1 = .ok (.invokespecial 1, 3) := by decide +kernel
theorem dX10_init_4 : decode cX10_init 4 = .ok (.aload_n 0, 1) := by decide +kernel
theorem dX10_init_5 : decode cX10_init 5 = .ok (.new 7, 3) := by decide +kernel
theorem dX10_init_8 : decode cX10_init 8 = .ok (.dup, 1) := by decide +kernel
theorem dX10_init_9 : decode cX10_init 9 = .ok (.invokespecial 9, 3) := by decide +kernel
theorem dX10_init_12 : decode cX10_init 12 = .ok (.putfield 10, 3) := by decide +kernel
theorem dX10_init_15 : decode cX10_init 15 = .ok (.aload_n 0, 1) := by decide +kernel
theorem dX10_init_16 : decode cX10_init 16 = .ok (.iconst 5, 1) := by decide +kernel
theorem dX10_init_17 : decode cX10_init 17 = .ok (.anewarray 16, 3) := by decide +kernel
theorem dX10_init_20 : decode cX10_init 20 = .ok (.dup, 1) := by decide +kernel
theorem dX10_init_21 : decode cX10_init 21 = .ok (.iconst 0, 1) := by decide +kernel
theorem dX10_init_22 : decode cX10_init 22 = .ok (.new 16, 3) := by decide +kernel
theorem dX10_init_25 : decode cX10_init 25 = .ok (.dup, 1) := by decide +kernel
theorem dX10_init_26 : decode cX10_init 26 = .ok (.iconst 0, 1) := by decide +kernel
theorem dX10_init_27 : decode cX10_init 27 = .ok (.iconst 1, 1) := by decide +kernel
theorem dX10_init_28 : decode cX10_init 28 = .ok (.bipush 6, 2) := by decide +kernel
theorem dX10_init_30 : decode cX10_init 30 = .ok (.invokespecial 18, 3) := by decide +kernel
theorem dX10_init_33 : decode cX10_init 33 = .ok (.aastore, 1) := by decide +kernel
theorem dX10_init_34 : decode cX10_init 34 = .ok (.dup, 1) := by decide +kernel
theorem dX10_init_35 : decode cX10_init 35 = .ok (.iconst 1, 1) := by decide +kernel
theorem dX10_init_36 : decode cX10_init 36 = .ok (.new 21, 3) := by decide +kernel
theorem dX10_init_39 : decode cX10_init 39 = .ok (.dup, 1) := by decide +kernel
theorem dX10_init_40 : decode cX10_init 40 = .ok (.iconst 1, 1) := by decide +kernel
theorem dX10_init_41 : decode cX10_init 41 = .ok (.iconst 2, 1) := by decide +kernel
theorem dX10_init_42 : decode cX10_init 42 = .ok (.invokespecial 23, 3) := by decide +kernel
theorem dX10_init_45 : decode cX10_init 45 = .ok (.aastore, 1) := by decide +kernel
theorem dX10_init_46 : decode cX10_init 46 = .ok (.dup, 1) := by decide +kernel
theorem dX10_init_47 : decode cX10_init 47 = .ok (.iconst 2, 1) := by decide +kernel
theorem dX10_init_48 : decode cX10_init 48 = .ok (.new 26, 3) := by decide +kernel
theorem dX10_init_51 : decode cX10_init 51 = .ok (.dup, 1) := by decide +kernel
theorem dX10_init_52 : decode cX10_init 52 = .ok (.invokespecial 28, 3) := by decide +kernel
theorem dX10_init_55 : decode cX10_init 55 = .ok (.aastore, 1) := by decide +kernel
theorem dX10_init_56 : decode cX10_init 56 = .ok (.dup, 1) := by decide +kernel
theorem dX10_init_57 : decode cX10_init 57 = .ok (.iconst 3, 1) := by decide +kernel
theorem dX10_init_58 : decode cX10_init 58 = .ok (.new 29, 3) := by decide +kernel
theorem dX10_init_61 : decode cX10_init 61 = .ok (.dup, 1) := by decide +kernel
theorem dX10_init_62 : decode cX10_init 62 = .ok (.invokespecial 31, 3) := by decide +kernel
theorem dX10_init_65 : decode cX10_init 65 = .ok (.aastore, 1) := by decide +kernel
theorem dX10_init_66 : decode cX10_init 66 = .ok (.dup, 1) := by decide +kernel
theorem dX10_init_67 : decode cX10_init 67 = .ok (.iconst 4, 1) := by decide +kernel
theorem dX10_init_68 : decode cX10_init 68 = .ok (.new 32, 3) := by decide +kernel
theorem dX10_init_71 : decode cX10_init 71 = .ok (.dup, 1) := by decide +kernel
theorem dX10_init_72 : decode cX10_init 72 = .ok (.invokespecial 34, 3) := by decide +kernel
theorem dX10_init_75 : decode cX10_init 75 = .ok (.aastore, 1) := by decide +kernel
theorem dX10_init_76 : decode cX10_init 76 = .ok (.putfield 35, 3) := by decide +kernel
theorem dX10_init_79 : decode cX10_init 79 = .ok (.aload_n 0, 1) := by decide +kernel
theorem dX10_init_80 : decode cX10_init 80 = .ok (.new 39, 3) := by decide +kernel
theorem dX10_init_83 : decode cX10_init 83 = .ok (.dup, 1) := by decide +kernel
theorem dX10_init_84 : decode cX10_init 84 = .ok (.invokespecial 41, 3) := by decide +kernel
theorem dX10_init_87 : decode cX10_init 87 = .ok (.putfield 42, 3) := by decide +kernel
theorem dX10_init_90 : decode cX10_init 90 = .ok (.aload_n 0, 1) := by decide +kernel
theorem dX10_init_91 : decode cX10_init 91 = .ok (.new 46, 3) := by decide +kernel
theorem dX10_init_94 : decode cX10_init 94 = .ok (.dup, 1) := by decide +kernel
theorem dX10_init_95 : decode cX10_init 95 = .ok (.invokespecial 48, 3) := by decide +kernel
theorem dX10_init_98 : decode cX10_init 98 = .ok (.putfield 49, 3) := by decide +kernel
theorem dX10_init_101 : decode cX10_init 101 = .ok (.aload_n 0, 1) := by decide +kernel
theorem dX10_init_102 : decode cX10_init 102 = .ok (.new 53, 3) := by decide +kernel
theorem dX10_init_105 : decode cX10_init 105 = .ok (.dup, 1) := by decide +kernel
theorem dX10_init_106 : decode cX10_init 106 = .ok (.invokespecial 55, 3) := by decide +kernel
theorem dX10_init_109 : decode cX10_init 109 = .ok (.putfield 56, 3) := by decide +kernel
theorem dX10_init_112 : decode cX10_init 112 = .ok (.aload_n 0, 1) := by decide +kernel
theorem dX10_init_113 : decode cX10_init 113 = .ok (.new 53, 3) := by decide +kernel
theorem dX10_init_116 : decode cX10_init 116 = .ok (.dup, 1) := by decide +kernel
theorem dX10_init_117 : decode cX10_init 117 = .ok (.invokespecial 55, 3) := by decide +kernel
theorem dX10_init_120 : decode cX10_init 120 = .ok (.putfield 60, 3) := by decide +kernel
theorem dX10_init_123 : decode cX10_init 123 = .ok (.aload_n 0, 1) := by decide +kernel
theorem dX10_init_124 : decode cX10_init 124 = .ok (.aload_n 0, 1) := by decide +kernel
theorem dX10_init_125 : decode cX10_init 125 = .ok (.getfield 35, 3) := by decide +kernel
theorem dX10_init_128 : decode cX10_init 128 = .ok (.iconst 0, 1) := by decide +kernel
theorem dX10_init_129 : decode cX10_init 129 = .ok (.aaload, 1) := by decide +kernel
theorem dX10_init_130 : decode cX10_init 130 = .ok (.putfield 63, 3) := by decide +kernel
theorem dX10_init_133 : decode cX10_init 133 = .ok (.aload_n 0, 1) := by decide +kernel
theorem dX10_init_134 : decode cX10_init 134 = .ok (.aload_n 0, 1) := by decide +kernel
theorem dX10_init_135 : decode cX10_init 135 = .ok (.getfield 35, 3) := by decide +kernel
theorem dX10_init_138 : decode cX10_init 138 = .ok (.iconst 0, 1) := by decide +kernel
theorem dX10_init_139 : decode cX10_init 139 = .ok (.aaload, 1) := by decide +kernel
theorem dX10_init_140 : decode cX10_init 140 = .ok (.putfield 67, 3) := by decide +kernel
theorem dX10_init_143 : decode cX10_init 143 = .ok (.aload_n 0, 1) := by decide +kernel
theorem dX10_init_144 : decode cX10_init 144 = .ok (.iconst 0, 1) := by decide +kernel
theorem dX10_init_145 : decode cX10_init 145 = .ok (.putfield 70, 3) := by decide +kernel
theorem dX10_init_148 : decode cX10_init 148 = .ok (.aload_n 0, 1) := by decide +kernel
theorem dX10_init_149 : decode cX10_init 149 = .ok (.iconst 0, 1) := by decide +kernel
theorem dX10_init_150 : decode cX10_init 150 = .ok (.putfield 74, 3) := by decide +kernel
theorem dX10_init_153 : decode cX10_init 153 = .ok (.return_, 1) := by decide +kernel
set_option maxRecDepth 20000 in
theorem ggX10_letter_X6_isFull : GoodIn wsX10_letter wsX6_isFull := goodIn_r _ [5, 6, 7, 22, 23] (by decide +kernel) (by decide +kernel)
set_option maxRecDepth 20000 in
theorem gX10_letter_X6_isFull_n78 : GoodIn wsX10_letter (wsX6_isFull) := ggX10_letter_X6_isFull
set_option maxRecDepth 20000 in
theorem ggX10_letter_X6_push : GoodIn wsX10_letter wsX6_push := goodIn_r _ [10, 7, 6, 11, 2, 4, 3, 5, 22, 23] (by decide +kernel) (by decide +kernel)
set_option maxRecDepth 20000 in
theorem gX10_letter_X6_push_n82 : GoodIn wsX10_letter (wsX6_push) := ggX10_letter_X6_push
theorem dX10_letter_0 : decode cX10_letter 0 = .ok (.iload_n 1, 1) := by decide +kernel
theorem dX10_letter_1 : decode cX10_letter 1 = .ok (.iconst 1, 1) := by decide +kernel
theorem dX10_letter_2 : decode cX10_letter 2 = .ok (.if_icmp .lt 9, 3) := by decide +kernel
theorem dX10_letter_5 : decode cX10_letter 5 = .ok (.iload_n 1, 1) := by decide +kernel
theorem dX10_letter_6 : decode cX10_letter 6 = .ok (.bipush 126, 2) := by decide +kernel
theorem dX10_letter_8 : decode cX10_letter 8 = .ok (.if_icmp .le 6, 3) := by decide +kernel
theorem dX10_letter_11 : decode cX10_letter 11 = .ok (.bipush (-102), 2) := by decide +kernel
theorem dX10_letter_13 : decode cX10_letter 13 = .ok (.ireturn, 1) := by decide +kernel
theorem dX10_letter_14 : decode cX10_letter 14 = .ok (.aload_n 0, 1) := by decide +kernel
theorem dX10_letter_15 : decode cX10_letter 15 = .ok (.getfield 10, 3) := by decide +kernel
theorem dX10_letter_18 : decode cX10_letter 18 = .ok (.invokevirtual 78, 3) := by decide +kernel
theorem dX10_letter_21 : decode cX10_letter 21 = .ok (.ifCond .eq 8, 3) := by decide +kernel
theorem dX10_letter_24 : decode cX10_letter 24 = .ok (.bipush (-104), 2) := by decide +kernel
theorem dX10_letter_26 : decode cX10_letter 26 = .ok (.goto 11, 3) := by decide +kernel
theorem dX10_letter_29 : decode cX10_letter 29 = .ok (.aload_n 0, 1) := by decide +kernel
theorem dX10_letter_30 : decode cX10_letter 30 = .ok (.getfield 10, 3) := by decide +kernel
theorem dX10_letter_33 : decode cX10_letter 33 = .ok (.iload_n 1, 1) := by decide +kernel
theorem dX10_letter_34 : decode cX10_letter 34 = .ok (.invokevirtual 82, 3) := by decide +kernel
theorem dX10_letter_37 : decode cX10_letter 37 = .ok (.ireturn, 1) := by decide +kernel
set_option maxRecDepth 20000 in
theorem ggX10_blank_X6_clear : GoodIn wsX10_blank wsX6_clear := goodIn_r _ [5, 6, 17, 18] (by decide +kernel) (by decide +kernel)
set_option maxRecDepth 20000 in
theorem gX10_blank_X6_clear_n86 : GoodIn wsX10_blank (wsX6_clear) := ggX10_blank_X6_clear
theorem dX10_blank_0 : decode cX10_blank 0 = .ok (.aload_n 0, 1) := by decide +kernel
theorem dX10_blank_1 : decode cX10_blank 1 = .ok (.getfield 10, 3) := by decide +kernel
theorem dX10_blank_4 : decode cX10_blank 4 = .ok (.invokevirtual 86, 3) := by decide +kernel
theorem dX10_blank_7 : decode cX10_blank 7 = .ok (.ireturn, 1) := by decide +kernel
set_option maxRecDepth 20000 in
theorem ggX10_fault_X6_faultPlace : GoodIn wsX10_fault wsX6_faultPlace := goodIn_r _ [5, 6, 7, 8, 9, 3, 10, 11, 12, 13, 14, 15, 16, 17, 18, 19, 20, 21, 22, 23, 24, 25, 26, 27, 28, 29, 30, 31, 32, 33, 34, 35, 36, 37, 38, 39, 40, 41, 42, 43, 44, 45, 46, 47, 48, 49, 50, 51, 52, 53, 54, 55, 56, 57, 58, 59, 60, 61, 62, 63, 64, 65, 66, 67, 68, 69, 70, 71, 72, 73, 74, 75, 76, 77, 78, 79, 80, 81, 82, 83, 84, 85, 86, 87, 88, 89, 90, 91, 92, 93, 94, 95, 96, 97, 98, 99, 100, 101, 102, 103, 104, 105, 106, 107, 108, 109, 120, 121] (by decide +kernel) (by decide +kernel)
set_option maxRecDepth 20000 in
theorem gX10_fault_X6_faultPlace_n90 : GoodIn wsX10_fault (wsX6_faultPlace) := ggX10_fault_X6_faultPlace
theorem dX10_fault_0 : decode cX10_fault 0 = .ok (.aload_n 0, 1) := by decide +kernel
theorem dX10_fault_1 : decode cX10_fault 1 = .ok (.getfield 10, 3) := by decide +kernel
theorem dX10_fault_4 : decode cX10_fault 4 = .ok (.invokevirtual 90, 3) := by decide +kernel
theorem dX10_fault_7 : decode cX10_fault 7 = .ok (.ireturn, 1) := by decide +kernel
set_option maxRecDepth 20000 in
theorem ggX10_hall_X6_isHall : GoodIn wsX10_hall wsX6_isHall := goodIn_r _ [11, 12, 13, 14, 15, 9, 16, 17, 18, 19, 20, 21, 22, 23, 24, 25, 26, 27, 28, 29, 30, 31, 32, 33, 34, 35, 36, 37, 38, 39, 40, 41, 42, 43, 44, 45, 46, 47, 48, 49, 50, 51, 52, 53, 54, 55, 56, 57, 58, 59, 60, 61, 62, 63, 64, 65, 66, 67, 68, 69, 70, 71, 72, 73, 74, 75, 76, 77, 78, 79, 80, 81, 82, 83, 84, 85, 86, 87, 88, 89, 90, 91, 92, 93, 94, 95, 96, 97, 98, 99, 100, 101, 102, 103, 104, 105, 106, 107, 108, 109, 110, 111, 112, 113, 114, 115, 116, 117, 118, 119, 235, 236] (by decide +kernel) (by decide +kernel)
set_option maxRecDepth 20000 in
theorem gX10_hall_X6_isHall_n93 : GoodIn wsX10_hall (wsX6_isHall) := ggX10_hall_X6_isHall
set_option maxRecDepth 20000 in
theorem ggX10_hall_X7_begin : GoodIn wsX10_hall wsX7_begin := goodIn_r _ [123, 124, 125, 61, 58, 62, 126, 127, 128, 129, 130, 9, 131, 132, 12, 133, 134, 135, 13, 14, 15, 16, 17, 18, 19, 20, 28, 29, 30, 31, 32, 33, 34, 35, 36, 37, 38, 39, 40, 41, 42, 43, 44, 45, 46, 47, 48, 49, 50, 51, 52, 53, 54, 55, 56, 57, 59, 60, 63, 64, 65, 66, 67, 68, 69, 70, 71, 72, 73, 74, 75, 76, 77, 78, 79, 80, 81, 82, 83, 84, 85, 86, 87, 88, 89, 90, 91, 92, 93, 94, 95, 96, 97, 98, 99, 100, 101, 102, 103, 104, 105, 106, 107, 108, 109, 110, 111, 112, 113, 114, 115, 116, 136, 137, 138, 139, 140, 141, 142, 143, 144, 145, 146, 147, 148, 229, 230, 231, 232, 233, 234, 235, 236, 237, 238, 239, 240, 241, 242] (by decide +kernel) (by decide +kernel)
set_option maxRecDepth 20000 in
theorem gX10_hall_X7_begin_n96 : GoodIn wsX10_hall (wsX7_begin) := ggX10_hall_X7_begin
set_option maxRecDepth 20000 in
theorem ggX10_hall_X6_kingKindCode : GoodIn wsX10_hall wsX6_kingKindCode := goodIn_r _ [151, 12, 13, 14, 15, 9, 16, 17, 18, 19, 20, 235, 236] (by decide +kernel) (by decide +kernel)
set_option maxRecDepth 20000 in
theorem gX10_hall_X6_kingKindCode_n100 : GoodIn wsX10_hall (wsX6_kingKindCode) := ggX10_hall_X6_kingKindCode
set_option maxRecDepth 20000 in
theorem ggX10_hall_X10_diceByLetter : GoodIn wsX10_hall wsX10_diceByLetter := goodIn_r _ [155, 156, 157, 29, 30, 31, 32, 33, 34, 35, 36, 37, 38, 39, 40, 41, 42, 43, 44, 45, 46, 47, 48, 49, 50, 51, 52, 53, 54, 55, 56, 57, 58, 59, 60, 61, 62, 63, 64, 65, 66, 67, 68, 69, 70, 71, 72, 73, 74, 75, 76, 77, 78, 79, 80, 81, 82, 83, 84, 85, 86, 87, 88, 89, 90, 91, 92, 93, 94, 95, 96, 97, 98, 99, 100, 101, 102, 103, 104, 105, 106, 107, 108, 109, 110, 111, 112, 113, 114, 115, 116, 158, 18, 19, 20, 219, 220, 221, 222, 223, 224, 225, 226, 227, 228] (by decide +kernel) (by decide +kernel)
set_option maxRecDepth 20000 in
theorem gX10_hall_X10_diceByLetter : GoodIn wsX10_hall (wsV RX10 103 RX10 yX10_diceByLetter wsX10_diceByLetter) := goodIn_app (goodIn_of _ (by decide +kernel)) ggX10_hall_X10_diceByLetter
set_option maxRecDepth 20000 in
theorem ggX10_hall_X6_cousinKindCode : GoodIn wsX10_hall wsX6_cousinKindCode := goodIn_r _ [161, 12, 13, 14, 15, 9, 16, 17, 18, 19, 20, 235, 236] (by decide +kernel) (by decide +kernel)
set_option maxRecDepth 20000 in
theorem gX10_hall_X6_cousinKindCode_n107 : GoodIn wsX10_hall (wsX6_cousinKindCode) := ggX10_hall_X6_cousinKindCode
set_option maxRecDepth 20000 in
theorem ggX10_hall_X5_reckon : GoodIn wsX10_hall wsX5_reckon := goodIn_r _ [165, 166, 167, 168, 169, 163, 170, 171, 172, 173, 174, 175, 176, 177, 178, 179, 19, 180, 181, 182, 183, 184, 185, 186, 187, 188, 189, 190, 191, 192, 193, 194, 195, 196, 197, 198, 199, 200, 201, 202, 203, 204, 205, 206, 207, 208, 209, 210, 211, 212, 213, 214, 215, 243, 244, 245, 246, 247, 248, 249, 250, 251, 252, 253, 254, 255, 256, 257, 258, 259] (by decide +kernel) (by decide +kernel)
set_option maxRecDepth 20000 in
theorem gX10_hall_X5_reckon_n110 : GoodIn wsX10_hall (wsX5_reckon) := ggX10_hall_X5_reckon
set_option maxRecDepth 20000 in
theorem ggX10_hall_X6_clear : GoodIn wsX10_hall wsX6_clear := goodIn_r _ [218, 12, 235, 236] (by decide +kernel) (by decide +kernel)
set_option maxRecDepth 20000 in
theorem gX10_hall_X6_clear_n86 : GoodIn wsX10_hall (wsX6_clear) := ggX10_hall_X6_clear
theorem dX10_hall_0 : decode cX10_hall 0 = .ok (.aload_n 0, 1) := by decide +kernel
theorem dX10_hall_1 : decode cX10_hall 1 = .ok (.getfield 10, 3) := by decide +kernel
theorem dX10_hall_4 : decode cX10_hall 4 = .ok (.invokevirtual 93, 3) := by decide +kernel
theorem dX10_hall_7 : decode cX10_hall 7 = .ok (.ifCond .ne 6, 3) := by decide +kernel
theorem dX10_hall_10 : decode cX10_hall 10 = .ok (.bipush (-103), 2) := by decide +kernel
theorem dX10_hall_12 : decode cX10_hall 12 = .ok (.ireturn, 1) := by decide +kernel
theorem dX10_hall_13 : decode cX10_hall 13 = .ok (.aload_n 0, 1) := by decide +kernel
theorem dX10_hall_14 : decode cX10_hall 14 = .ok (.getfield 56, 3) := by decide +kernel
theorem dX10_hall_17 : decode cX10_hall 17 = .ok (.aload_n 0, 1) := by decide +kernel
theorem dX10_hall_18 : decode cX10_hall 18 = .ok (.getfield 10, 3) := by decide +kernel
theorem dX10_hall_21 : decode cX10_hall 21 = .ok (.invokevirtual 96, 3) := by decide +kernel
theorem dX10_hall_24 : decode cX10_hall 24 = .ok (.aload_n 0, 1) := by decide +kernel
theorem dX10_hall_25 : decode cX10_hall 25 = .ok (.aload_n 0, 1) := by decide +kernel
theorem dX10_hall_26 : decode cX10_hall 26 = .ok (.aload_n 0, 1) := by decide +kernel
theorem dX10_hall_27 : decode cX10_hall 27 = .ok (.getfield 10, 3) := by decide +kernel
theorem dX10_hall_30 : decode cX10_hall 30 = .ok (.invokevirtual 100, 3) := by decide +kernel
theorem dX10_hall_33 : decode cX10_hall 33 = .ok (.invokevirtual 103, 3) := by decide +kernel
theorem dX10_hall_36 : decode cX10_hall 36 = .ok (.putfield 63, 3) := by decide +kernel
theorem dX10_hall_39 : decode cX10_hall 39 = .ok (.aload_n 0, 1) := by decide +kernel
theorem dX10_hall_40 : decode cX10_hall 40 = .ok (.aload_n 0, 1) := by decide +kernel
theorem dX10_hall_41 : decode cX10_hall 41 = .ok (.aload_n 0, 1) := by decide +kernel
theorem dX10_hall_42 : decode cX10_hall 42 = .ok (.getfield 10, 3) := by decide +kernel
theorem dX10_hall_45 : decode cX10_hall 45 = .ok (.invokevirtual 107, 3) := by decide +kernel
theorem dX10_hall_48 : decode cX10_hall 48 = .ok (.invokevirtual 103, 3) := by decide +kernel
theorem dX10_hall_51 : decode cX10_hall 51 = .ok (.putfield 67, 3) := by decide +kernel
theorem dX10_hall_54 : decode cX10_hall 54 = .ok (.aload_n 0, 1) := by decide +kernel
theorem dX10_hall_55 : decode cX10_hall 55 = .ok (.getfield 42, 3) := by decide +kernel
theorem dX10_hall_58 : decode cX10_hall 58 = .ok (.aload_n 0, 1) := by decide +kernel
theorem dX10_hall_59 : decode cX10_hall 59 = .ok (.getfield 63, 3) := by decide +kernel
theorem dX10_hall_62 : decode cX10_hall 62 = .ok (.aload_n 0, 1) := by decide +kernel
theorem dX10_hall_63 : decode cX10_hall 63 = .ok (.getfield 67, 3) := by decide +kernel
theorem dX10_hall_66 : decode cX10_hall 66 = .ok (.invokevirtual 110, 3) := by decide +kernel
theorem dX10_hall_69 : decode cX10_hall 69 = .ok (.aload_n 0, 1) := by decide +kernel
theorem dX10_hall_70 : decode cX10_hall 70 = .ok (.iconst 0, 1) := by decide +kernel
theorem dX10_hall_71 : decode cX10_hall 71 = .ok (.putfield 70, 3) := by decide +kernel
theorem dX10_hall_74 : decode cX10_hall 74 = .ok (.aload_n 0, 1) := by decide +kernel
theorem dX10_hall_75 : decode cX10_hall 75 = .ok (.dup, 1) := by decide +kernel
theorem dX10_hall_76 : decode cX10_hall 76 = .ok (.getfield 74, 3) := by decide +kernel
theorem dX10_hall_79 : decode cX10_hall 79 = .ok (.iconst 1, 1) := by decide +kernel
theorem dX10_hall_80 : decode cX10_hall 80 = .ok (.iadd, 1) := by decide +kernel
theorem dX10_hall_81 : decode cX10_hall 81 = .ok (.putfield 74, 3) := by decide +kernel
theorem dX10_hall_84 : decode cX10_hall 84 = .ok (.aload_n 0, 1) := by decide +kernel
theorem dX10_hall_85 : decode cX10_hall 85 = .ok (.getfield 10, 3) := by decide +kernel
theorem dX10_hall_88 : decode cX10_hall 88 = .ok (.invokevirtual 86, 3) := by decide +kernel
theorem dX10_hall_91 : decode cX10_hall 91 = .ok (.pop, 1) := by decide +kernel
theorem dX10_hall_92 : decode cX10_hall 92 = .ok (.aload_n 0, 1) := by decide +kernel
theorem dX10_hall_93 : decode cX10_hall 93 = .ok (.getfield 56, 3) := by decide +kernel
theorem dX10_hall_96 : decode cX10_hall 96 = .ok (.getfield 114, 3) := by decide +kernel
theorem dX10_hall_99 : decode cX10_hall 99 = .ok (.ireturn, 1) := by decide +kernel
set_option maxRecDepth 20000 in
theorem ggX10_thing_X7_has : GoodIn wsX10_thing wsX7_has := goodIn_r _ [5, 6, 7, 8, 9, 31, 32, 33, 34, 35, 36] (by decide +kernel) (by decide +kernel)
set_option maxRecDepth 20000 in
theorem gX10_thing_X7_has_n117 : GoodIn wsX10_thing (wsX7_has) := ggX10_thing_X7_has
set_option maxRecDepth 20000 in
theorem ggX10_thing_X10_isBelow : GoodIn wsX10_thing wsX10_isBelow := goodIn_r _ [9] (by decide +kernel) (by decide +kernel)
set_option maxRecDepth 20000 in
theorem gX10_thing_X10_isBelow : GoodIn wsX10_thing (va_wsS RX10 121 yX10_isBelow wsX10_isBelow) := goodIn_app (goodIn_of _ (by decide +kernel)) ggX10_thing_X10_isBelow
set_option maxRecDepth 20000 in
theorem ggX10_thing_X8_tell : GoodIn wsX10_thing wsX8_tell := goodIn_r _ [14, 15, 16, 17, 18, 19, 20, 37, 38, 39, 40, 41, 42] (by decide +kernel) (by decide +kernel)
set_option maxRecDepth 20000 in
theorem gX10_thing_X8_tell_n129 : GoodIn wsX10_thing (wsX8_tell) := ggX10_thing_X8_tell
theorem dX10_thing_0 : decode cX10_thing 0 = .ok (.aload_n 0, 1) := by decide +kernel
theorem dX10_thing_1 : decode cX10_thing 1 = .ok (.getfield 56, 3) := by decide +kernel
theorem dX10_thing_4 : decode cX10_thing 4 = .ok (.iload_n 1, 1) := by decide +kernel
theorem dX10_thing_5 : decode cX10_thing 5 = .ok (.invokevirtual 117, 3) := by decide +kernel
theorem dX10_thing_8 : decode cX10_thing 8 = .ok (.ifCond .ne 6, 3) := by decide +kernel
theorem dX10_thing_11 : decode cX10_thing 11 = .ok (.bipush (-101), 2) := by decide +kernel
theorem dX10_thing_13 : decode cX10_thing 13 = .ok (.ireturn, 1) := by decide +kernel
theorem dX10_thing_14 : decode cX10_thing 14 = .ok (.iload_n 2, 1) := by decide +kernel
theorem dX10_thing_15 : decode cX10_thing 15 = .ok (.bipush 6, 2) := by decide +kernel
theorem dX10_thing_17 : decode cX10_thing 17 = .ok (.invokestatic 121, 3) := by decide +kernel
theorem dX10_thing_20 : decode cX10_thing 20 = .ok (.ifCond .eq 19, 3) := by decide +kernel
theorem dX10_thing_23 : decode cX10_thing 23 = .ok (.aload_n 0, 1) := by decide +kernel
theorem dX10_thing_24 : decode cX10_thing 24 = .ok (.getfield 56, 3) := by decide +kernel
theorem dX10_thing_27 : decode cX10_thing 27 = .ok (.getfield 125, 3) := by decide +kernel
theorem dX10_thing_30 : decode cX10_thing 30 = .ok (.iload_n 1, 1) := by decide +kernel
theorem dX10_thing_31 : decode cX10_thing 31 = .ok (.aaload, 1) := by decide +kernel
theorem dX10_thing_32 : decode cX10_thing 32 = .ok (.iload_n 2, 1) := by decide +kernel
theorem dX10_thing_33 : decode cX10_thing 33 = .ok (.invokevirtual 129, 3) := by decide +kernel
theorem dX10_thing_36 : decode cX10_thing 36 = .ok (.goto 5, 3) := by decide +kernel
theorem dX10_thing_39 : decode cX10_thing 39 = .ok (.bipush (-102), 2) := by decide +kernel
theorem dX10_thing_41 : decode cX10_thing 41 = .ok (.ireturn, 1) := by decide +kernel
set_option maxRecDepth 20000 in
theorem ggX10_dice_X10_hasDice : GoodIn wsX10_dice wsX10_hasDice := goodIn_r _ [5, 6, 7, 8, 9, 10, 11, 62, 63, 64, 65, 66, 67, 68, 69, 70, 71, 72, 73, 74, 75, 76, 77] (by decide +kernel) (by decide +kernel)
set_option maxRecDepth 20000 in
theorem gX10_dice_X10_hasDice : GoodIn wsX10_dice (wsV RX10 134 RX10 yX10_hasDice wsX10_hasDice) := goodIn_app (goodIn_of _ (by decide +kernel)) ggX10_dice_X10_hasDice
set_option maxRecDepth 20000 in
theorem ggX10_dice_X10_isBelow : GoodIn wsX10_dice wsX10_isBelow := goodIn_r _ [14] (by decide +kernel) (by decide +kernel)
set_option maxRecDepth 20000 in
theorem gX10_dice_X10_isBelow : GoodIn wsX10_dice (va_wsS RX10 121 yX10_isBelow wsX10_isBelow) := goodIn_app (goodIn_of _ (by decide +kernel)) ggX10_dice_X10_isBelow
set_option maxRecDepth 20000 in
theorem ggX10_dice_X10_diceOf : GoodIn wsX10_dice wsX10_diceOf := goodIn_r _ [18, 19, 20, 62, 63, 64, 65, 66, 67, 68, 69, 70, 71] (by decide +kernel) (by decide +kernel)
set_option maxRecDepth 20000 in
theorem gX10_dice_X10_diceOf : GoodIn wsX10_dice (wsV RX10 137 RX10 yX10_diceOf wsX10_diceOf) := goodIn_app (goodIn_of _ (by decide +kernel)) ggX10_dice_X10_diceOf
set_option maxRecDepth 20000 in
theorem ggX10_dice_X1_tell : GoodIn wsX10_dice wsX1_tell := goodIn_r _ [26, 27, 28, 29, 30, 31, 32, 33, 25, 34, 35, 36, 37, 38, 39, 40, 41, 42, 43, 44, 45, 46, 47, 48, 49, 50, 51, 52, 53, 54, 55, 56, 78, 79, 80, 81, 82, 83, 84, 85, 86, 87, 88, 89, 90, 91, 92] (by decide +kernel) (by decide +kernel)
set_option maxRecDepth 20000 in
theorem gX10_dice_X1_tell_u140X0 : GoodIn wsX10_dice (va_wsU RX10 140 RX0 "KingdomAtDice$Dice" ⟨"KingdomAtDice$Dice", "tell", "(I)I"⟩ yX1_tell wsX1_tell) := goodIn_app (goodIn_of _ (by decide +kernel)) ggX10_dice_X1_tell
set_option maxRecDepth 20000 in
theorem gX10_dice_X1_tell : GoodIn wsX10_dice (wsV RX10 140 RX1 yX1_tell wsX1_tell) := goodIn_app (goodIn_of _ (by decide +kernel)) ggX10_dice_X1_tell
set_option maxRecDepth 20000 in
theorem gX10_dice_X1_tell_u140X3 : GoodIn wsX10_dice (va_wsU RX10 140 RX3 "KingdomAtDice$Dice" ⟨"KingdomAtDice$Dice", "tell", "(I)I"⟩ yX1_tell wsX1_tell) := goodIn_app (goodIn_of _ (by decide +kernel)) ggX10_dice_X1_tell
set_option maxRecDepth 20000 in
theorem gX10_dice_X1_tell_u140X4 : GoodIn wsX10_dice (va_wsU RX10 140 RX4 "KingdomAtDice$Dice" ⟨"KingdomAtDice$Dice", "tell", "(I)I"⟩ yX1_tell wsX1_tell) := goodIn_app (goodIn_of _ (by decide +kernel)) ggX10_dice_X1_tell
set_option maxRecDepth 20000 in
theorem gX10_dice_X1_tell_u140X9 : GoodIn wsX10_dice (va_wsU RX10 140 RX9 "KingdomAtDice$Dice" ⟨"KingdomAtDice$Dice", "tell", "(I)I"⟩ yX1_tell wsX1_tell) := goodIn_app (goodIn_of _ (by decide +kernel)) ggX10_dice_X1_tell
theorem dX10_dice_0 : decode cX10_dice 0 = .ok (.aload_n 0, 1) := by decide +kernel
theorem dX10_dice_1 : decode cX10_dice 1 = .ok (.iload_n 1, 1) := by decide +kernel
theorem dX10_dice_2 : decode cX10_dice 2 = .ok (.invokevirtual 134, 3) := by decide +kernel
theorem dX10_dice_5 : decode cX10_dice 5 = .ok (.ifCond .ne 6, 3) := by decide +kernel
theorem dX10_dice_8 : decode cX10_dice 8 = .ok (.bipush (-101), 2) := by decide +kernel
theorem dX10_dice_10 : decode cX10_dice 10 = .ok (.ireturn, 1) := by decide +kernel
theorem dX10_dice_11 : decode cX10_dice 11 = .ok (.iload_n 2, 1) := by decide +kernel
theorem dX10_dice_12 : decode cX10_dice 12 = .ok (.iconst 4, 1) := by decide +kernel
theorem dX10_dice_13 : decode cX10_dice 13 = .ok (.invokestatic 121, 3) := by decide +kernel
theorem dX10_dice_16 : decode cX10_dice 16 = .ok (.ifCond .eq 15, 3) := by decide +kernel
theorem dX10_dice_19 : decode cX10_dice 19 = .ok (.aload_n 0, 1) := by decide +kernel
theorem dX10_dice_20 : decode cX10_dice 20 = .ok (.iload_n 1, 1) := by decide +kernel
theorem dX10_dice_21 : decode cX10_dice 21 = .ok (.invokevirtual 137, 3) := by decide +kernel
theorem dX10_dice_24 : decode cX10_dice 24 = .ok (.iload_n 2, 1) := by decide +kernel
theorem dX10_dice_25 : decode cX10_dice 25 = .ok (.invokevirtual 140, 3) := by decide +kernel
theorem dX10_dice_28 : decode cX10_dice 28 = .ok (.goto 5, 3) := by decide +kernel
theorem dX10_dice_31 : decode cX10_dice 31 = .ok (.bipush (-102), 2) := by decide +kernel
theorem dX10_dice_33 : decode cX10_dice 33 = .ok (.ireturn, 1) := by decide +kernel
set_option maxRecDepth 20000 in
theorem ggX10_as_X10_hasDice : GoodIn wsX10_as wsX10_hasDice := goodIn_r _ [5, 6, 7, 8, 9, 10, 11, 28, 29, 30, 31, 32, 33, 34, 35, 36, 37, 38, 39, 40, 41, 42, 43] (by decide +kernel) (by decide +kernel)
set_option maxRecDepth 20000 in
theorem gX10_as_X10_hasDice : GoodIn wsX10_as (wsV RX10 134 RX10 yX10_hasDice wsX10_hasDice) := goodIn_app (goodIn_of _ (by decide +kernel)) ggX10_as_X10_hasDice
set_option maxRecDepth 20000 in
theorem ggX10_as_X10_isBelow : GoodIn wsX10_as wsX10_isBelow := goodIn_r _ [14] (by decide +kernel) (by decide +kernel)
set_option maxRecDepth 20000 in
theorem gX10_as_X10_isBelow : GoodIn wsX10_as (va_wsS RX10 121 yX10_isBelow wsX10_isBelow) := goodIn_app (goodIn_of _ (by decide +kernel)) ggX10_as_X10_isBelow
set_option maxRecDepth 20000 in
theorem ggX10_as_X10_diceOf : GoodIn wsX10_as wsX10_diceOf := goodIn_r _ [18, 19, 20, 28, 29, 30, 31, 32, 33, 34, 35, 36, 37] (by decide +kernel) (by decide +kernel)
set_option maxRecDepth 20000 in
theorem gX10_as_X10_diceOf : GoodIn wsX10_as (wsV RX10 137 RX10 yX10_diceOf wsX10_diceOf) := goodIn_app (goodIn_of _ (by decide +kernel)) ggX10_as_X10_diceOf
end
section
set_option maxRecDepth 20000 in
theorem ggX10_as_X10_isOfKind : GoodIn wsX10_as wsX10_isOfKind := goodIn_r _ [23, 24, 25, 26, 27] (by decide +kernel) (by decide +kernel)
set_option maxRecDepth 20000 in
theorem gX10_as_X10_isOfKind : GoodIn wsX10_as (va_wsS RX10 141 yX10_isOfKind wsX10_isOfKind) := goodIn_app (goodIn_of _ (by decide +kernel)) ggX10_as_X10_isOfKind
theorem dX10_as_0 : decode cX10_as 0 = .ok (.aload_n 0, 1) := by decide +kernel
theorem dX10_as_1 : decode cX10_as 1 = .ok (.iload_n 1, 1) := by decide +kernel
theorem dX10_as_2 : decode cX10_as 2 = .ok (.invokevirtual 134, 3) := by decide +kernel
theorem dX10_as_5 : decode cX10_as 5 = .ok (.ifCond .ne 6, 3) := by decide +kernel
theorem dX10_as_8 : decode cX10_as 8 = .ok (.bipush (-101), 2) := by decide +kernel
theorem dX10_as_10 : decode cX10_as 10 = .ok (.ireturn, 1) := by decide +kernel
theorem dX10_as_11 : decode cX10_as 11 = .ok (.iload_n 2, 1) := by decide +kernel
theorem dX10_as_12 : decode cX10_as 12 = .ok (.iconst 5, 1) := by decide +kernel
theorem dX10_as_13 : decode cX10_as 13 = .ok (.invokestatic 121, 3) := by decide +kernel
theorem dX10_as_16 : decode cX10_as 16 = .ok (.ifCond .ne 6, 3) := by decide +kernel
theorem dX10_as_19 : decode cX10_as 19 = .ok (.bipush (-102), 2) := by decide +kernel
theorem dX10_as_21 : decode cX10_as 21 = .ok (.ireturn, 1) := by decide +kernel
theorem dX10_as_22 : decode cX10_as 22 = .ok (.aload_n 0, 1) := by decide +kernel
theorem dX10_as_23 : decode cX10_as 23 = .ok (.iload_n 1, 1) := by decide +kernel
theorem dX10_as_24 : decode cX10_as 24 = .ok (.invokevirtual 137, 3) := by decide +kernel
theorem dX10_as_27 : decode cX10_as 27 = .ok (.iload_n 2, 1) := by decide +kernel
theorem dX10_as_28 : decode cX10_as 28 = .ok (.invokestatic 141, 3) := by decide +kernel
theorem dX10_as_31 : decode cX10_as 31 = .ok (.ifCond .eq 7, 3) := by decide +kernel
theorem dX10_as_34 : decode cX10_as 34 = .ok (.iload_n 1, 1) := by decide +kernel
theorem dX10_as_35 : decode cX10_as 35 = .ok (.goto 4, 3) := by decide +kernel
theorem dX10_as_38 : decode cX10_as 38 = .ok (.iconst (-1), 1) := by decide +kernel
theorem dX10_as_39 : decode cX10_as 39 = .ok (.ireturn, 1) := by decide +kernel
set_option maxRecDepth 20000 in
theorem ggX10_ways_X10_hasDice : GoodIn wsX10_ways wsX10_hasDice := goodIn_r _ [5, 6, 7, 8, 9, 10, 11, 38, 39, 40, 41, 42, 43, 44, 45, 46, 47, 48, 49, 50, 51, 52, 53] (by decide +kernel) (by decide +kernel)
set_option maxRecDepth 20000 in
theorem gX10_ways_X10_hasDice : GoodIn wsX10_ways (wsV RX10 134 RX10 yX10_hasDice wsX10_hasDice) := goodIn_app (goodIn_of _ (by decide +kernel)) ggX10_ways_X10_hasDice
set_option maxRecDepth 20000 in
theorem ggX10_ways_X10_isSum : GoodIn wsX10_ways wsX10_isSum := goodIn_r _ [14] (by decide +kernel) (by decide +kernel)
set_option maxRecDepth 20000 in
theorem gX10_ways_X10_isSum : GoodIn wsX10_ways (va_wsS RX10 145 yX10_isSum wsX10_isSum) := goodIn_app (goodIn_of _ (by decide +kernel)) ggX10_ways_X10_isSum
set_option maxRecDepth 20000 in
theorem ggX10_ways_X10_diceOf : GoodIn wsX10_ways wsX10_diceOf := goodIn_r _ [18, 19, 20, 38, 39, 40, 41, 42, 43, 44, 45, 46, 47] (by decide +kernel) (by decide +kernel)
set_option maxRecDepth 20000 in
theorem gX10_ways_X10_diceOf : GoodIn wsX10_ways (wsV RX10 137 RX10 yX10_diceOf wsX10_diceOf) := goodIn_app (goodIn_of _ (by decide +kernel)) ggX10_ways_X10_diceOf
set_option maxRecDepth 20000 in
theorem ggX10_ways_X1_waysOf : GoodIn wsX10_ways wsX1_waysOf := goodIn_r _ [26, 27, 28, 13, 4, 14, 54, 55, 56, 57, 58, 59, 60, 61, 62, 63, 64, 65, 66, 67, 68] (by decide +kernel) (by decide +kernel)
set_option maxRecDepth 20000 in
theorem gX10_ways_X1_waysOf_u148X0 : GoodIn wsX10_ways (va_wsU RX10 148 RX0 "KingdomAtDice$Dice" ⟨"KingdomAtDice$Dice", "waysOf", "(I)I"⟩ yX1_waysOf wsX1_waysOf) := goodIn_app (goodIn_of _ (by decide +kernel)) ggX10_ways_X1_waysOf
set_option maxRecDepth 20000 in
theorem gX10_ways_X1_waysOf : GoodIn wsX10_ways (wsV RX10 148 RX1 yX1_waysOf wsX1_waysOf) := goodIn_app (goodIn_of _ (by decide +kernel)) ggX10_ways_X1_waysOf
set_option maxRecDepth 20000 in
theorem gX10_ways_X1_waysOf_u148X3 : GoodIn wsX10_ways (va_wsU RX10 148 RX3 "KingdomAtDice$Dice" ⟨"KingdomAtDice$Dice", "waysOf", "(I)I"⟩ yX1_waysOf wsX1_waysOf) := goodIn_app (goodIn_of _ (by decide +kernel)) ggX10_ways_X1_waysOf
set_option maxRecDepth 20000 in
theorem gX10_ways_X1_waysOf_u148X4 : GoodIn wsX10_ways (va_wsU RX10 148 RX4 "KingdomAtDice$Dice" ⟨"KingdomAtDice$Dice", "waysOf", "(I)I"⟩ yX1_waysOf wsX1_waysOf) := goodIn_app (goodIn_of _ (by decide +kernel)) ggX10_ways_X1_waysOf
set_option maxRecDepth 20000 in
theorem ggX10_ways_X9_waysOf : GoodIn wsX10_ways wsX9_waysOf := goodIn_r _ [37, 13, 4, 14] (by decide +kernel) (by decide +kernel)
set_option maxRecDepth 20000 in
theorem gX10_ways_X9_waysOf_u148X9 : GoodIn wsX10_ways (va_wsO RX10 148 RX9 "KingdomAtDice$Dice" ⟨"KingdomAtDice$Dice", "waysOf", "(I)I"⟩ yX9_waysOf wsX9_waysOf) := goodIn_app (goodIn_of _ (by decide +kernel)) ggX10_ways_X9_waysOf
theorem dX10_ways_0 : decode cX10_ways 0 = .ok (.aload_n 0, 1) := by decide +kernel
theorem dX10_ways_1 : decode cX10_ways 1 = .ok (.iload_n 1, 1) := by decide +kernel
theorem dX10_ways_2 : decode cX10_ways 2 = .ok (.invokevirtual 134, 3) := by decide +kernel
theorem dX10_ways_5 : decode cX10_ways 5 = .ok (.ifCond .ne 6, 3) := by decide +kernel
theorem dX10_ways_8 : decode cX10_ways 8 = .ok (.bipush (-101), 2) := by decide +kernel
theorem dX10_ways_10 : decode cX10_ways 10 = .ok (.ireturn, 1) := by decide +kernel
theorem dX10_ways_11 : decode cX10_ways 11 = .ok (.iload_n 2, 1) := by decide +kernel
theorem dX10_ways_12 : decode cX10_ways 12 = .ok (.invokestatic 145, 3) := by decide +kernel
theorem dX10_ways_15 : decode cX10_ways 15 = .ok (.ifCond .eq 15, 3) := by decide +kernel
theorem dX10_ways_18 : decode cX10_ways 18 = .ok (.aload_n 0, 1) := by decide +kernel
theorem dX10_ways_19 : decode cX10_ways 19 = .ok (.iload_n 1, 1) := by decide +kernel
theorem dX10_ways_20 : decode cX10_ways 20 = .ok (.invokevirtual 137, 3) := by decide +kernel
theorem dX10_ways_23 : decode cX10_ways 23 = .ok (.iload_n 2, 1) := by decide +kernel
theorem dX10_ways_24 : decode cX10_ways 24 = .ok (.invokevirtual 148, 3) := by decide +kernel
theorem dX10_ways_27 : decode cX10_ways 27 = .ok (.goto 5, 3) := by decide +kernel
theorem dX10_ways_30 : decode cX10_ways 30 = .ok (.bipush (-102), 2) := by decide +kernel
theorem dX10_ways_32 : decode cX10_ways 32 = .ok (.ireturn, 1) := by decide +kernel
set_option maxRecDepth 20000 in
theorem ggX10_play_X7_has : GoodIn wsX10_play wsX7_has := goodIn_r _ [7, 8, 9, 10, 11, 67, 68, 69, 70, 71, 72] (by decide +kernel) (by decide +kernel)
set_option maxRecDepth 20000 in
theorem gX10_play_X7_has_n117 : GoodIn wsX10_play (wsX7_has) := ggX10_play_X7_has
set_option maxRecDepth 20000 in
theorem ggX10_play_X1_waysOf : GoodIn wsX10_play wsX1_waysOf := goodIn_r _ [17, 18, 19, 20, 10, 21, 73, 74, 75, 76, 77, 78, 79, 80, 81, 82, 83, 84, 85, 86, 87] (by decide +kernel) (by decide +kernel)
set_option maxRecDepth 20000 in
theorem gX10_play_X1_waysOf_u148X0 : GoodIn wsX10_play (va_wsU RX10 148 RX0 "KingdomAtDice$Dice" ⟨"KingdomAtDice$Dice", "waysOf", "(I)I"⟩ yX1_waysOf wsX1_waysOf) := goodIn_app (goodIn_of _ (by decide +kernel)) ggX10_play_X1_waysOf
set_option maxRecDepth 20000 in
theorem gX10_play_X1_waysOf : GoodIn wsX10_play (wsV RX10 148 RX1 yX1_waysOf wsX1_waysOf) := goodIn_app (goodIn_of _ (by decide +kernel)) ggX10_play_X1_waysOf
set_option maxRecDepth 20000 in
theorem gX10_play_X1_waysOf_u148X3 : GoodIn wsX10_play (va_wsU RX10 148 RX3 "KingdomAtDice$Dice" ⟨"KingdomAtDice$Dice", "waysOf", "(I)I"⟩ yX1_waysOf wsX1_waysOf) := goodIn_app (goodIn_of _ (by decide +kernel)) ggX10_play_X1_waysOf
set_option maxRecDepth 20000 in
theorem gX10_play_X1_waysOf_u148X4 : GoodIn wsX10_play (va_wsU RX10 148 RX4 "KingdomAtDice$Dice" ⟨"KingdomAtDice$Dice", "waysOf", "(I)I"⟩ yX1_waysOf wsX1_waysOf) := goodIn_app (goodIn_of _ (by decide +kernel)) ggX10_play_X1_waysOf
set_option maxRecDepth 20000 in
theorem ggX10_play_X9_waysOf : GoodIn wsX10_play wsX9_waysOf := goodIn_r _ [30, 20, 10, 21] (by decide +kernel) (by decide +kernel)
set_option maxRecDepth 20000 in
theorem gX10_play_X9_waysOf_u148X9 : GoodIn wsX10_play (va_wsO RX10 148 RX9 "KingdomAtDice$Dice" ⟨"KingdomAtDice$Dice", "waysOf", "(I)I"⟩ yX9_waysOf wsX9_waysOf) := goodIn_app (goodIn_of _ (by decide +kernel)) ggX10_play_X9_waysOf
set_option maxRecDepth 20000 in
theorem ggX10_play_X7_mayStake : GoodIn wsX10_play wsX7_mayStake := goodIn_r _ [33, 34, 35, 4, 6, 5, 7, 8, 9, 10, 11, 67, 68, 69, 70, 71, 72, 88, 89, 90, 91, 92, 93] (by decide +kernel) (by decide +kernel)
set_option maxRecDepth 20000 in
theorem gX10_play_X7_mayStake_n151 : GoodIn wsX10_play (wsX7_mayStake) := ggX10_play_X7_mayStake
set_option maxRecDepth 20000 in
theorem ggX10_play_X7_settle : GoodIn wsX10_play wsX7_settle := goodIn_r _ [38, 39, 34, 40, 41, 31, 32, 5, 33, 35, 4, 6, 7, 8, 9, 10, 11, 42, 43, 44, 45, 46, 47, 48, 49, 50, 51, 52, 53, 54, 55, 56, 67, 68, 69, 70, 71, 72, 88, 89, 90, 91, 92, 93] (by decide +kernel) (by decide +kernel)
set_option maxRecDepth 20000 in
theorem gX10_play_X7_settle_n157 : GoodIn wsX10_play (wsX7_settle) := ggX10_play_X7_settle
theorem dX10_play_0 : decode cX10_play 0 = .ok (.aload_n 0, 1) := by decide +kernel
theorem dX10_play_1 : decode cX10_play 1 = .ok (.getfield 56, 3) := by decide +kernel
theorem dX10_play_4 : decode cX10_play 4 = .ok (.iload_n 1, 1) := by decide +kernel
theorem dX10_play_5 : decode cX10_play 5 = .ok (.invokevirtual 117, 3) := by decide +kernel
theorem dX10_play_8 : decode cX10_play 8 = .ok (.ifCond .eq 19, 3) := by decide +kernel
theorem dX10_play_11 : decode cX10_play 11 = .ok (.iload_n 2, 1) := by decide +kernel
theorem dX10_play_12 : decode cX10_play 12 = .ok (.iconst (-1), 1) := by decide +kernel
theorem dX10_play_13 : decode cX10_play 13 = .ok (.if_icmp .eq 17, 3) := by decide +kernel
theorem dX10_play_16 : decode cX10_play 16 = .ok (.aload_n 0, 1) := by decide +kernel
theorem dX10_play_17 : decode cX10_play 17 = .ok (.getfield 56, 3) := by decide +kernel
theorem dX10_play_20 : decode cX10_play 20 = .ok (.iload_n 2, 1) := by decide +kernel
theorem dX10_play_21 : decode cX10_play 21 = .ok (.invokevirtual 117, 3) := by decide +kernel
theorem dX10_play_24 : decode cX10_play 24 = .ok (.ifCond .ne 6, 3) := by decide +kernel
theorem dX10_play_27 : decode cX10_play 27 = .ok (.bipush (-101), 2) := by decide +kernel
theorem dX10_play_29 : decode cX10_play 29 = .ok (.ireturn, 1) := by decide +kernel
theorem dX10_play_30 : decode cX10_play 30 = .ok (.aload_n 0, 1) := by decide +kernel
theorem dX10_play_31 : decode cX10_play 31 = .ok (.getfield 63, 3) := by decide +kernel
theorem dX10_play_34 : decode cX10_play 34 = .ok (.iload_n 3, 1) := by decide +kernel
theorem dX10_play_35 : decode cX10_play 35 = .ok (.invokevirtual 148, 3) := by decide +kernel
theorem dX10_play_38 : decode cX10_play 38 = .ok (.ifCond .eq 15, 3) := by decide +kernel
theorem dX10_play_41 : decode cX10_play 41 = .ok (.aload_n 0, 1) := by decide +kernel
theorem dX10_play_42 : decode cX10_play 42 = .ok (.getfield 67, 3) := by decide +kernel
theorem dX10_play_45 : decode cX10_play 45 = .ok (.iload 4, 2) := by decide +kernel
theorem dX10_play_47 : decode cX10_play 47 = .ok (.invokevirtual 148, 3) := by decide +kernel
theorem dX10_play_50 : decode cX10_play 50 = .ok (.ifCond .ne 6, 3) := by decide +kernel
theorem dX10_play_53 : decode cX10_play 53 = .ok (.bipush (-102), 2) := by decide +kernel
theorem dX10_play_55 : decode cX10_play 55 = .ok (.ireturn, 1) := by decide +kernel
theorem dX10_play_56 : decode cX10_play 56 = .ok (.aload_n 0, 1) := by decide +kernel
theorem dX10_play_57 : decode cX10_play 57 = .ok (.getfield 56, 3) := by decide +kernel
theorem dX10_play_60 : decode cX10_play 60 = .ok (.iload_n 1, 1) := by decide +kernel
theorem dX10_play_61 : decode cX10_play 61 = .ok (.iload_n 2, 1) := by decide +kernel
theorem dX10_play_62 : decode cX10_play 62 = .ok (.invokevirtual 151, 3) := by decide +kernel
theorem dX10_play_65 : decode cX10_play 65 = .ok (.ifCond .ne 6, 3) := by decide +kernel
theorem dX10_play_68 : decode cX10_play 68 = .ok (.bipush (-103), 2) := by decide +kernel
theorem dX10_play_70 : decode cX10_play 70 = .ok (.ireturn, 1) := by decide +kernel
theorem dX10_play_71 : decode cX10_play 71 = .ok (.aload_n 0, 1) := by decide +kernel
theorem dX10_play_72 : decode cX10_play 72 = .ok (.getfield 56, 3) := by decide +kernel
theorem dX10_play_75 : decode cX10_play 75 = .ok (.getfield 154, 3) := by decide +kernel
theorem dX10_play_78 : decode cX10_play 78 = .ok (.bipush 30, 2) := by decide +kernel
theorem dX10_play_80 : decode cX10_play 80 = .ok (.if_icmp .lt 6, 3) := by decide +kernel
theorem dX10_play_83 : decode cX10_play 83 = .ok (.bipush (-104), 2) := by decide +kernel
theorem dX10_play_85 : decode cX10_play 85 = .ok (.ireturn, 1) := by decide +kernel
theorem dX10_play_86 : decode cX10_play 86 = .ok (.aload_n 0, 1) := by decide +kernel
theorem dX10_play_87 : decode cX10_play 87 = .ok (.getfield 56, 3) := by decide +kernel
theorem dX10_play_90 : decode cX10_play 90 = .ok (.iload_n 1, 1) := by decide +kernel
theorem dX10_play_91 : decode cX10_play 91 = .ok (.iload_n 2, 1) := by decide +kernel
theorem dX10_play_92 : decode cX10_play 92 = .ok (.iload_n 3, 1) := by decide +kernel
theorem dX10_play_93 : decode cX10_play 93 = .ok (.iload 4, 2) := by decide +kernel
theorem dX10_play_95 : decode cX10_play 95 = .ok (.invokevirtual 157, 3) := by decide +kernel
theorem dX10_play_98 : decode cX10_play 98 = .ok (.ireturn, 1) := by decide +kernel
set_option maxRecDepth 20000 in
theorem ggX10_odds_X10_isBelow : GoodIn wsX10_odds wsX10_isBelow := goodIn_r _ [6] (by decide +kernel) (by decide +kernel)
set_option maxRecDepth 20000 in
theorem gX10_odds_X10_isBelow : GoodIn wsX10_odds (va_wsS RX10 121 yX10_isBelow wsX10_isBelow) := goodIn_app (goodIn_of _ (by decide +kernel)) ggX10_odds_X10_isBelow
set_option maxRecDepth 20000 in
theorem ggX10_odds_X7_hasHall : GoodIn wsX10_odds wsX7_hasHall := goodIn_r _ [10, 11, 35, 36, 37, 38, 39, 40] (by decide +kernel) (by decide +kernel)
set_option maxRecDepth 20000 in
theorem gX10_odds_X7_hasHall_n161 : GoodIn wsX10_odds (wsX7_hasHall) := ggX10_odds_X7_hasHall
set_option maxRecDepth 20000 in
theorem ggX10_odds_X5_waysTo : GoodIn wsX10_odds wsX5_waysTo := goodIn_r _ [15, 16, 4, 5, 6, 33, 34] (by decide +kernel) (by decide +kernel)
set_option maxRecDepth 20000 in
theorem gX10_odds_X5_waysTo_n164 : GoodIn wsX10_odds (wsX5_waysTo) := ggX10_odds_X5_waysTo
set_option maxRecDepth 20000 in
theorem ggX10_odds_X10_lowestTerm : GoodIn wsX10_odds wsX10_lowestTerm := goodIn_r _ [19, 20, 21, 5, 22] (by decide +kernel) (by decide +kernel)
set_option maxRecDepth 20000 in
theorem gX10_odds_X10_lowestTerm : GoodIn wsX10_odds (va_wsS RX10 170 yX10_lowestTerm wsX10_lowestTerm) := goodIn_app (goodIn_of _ (by decide +kernel)) ggX10_odds_X10_lowestTerm
theorem dX10_odds_0 : decode cX10_odds 0 = .ok (.iload_n 1, 1) := by decide +kernel
theorem dX10_odds_1 : decode cX10_odds 1 = .ok (.bipush 6, 2) := by decide +kernel
theorem dX10_odds_3 : decode cX10_odds 3 = .ok (.invokestatic 121, 3) := by decide +kernel
theorem dX10_odds_6 : decode cX10_odds 6 = .ok (.ifCond .ne 6, 3) := by decide +kernel
theorem dX10_odds_9 : decode cX10_odds 9 = .ok (.bipush (-102), 2) := by decide +kernel
theorem dX10_odds_11 : decode cX10_odds 11 = .ok (.ireturn, 1) := by decide +kernel
theorem dX10_odds_12 : decode cX10_odds 12 = .ok (.aload_n 0, 1) := by decide +kernel
theorem dX10_odds_13 : decode cX10_odds 13 = .ok (.getfield 56, 3) := by decide +kernel
theorem dX10_odds_16 : decode cX10_odds 16 = .ok (.invokevirtual 161, 3) := by decide +kernel
theorem dX10_odds_19 : decode cX10_odds 19 = .ok (.ifCond .ne 6, 3) := by decide +kernel
theorem dX10_odds_22 : decode cX10_odds 22 = .ok (.bipush (-103), 2) := by decide +kernel
theorem dX10_odds_24 : decode cX10_odds 24 = .ok (.ireturn, 1) := by decide +kernel
theorem dX10_odds_25 : decode cX10_odds 25 = .ok (.aload_n 0, 1) := by decide +kernel
theorem dX10_odds_26 : decode cX10_odds 26 = .ok (.getfield 42, 3) := by decide +kernel
theorem dX10_odds_29 : decode cX10_odds 29 = .ok (.iload_n 1, 1) := by decide +kernel
theorem dX10_odds_30 : decode cX10_odds 30 = .ok (.iconst 2, 1) := by decide +kernel
theorem dX10_odds_31 : decode cX10_odds 31 = .ok (.idiv, 1) := by decide +kernel
theorem dX10_odds_32 : decode cX10_odds 32 = .ok (.invokevirtual 164, 3) := by decide +kernel
theorem dX10_odds_35 : decode cX10_odds 35 = .ok (.i2l, 1) := by decide +kernel
theorem dX10_odds_36 : decode cX10_odds 36 = .ok (.aload_n 0, 1) := by decide +kernel
theorem dX10_odds_37 : decode cX10_odds 37 = .ok (.getfield 42, 3) := by decide +kernel
theorem dX10_odds_40 : decode cX10_odds 40 = .ok (.getfield 167, 3) := by decide +kernel
theorem dX10_odds_43 : decode cX10_odds 43 = .ok (.i2l, 1) := by decide +kernel
theorem dX10_odds_44 : decode cX10_odds 44 = .ok (.iload_n 1, 1) := by decide +kernel
theorem dX10_odds_45 : decode cX10_odds 45 = .ok (.iconst 2, 1) := by decide +kernel
theorem dX10_odds_46 : decode cX10_odds 46 = .ok (.irem, 1) := by decide +kernel
theorem dX10_odds_47 : decode cX10_odds 47 = .ok (.invokestatic 170, 3) := by decide +kernel
theorem dX10_odds_50 : decode cX10_odds 50 = .ok (.l2i, 1) := by decide +kernel
theorem dX10_odds_51 : decode cX10_odds 51 = .ok (.ireturn, 1) := by decide +kernel
set_option maxRecDepth 20000 in
theorem ggX10_back_X7_has : GoodIn wsX10_back wsX7_has := goodIn_r _ [9, 10, 11, 12, 13, 51, 52, 53, 54, 55, 56] (by decide +kernel) (by decide +kernel)
set_option maxRecDepth 20000 in
theorem gX10_back_X7_has_n117 : GoodIn wsX10_back (wsX7_has) := ggX10_back_X7_has
set_option maxRecDepth 20000 in
theorem ggX10_back_X10_isBelow : GoodIn wsX10_back wsX10_isBelow := goodIn_r _ [13] (by decide +kernel) (by decide +kernel)
set_option maxRecDepth 20000 in
theorem gX10_back_X10_isBelow : GoodIn wsX10_back (va_wsS RX10 121 yX10_isBelow wsX10_isBelow) := goodIn_app (goodIn_of _ (by decide +kernel)) ggX10_back_X10_isBelow
set_option maxRecDepth 20000 in
theorem ggX10_back_X7_stakesFor : GoodIn wsX10_back wsX7_stakesFor := goodIn_r _ [17, 10, 18, 19, 20, 7, 21, 22, 23, 6, 8, 9, 11, 12, 13, 51, 52, 53, 54, 55, 56, 57, 58, 59, 60, 61, 62] (by decide +kernel) (by decide +kernel)
set_option maxRecDepth 20000 in
theorem gX10_back_X7_stakesFor_n183 : GoodIn wsX10_back (wsX7_stakesFor) := ggX10_back_X7_stakesFor
set_option maxRecDepth 20000 in
theorem ggX10_back_X10_waysBack : GoodIn wsX10_back wsX10_waysBack := goodIn_r _ [26, 27, 28, 29, 30, 31, 11, 12, 13, 32, 33, 34, 24, 25, 63, 64] (by decide +kernel) (by decide +kernel)
set_option maxRecDepth 20000 in
theorem gX10_back_X10_waysBack : GoodIn wsX10_back (va_wsS RX10 186 yX10_waysBack wsX10_waysBack) := goodIn_app (goodIn_of _ (by decide +kernel)) ggX10_back_X10_waysBack
set_option maxRecDepth 20000 in
theorem ggX10_back_X10_power : GoodIn wsX10_back wsX10_power := goodIn_r _ [34] (by decide +kernel) (by decide +kernel)
set_option maxRecDepth 20000 in
theorem gX10_back_X10_power : GoodIn wsX10_back (va_wsS RX10 190 yX10_power wsX10_power) := goodIn_app (goodIn_of _ (by decide +kernel)) ggX10_back_X10_power
set_option maxRecDepth 20000 in
theorem ggX10_back_X10_lowestTerm : GoodIn wsX10_back wsX10_lowestTerm := goodIn_r _ [37, 38, 39, 12, 40] (by decide +kernel) (by decide +kernel)
set_option maxRecDepth 20000 in
theorem gX10_back_X10_lowestTerm : GoodIn wsX10_back (va_wsS RX10 170 yX10_lowestTerm wsX10_lowestTerm) := goodIn_app (goodIn_of _ (by decide +kernel)) ggX10_back_X10_lowestTerm
theorem dX10_back_0 : decode cX10_back 0 = .ok (.aload_n 0, 1) := by decide +kernel
theorem dX10_back_1 : decode cX10_back 1 = .ok (.getfield 56, 3) := by decide +kernel
theorem dX10_back_4 : decode cX10_back 4 = .ok (.iload_n 1, 1) := by decide +kernel
theorem dX10_back_5 : decode cX10_back 5 = .ok (.invokevirtual 117, 3) := by decide +kernel
theorem dX10_back_8 : decode cX10_back 8 = .ok (.ifCond .ne 7, 3) := by decide +kernel
theorem dX10_back_11 : decode cX10_back 11 = .ok (.ldc2_w 174, 3) := by decide +kernel
theorem dX10_back_14 : decode cX10_back 14 = .ok (.lreturn, 1) := by decide +kernel
theorem dX10_back_15 : decode cX10_back 15 = .ok (.iload_n 2, 1) := by decide +kernel
theorem dX10_back_16 : decode cX10_back 16 = .ok (.iconst 1, 1) := by decide +kernel
theorem dX10_back_17 : decode cX10_back 17 = .ok (.if_icmp .lt 16, 3) := by decide +kernel
theorem dX10_back_20 : decode cX10_back 20 = .ok (.iload_n 2, 1) := by decide +kernel
theorem dX10_back_21 : decode cX10_back 21 = .ok (.iconst 5, 1) := by decide +kernel
theorem dX10_back_22 : decode cX10_back 22 = .ok (.if_icmp .gt 11, 3) := by decide +kernel
theorem dX10_back_25 : decode cX10_back 25 = .ok (.iload_n 3, 1) := by decide +kernel
theorem dX10_back_26 : decode cX10_back 26 = .ok (.iconst 2, 1) := by decide +kernel
theorem dX10_back_27 : decode cX10_back 27 = .ok (.invokestatic 121, 3) := by decide +kernel
theorem dX10_back_30 : decode cX10_back 30 = .ok (.ifCond .ne 7, 3) := by decide +kernel
theorem dX10_back_33 : decode cX10_back 33 = .ok (.ldc2_w 176, 3) := by decide +kernel
theorem dX10_back_36 : decode cX10_back 36 = .ok (.lreturn, 1) := by decide +kernel
theorem dX10_back_37 : decode cX10_back 37 = .ok (.aload_n 0, 1) := by decide +kernel
theorem dX10_back_38 : decode cX10_back 38 = .ok (.getfield 56, 3) := by decide +kernel
theorem dX10_back_41 : decode cX10_back 41 = .ok (.getfield 125, 3) := by decide +kernel
theorem dX10_back_44 : decode cX10_back 44 = .ok (.iload_n 1, 1) := by decide +kernel
theorem dX10_back_45 : decode cX10_back 45 = .ok (.aaload, 1) := by decide +kernel
theorem dX10_back_46 : decode cX10_back 46 = .ok (.getfield 178, 3) := by decide +kernel
theorem dX10_back_49 : decode cX10_back 49 = .ok (.ifCond .eq 7, 3) := by decide +kernel
theorem dX10_back_52 : decode cX10_back 52 = .ok (.ldc2_w 181, 3) := by decide +kernel
theorem dX10_back_55 : decode cX10_back 55 = .ok (.lreturn, 1) := by decide +kernel
theorem dX10_back_56 : decode cX10_back 56 = .ok (.aload_n 0, 1) := by decide +kernel
theorem dX10_back_57 : decode cX10_back 57 = .ok (.getfield 42, 3) := by decide +kernel
theorem dX10_back_60 : decode cX10_back 60 = .ok (.iload_n 2, 1) := by decide +kernel
theorem dX10_back_61 : decode cX10_back 61 = .ok (.aload_n 0, 1) := by decide +kernel
theorem dX10_back_62 : decode cX10_back 62 = .ok (.getfield 56, 3) := by decide +kernel
theorem dX10_back_65 : decode cX10_back 65 = .ok (.iload_n 1, 1) := by decide +kernel
theorem dX10_back_66 : decode cX10_back 66 = .ok (.invokevirtual 183, 3) := by decide +kernel
theorem dX10_back_69 : decode cX10_back 69 = .ok (.invokestatic 186, 3) := by decide +kernel
theorem dX10_back_72 : decode cX10_back 72 = .ok (.lstore 4, 2) := by decide +kernel
theorem dX10_back_74 : decode cX10_back 74 = .ok (.lload 4, 2) := by decide +kernel
theorem dX10_back_76 : decode cX10_back 76 = .ok (.aload_n 0, 1) := by decide +kernel
theorem dX10_back_77 : decode cX10_back 77 = .ok (.getfield 42, 3) := by decide +kernel
theorem dX10_back_80 : decode cX10_back 80 = .ok (.getfield 167, 3) := by decide +kernel
theorem dX10_back_83 : decode cX10_back 83 = .ok (.i2l, 1) := by decide +kernel
theorem dX10_back_84 : decode cX10_back 84 = .ok (.iload_n 2, 1) := by decide +kernel
theorem dX10_back_85 : decode cX10_back 85 = .ok (.invokestatic 190, 3) := by decide +kernel
theorem dX10_back_88 : decode cX10_back 88 = .ok (.iload_n 3, 1) := by decide +kernel
theorem dX10_back_89 : decode cX10_back 89 = .ok (.invokestatic 170, 3) := by decide +kernel
theorem dX10_back_92 : decode cX10_back 92 = .ok (.lreturn, 1) := by decide +kernel
set_option maxRecDepth 20000 in
theorem ggX10_laws_X10_isBelow : GoodIn wsX10_laws wsX10_isBelow := goodIn_r _ [5] (by decide +kernel) (by decide +kernel)
set_option maxRecDepth 20000 in
theorem gX10_laws_X10_isBelow : GoodIn wsX10_laws (va_wsS RX10 121 yX10_isBelow wsX10_isBelow) := goodIn_app (goodIn_of _ (by decide +kernel)) ggX10_laws_X10_isBelow
set_option maxRecDepth 20000 in
theorem ggX10_laws_X7_hasHall : GoodIn wsX10_laws wsX7_hasHall := goodIn_r _ [9, 10, 39, 40, 41, 42, 43, 44] (by decide +kernel) (by decide +kernel)
set_option maxRecDepth 20000 in
theorem gX10_laws_X7_hasHall_n161 : GoodIn wsX10_laws (wsX7_hasHall) := ggX10_laws_X7_hasHall
set_option maxRecDepth 20000 in
theorem ggX10_laws_X7_kingsBy : GoodIn wsX10_laws wsX7_kingsBy := goodIn_r _ [13, 10, 14, 15, 16, 17, 18, 19, 20, 21, 22, 23, 24, 25, 39, 40, 41, 42, 43, 44, 45, 46, 47, 48, 49, 50] (by decide +kernel) (by decide +kernel)
set_option maxRecDepth 20000 in
theorem gX10_laws_X7_kingsBy_n194 : GoodIn wsX10_laws (wsX7_kingsBy) := ggX10_laws_X7_kingsBy
set_option maxRecDepth 20000 in
theorem ggX10_laws_X7_worthOf : GoodIn wsX10_laws wsX7_worthOf := goodIn_r _ [28, 10, 14, 39, 40, 41, 42, 43, 44, 45, 46, 47, 48, 49, 50] (by decide +kernel) (by decide +kernel)
set_option maxRecDepth 20000 in
theorem gX10_laws_X7_worthOf_n197 : GoodIn wsX10_laws (wsX7_worthOf) := ggX10_laws_X7_worthOf
theorem dX10_laws_0 : decode cX10_laws 0 = .ok (.iload_n 1, 1) := by decide +kernel
theorem dX10_laws_1 : decode cX10_laws 1 = .ok (.iconst 4, 1) := by decide +kernel
theorem dX10_laws_2 : decode cX10_laws 2 = .ok (.invokestatic 121, 3) := by decide +kernel
theorem dX10_laws_5 : decode cX10_laws 5 = .ok (.ifCond .eq 11, 3) := by decide +kernel
theorem dX10_laws_8 : decode cX10_laws 8 = .ok (.iload_n 2, 1) := by decide +kernel
theorem dX10_laws_9 : decode cX10_laws 9 = .ok (.iconst 2, 1) := by decide +kernel
theorem dX10_laws_10 : decode cX10_laws 10 = .ok (.invokestatic 121, 3) := by decide +kernel
theorem dX10_laws_13 : decode cX10_laws 13 = .ok (.ifCond .ne 6, 3) := by decide +kernel
theorem dX10_laws_16 : decode cX10_laws 16 = .ok (.bipush (-102), 2) := by decide +kernel
theorem dX10_laws_18 : decode cX10_laws 18 = .ok (.ireturn, 1) := by decide +kernel
theorem dX10_laws_19 : decode cX10_laws 19 = .ok (.aload_n 0, 1) := by decide +kernel
theorem dX10_laws_20 : decode cX10_laws 20 = .ok (.getfield 56, 3) := by decide +kernel
theorem dX10_laws_23 : decode cX10_laws 23 = .ok (.invokevirtual 161, 3) := by decide +kernel
theorem dX10_laws_26 : decode cX10_laws 26 = .ok (.ifCond .ne 6, 3) := by decide +kernel
theorem dX10_laws_29 : decode cX10_laws 29 = .ok (.bipush (-103), 2) := by decide +kernel
theorem dX10_laws_31 : decode cX10_laws 31 = .ok (.ireturn, 1) := by decide +kernel
theorem dX10_laws_32 : decode cX10_laws 32 = .ok (.aload_n 0, 1) := by decide +kernel
theorem dX10_laws_33 : decode cX10_laws 33 = .ok (.getfield 56, 3) := by decide +kernel
theorem dX10_laws_36 : decode cX10_laws 36 = .ok (.iload_n 1, 1) := by decide +kernel
theorem dX10_laws_37 : decode cX10_laws 37 = .ok (.invokevirtual 194, 3) := by decide +kernel
theorem dX10_laws_40 : decode cX10_laws 40 = .ok (.istore_n 3, 1) := by decide +kernel
theorem dX10_laws_41 : decode cX10_laws 41 = .ok (.iload_n 2, 1) := by decide +kernel
theorem dX10_laws_42 : decode cX10_laws 42 = .ok (.ifCond .ne 7, 3) := by decide +kernel
theorem dX10_laws_45 : decode cX10_laws 45 = .ok (.iload_n 3, 1) := by decide +kernel
theorem dX10_laws_46 : decode cX10_laws 46 = .ok (.goto 11, 3) := by decide +kernel
theorem dX10_laws_49 : decode cX10_laws 49 = .ok (.aload_n 0, 1) := by decide +kernel
theorem dX10_laws_50 : decode cX10_laws 50 = .ok (.getfield 56, 3) := by decide +kernel
theorem dX10_laws_53 : decode cX10_laws 53 = .ok (.iload_n 3, 1) := by decide +kernel
theorem dX10_laws_54 : decode cX10_laws 54 = .ok (.invokevirtual 197, 3) := by decide +kernel
theorem dX10_laws_57 : decode cX10_laws 57 = .ok (.ireturn, 1) := by decide +kernel
set_option maxRecDepth 20000 in
theorem ggX10_see_X10_isSum : GoodIn wsX10_see wsX10_isSum := goodIn_r _ [5] (by decide +kernel) (by decide +kernel)
set_option maxRecDepth 20000 in
theorem gX10_see_X10_isSum : GoodIn wsX10_see (va_wsS RX10 145 yX10_isSum wsX10_isSum) := goodIn_app (goodIn_of _ (by decide +kernel)) ggX10_see_X10_isSum
set_option maxRecDepth 20000 in
theorem ggX10_see_X7_addSeen : GoodIn wsX10_see wsX7_addSeen := goodIn_r _ [9, 10, 11, 12, 4, 13, 24, 25, 26, 27, 28, 29] (by decide +kernel) (by decide +kernel)
set_option maxRecDepth 20000 in
theorem gX10_see_X7_addSeen_n203 : GoodIn wsX10_see (wsX7_addSeen) := ggX10_see_X7_addSeen
theorem dX10_see_0 : decode cX10_see 0 = .ok (.iload_n 1, 1) := by decide +kernel
theorem dX10_see_1 : decode cX10_see 1 = .ok (.invokestatic 145, 3) := by decide +kernel
theorem dX10_see_4 : decode cX10_see 4 = .ok (.ifCond .ne 6, 3) := by decide +kernel
theorem dX10_see_7 : decode cX10_see 7 = .ok (.bipush (-102), 2) := by decide +kernel
theorem dX10_see_9 : decode cX10_see 9 = .ok (.ireturn, 1) := by decide +kernel
theorem dX10_see_10 : decode cX10_see 10 = .ok (.aload_n 0, 1) := by decide +kernel
theorem dX10_see_11 : decode cX10_see 11 = .ok (.getfield 56, 3) := by decide +kernel
theorem dX10_see_14 : decode cX10_see 14 = .ok (.getfield 200, 3) := by decide +kernel
theorem dX10_see_17 : decode cX10_see 17 = .ok (.bipush 8, 2) := by decide +kernel
theorem dX10_see_19 : decode cX10_see 19 = .ok (.if_icmp .lt 8, 3) := by decide +kernel
theorem dX10_see_22 : decode cX10_see 22 = .ok (.bipush (-104), 2) := by decide +kernel
theorem dX10_see_24 : decode cX10_see 24 = .ok (.goto 11, 3) := by decide +kernel
theorem dX10_see_27 : decode cX10_see 27 = .ok (.aload_n 0, 1) := by decide +kernel
theorem dX10_see_28 : decode cX10_see 28 = .ok (.getfield 56, 3) := by decide +kernel
theorem dX10_see_31 : decode cX10_see 31 = .ok (.iload_n 1, 1) := by decide +kernel
theorem dX10_see_32 : decode cX10_see 32 = .ok (.invokevirtual 203, 3) := by decide +kernel
theorem dX10_see_35 : decode cX10_see 35 = .ok (.ireturn, 1) := by decide +kernel
set_option maxRecDepth 20000 in
theorem ggX10_forget_X7_clearSeen : GoodIn wsX10_forget wsX7_clearSeen := goodIn_r _ [5, 6, 17, 18, 19, 20, 21, 22] (by decide +kernel) (by decide +kernel)
set_option maxRecDepth 20000 in
theorem gX10_forget_X7_clearSeen_n206 : GoodIn wsX10_forget (wsX7_clearSeen) := ggX10_forget_X7_clearSeen
theorem dX10_forget_0 : decode cX10_forget 0 = .ok (.aload_n 0, 1) := by decide +kernel
theorem dX10_forget_1 : decode cX10_forget 1 = .ok (.getfield 56, 3) := by decide +kernel
theorem dX10_forget_4 : decode cX10_forget 4 = .ok (.invokevirtual 206, 3) := by decide +kernel
theorem dX10_forget_7 : decode cX10_forget 7 = .ok (.ireturn, 1) := by decide +kernel
set_option maxRecDepth 20000 in
theorem ggX10_which_X7_waysSeenBy : GoodIn wsX10_which wsX7_waysSeenBy := goodIn_r _ [6, 7, 8, 9, 10, 11, 12, 13, 14, 15, 16, 17, 18, 19, 20, 21, 22, 23, 24, 25, 26, 27, 28, 39, 40, 41, 42, 43, 44, 45, 46, 47, 48, 49, 50, 51, 52, 53, 54, 55, 56, 57, 58, 59] (by decide +kernel) (by decide +kernel)
set_option maxRecDepth 20000 in
theorem gX10_which_X7_waysSeenBy_n209 : GoodIn wsX10_which (wsX7_waysSeenBy) := ggX10_which_X7_waysSeenBy
theorem dX10_which_0 : decode cX10_which 0 = .ok (.iconst 0, 1) := by decide +kernel
theorem dX10_which_1 : decode cX10_which 1 = .ok (.istore_n 1, 1) := by decide +kernel
theorem dX10_which_2 : decode cX10_which 2 = .ok (.iconst 0, 1) := by decide +kernel
theorem dX10_which_3 : decode cX10_which 3 = .ok (.istore_n 2, 1) := by decide +kernel
theorem dX10_which_4 : decode cX10_which 4 = .ok (.iload_n 2, 1) := by decide +kernel
theorem dX10_which_5 : decode cX10_which 5 = .ok (.aload_n 0, 1) := by decide +kernel
theorem dX10_which_6 : decode cX10_which 6 = .ok (.getfield 35, 3) := by decide +kernel
theorem dX10_which_9 : decode cX10_which 9 = .ok (.arraylength, 1) := by decide +kernel
theorem dX10_which_10 : decode cX10_which 10 = .ok (.if_icmp .ge 33, 3) := by decide +kernel
theorem dX10_which_13 : decode cX10_which 13 = .ok (.aload_n 0, 1) := by decide +kernel
theorem dX10_which_14 : decode cX10_which 14 = .ok (.getfield 56, 3) := by decide +kernel
theorem dX10_which_17 : decode cX10_which 17 = .ok (.aload_n 0, 1) := by decide +kernel
theorem dX10_which_18 : decode cX10_which 18 = .ok (.getfield 35, 3) := by decide +kernel
theorem dX10_which_21 : decode cX10_which 21 = .ok (.iload_n 2, 1) := by decide +kernel
theorem dX10_which_22 : decode cX10_which 22 = .ok (.aaload, 1) := by decide +kernel
theorem dX10_which_23 : decode cX10_which 23 = .ok (.invokevirtual 209, 3) := by decide +kernel
theorem dX10_which_26 : decode cX10_which 26 = .ok (.lconst 0, 1) := by decide +kernel
theorem dX10_which_27 : decode cX10_which 27 = .ok (.lcmp, 1) := by decide +kernel
theorem dX10_which_28 : decode cX10_which 28 = .ok (.ifCond .le 9, 3) := by decide +kernel
theorem dX10_which_31 : decode cX10_which 31 = .ok (.iload_n 1, 1) := by decide +kernel
theorem dX10_which_32 : decode cX10_which 32 = .ok (.iconst 1, 1) := by decide +kernel
theorem dX10_which_33 : decode cX10_which 33 = .ok (.iload_n 2, 1) := by decide +kernel
theorem dX10_which_34 : decode cX10_which 34 = .ok (.ishl, 1) := by decide +kernel
theorem dX10_which_35 : decode cX10_which 35 = .ok (.ior, 1) := by decide +kernel
theorem dX10_which_36 : decode cX10_which 36 = .ok (.istore_n 1, 1) := by decide +kernel
theorem dX10_which_37 : decode cX10_which 37 = .ok (.iinc 2 1, 3) := by decide +kernel
theorem dX10_which_40 : decode cX10_which 40 = .ok (.goto (-36), 3) := by decide +kernel
theorem dX10_which_43 : decode cX10_which 43 = .ok (.iload_n 1, 1) := by decide +kernel
theorem dX10_which_44 : decode cX10_which 44 = .ok (.ireturn, 1) := by decide +kernel
set_option maxRecDepth 20000 in
theorem ggX10_likely_X7_waysSeenBy : GoodIn wsX10_likely wsX7_waysSeenBy := goodIn_r _ [6, 7, 8, 9, 10, 11, 12, 13, 14, 15, 16, 17, 18, 19, 20, 21, 22, 23, 24, 25, 26, 27, 28, 68, 69, 70, 71, 72, 73, 74, 75, 76, 77, 78, 79, 80, 81, 82, 83, 84, 85, 86, 87, 88] (by decide +kernel) (by decide +kernel)
set_option maxRecDepth 20000 in
theorem gX10_likely_X7_waysSeenBy_n209 : GoodIn wsX10_likely (wsX7_waysSeenBy) := ggX10_likely_X7_waysSeenBy
set_option maxRecDepth 20000 in
theorem ggX10_likely_X1_wayMany : GoodIn wsX10_likely wsX1_wayMany := goodIn_r _ [33, 34, 35, 36, 37, 13, 38, 16, 15, 39, 40, 41, 42, 43, 74, 75, 76, 77, 78, 79, 80, 81, 82, 83, 84, 85, 86, 87, 88] (by decide +kernel) (by decide +kernel)
set_option maxRecDepth 20000 in
theorem gX10_likely_X1_wayMany_u213X0 : GoodIn wsX10_likely (va_wsU RX10 213 RX0 "KingdomAtDice$Dice" ⟨"KingdomAtDice$Dice", "wayMany", "()I"⟩ yX1_wayMany wsX1_wayMany) := goodIn_app (goodIn_of _ (by decide +kernel)) ggX10_likely_X1_wayMany
set_option maxRecDepth 20000 in
theorem gX10_likely_X1_wayMany : GoodIn wsX10_likely (wsV RX10 213 RX1 yX1_wayMany wsX1_wayMany) := goodIn_app (goodIn_of _ (by decide +kernel)) ggX10_likely_X1_wayMany
set_option maxRecDepth 20000 in
theorem gX10_likely_X1_wayMany_u213X3 : GoodIn wsX10_likely (va_wsU RX10 213 RX3 "KingdomAtDice$Dice" ⟨"KingdomAtDice$Dice", "wayMany", "()I"⟩ yX1_wayMany wsX1_wayMany) := goodIn_app (goodIn_of _ (by decide +kernel)) ggX10_likely_X1_wayMany
set_option maxRecDepth 20000 in
theorem gX10_likely_X1_wayMany_u213X4 : GoodIn wsX10_likely (va_wsU RX10 213 RX4 "KingdomAtDice$Dice" ⟨"KingdomAtDice$Dice", "wayMany", "()I"⟩ yX1_wayMany wsX1_wayMany) := goodIn_app (goodIn_of _ (by decide +kernel)) ggX10_likely_X1_wayMany
set_option maxRecDepth 20000 in
theorem ggX10_likely_X9_wayMany : GoodIn wsX10_likely wsX9_wayMany := goodIn_r _ [51, 52, 53, 54, 37, 13, 38, 16, 15, 74, 75, 76, 77, 78, 79, 80, 81, 82, 83, 84, 85, 86, 87, 88] (by decide +kernel) (by decide +kernel)
set_option maxRecDepth 20000 in
theorem gX10_likely_X9_wayMany_u213X9 : GoodIn wsX10_likely (va_wsO RX10 213 RX9 "KingdomAtDice$Dice" ⟨"KingdomAtDice$Dice", "wayMany", "()I"⟩ yX9_wayMany wsX9_wayMany) := goodIn_app (goodIn_of _ (by decide +kernel)) ggX10_likely_X9_wayMany
set_option maxRecDepth 20000 in
theorem ggX10_likely_X10_power : GoodIn wsX10_likely wsX10_power := goodIn_r _ [57] (by decide +kernel) (by decide +kernel)
set_option maxRecDepth 20000 in
theorem gX10_likely_X10_power : GoodIn wsX10_likely (va_wsS RX10 190 yX10_power wsX10_power) := goodIn_app (goodIn_of _ (by decide +kernel)) ggX10_likely_X10_power
theorem dX10_likely_0 : decode cX10_likely 0 = .ok (.iconst (-1), 1) := by decide +kernel
theorem dX10_likely_1 : decode cX10_likely 1 = .ok (.istore_n 1, 1) := by decide +kernel
theorem dX10_likely_2 : decode cX10_likely 2 = .ok (.lconst 0, 1) := by decide +kernel
theorem dX10_likely_3 : decode cX10_likely 3 = .ok (.lstore_n 2, 1) := by decide +kernel
theorem dX10_likely_4 : decode cX10_likely 4 = .ok (.lconst 1, 1) := by decide +kernel
theorem dX10_likely_5 : decode cX10_likely 5 = .ok (.lstore 4, 2) := by decide +kernel
theorem dX10_likely_7 : decode cX10_likely 7 = .ok (.iconst 0, 1) := by decide +kernel
theorem dX10_likely_8 : decode cX10_likely 8 = .ok (.istore 6, 2) := by decide +kernel
theorem dX10_likely_10 : decode cX10_likely 10 = .ok (.iload 6, 2) := by decide +kernel
theorem dX10_likely_12 : decode cX10_likely 12 = .ok (.aload_n 0, 1) := by decide +kernel
theorem dX10_likely_13 : decode cX10_likely 13 = .ok (.getfield 35, 3) := by decide +kernel
theorem dX10_likely_16 : decode cX10_likely 16 = .ok (.arraylength, 1) := by decide +kernel
theorem dX10_likely_17 : decode cX10_likely 17 = .ok (.if_icmp .ge 71, 3) := by decide +kernel
theorem dX10_likely_20 : decode cX10_likely 20 = .ok (.aload_n 0, 1) := by decide +kernel
theorem dX10_likely_21 : decode cX10_likely 21 = .ok (.getfield 56, 3) := by decide +kernel
theorem dX10_likely_24 : decode cX10_likely 24 = .ok (.aload_n 0, 1) := by decide +kernel
theorem dX10_likely_25 : decode cX10_likely 25 = .ok (.getfield 35, 3) := by decide +kernel
theorem dX10_likely_28 : decode cX10_likely 28 = .ok (.iload 6, 2) := by decide +kernel
theorem dX10_likely_30 : decode cX10_likely 30 = .ok (.aaload, 1) := by decide +kernel
theorem dX10_likely_31 : decode cX10_likely 31 = .ok (.invokevirtual 209, 3) := by decide +kernel
theorem dX10_likely_34 : decode cX10_likely 34 = .ok (.lstore 7, 2) := by decide +kernel
theorem dX10_likely_36 : decode cX10_likely 36 = .ok (.aload_n 0, 1) := by decide +kernel
theorem dX10_likely_37 : decode cX10_likely 37 = .ok (.getfield 35, 3) := by decide +kernel
theorem dX10_likely_40 : decode cX10_likely 40 = .ok (.iload 6, 2) := by decide +kernel
theorem dX10_likely_42 : decode cX10_likely 42 = .ok (.aaload, 1) := by decide +kernel
theorem dX10_likely_43 : decode cX10_likely 43 = .ok (.invokevirtual 213, 3) := by decide +kernel
theorem dX10_likely_46 : decode cX10_likely 46 = .ok (.i2l, 1) := by decide +kernel
theorem dX10_likely_47 : decode cX10_likely 47 = .ok (.aload_n 0, 1) := by decide +kernel
theorem dX10_likely_48 : decode cX10_likely 48 = .ok (.getfield 56, 3) := by decide +kernel
theorem dX10_likely_51 : decode cX10_likely 51 = .ok (.getfield 200, 3) := by decide +kernel
theorem dX10_likely_54 : decode cX10_likely 54 = .ok (.invokestatic 190, 3) := by decide +kernel
theorem dX10_likely_57 : decode cX10_likely 57 = .ok (.lstore 9, 2) := by decide +kernel
theorem dX10_likely_59 : decode cX10_likely 59 = .ok (.lload 7, 2) := by decide +kernel
theorem dX10_likely_61 : decode cX10_likely 61 = .ok (.lload 4, 2) := by decide +kernel
theorem dX10_likely_63 : decode cX10_likely 63 = .ok (.lmul, 1) := by decide +kernel
theorem dX10_likely_64 : decode cX10_likely 64 = .ok (.lload_n 2, 1) := by decide +kernel
theorem dX10_likely_65 : decode cX10_likely 65 = .ok (.lload 9, 2) := by decide +kernel
theorem dX10_likely_67 : decode cX10_likely 67 = .ok (.lmul, 1) := by decide +kernel
theorem dX10_likely_68 : decode cX10_likely 68 = .ok (.lcmp, 1) := by decide +kernel
theorem dX10_likely_69 : decode cX10_likely 69 = .ok (.ifCond .le 13, 3) := by decide +kernel
theorem dX10_likely_72 : decode cX10_likely 72 = .ok (.iload 6, 2) := by decide +kernel
theorem dX10_likely_74 : decode cX10_likely 74 = .ok (.istore_n 1, 1) := by decide +kernel
theorem dX10_likely_75 : decode cX10_likely 75 = .ok (.lload 7, 2) := by decide +kernel
theorem dX10_likely_77 : decode cX10_likely 77 = .ok (.lstore_n 2, 1) := by decide +kernel
theorem dX10_likely_78 : decode cX10_likely 78 = .ok (.lload 9, 2) := by decide +kernel
theorem dX10_likely_80 : decode cX10_likely 80 = .ok (.lstore 4, 2) := by decide +kernel
theorem dX10_likely_82 : decode cX10_likely 82 = .ok (.iinc 6 1, 3) := by decide +kernel
theorem dX10_likely_85 : decode cX10_likely 85 = .ok (.goto (-75), 3) := by decide +kernel
theorem dX10_likely_88 : decode cX10_likely 88 = .ok (.iload_n 1, 1) := by decide +kernel
theorem dX10_likely_89 : decode cX10_likely 89 = .ok (.ireturn, 1) := by decide +kernel
set_option maxRecDepth 20000 in
theorem ggX10_halls_X10_isBelow : GoodIn wsX10_halls wsX10_isBelow := goodIn_r _ [8] (by decide +kernel) (by decide +kernel)
set_option maxRecDepth 20000 in
theorem gX10_halls_X10_isBelow : GoodIn wsX10_halls (va_wsS RX10 121 yX10_isBelow wsX10_isBelow) := goodIn_app (goodIn_of _ (by decide +kernel)) ggX10_halls_X10_isBelow
set_option maxRecDepth 20000 in
theorem ggX10_halls_X7_hasHall : GoodIn wsX10_halls wsX7_hasHall := goodIn_r _ [12, 13, 99, 100, 101, 102, 103, 104] (by decide +kernel) (by decide +kernel)
set_option maxRecDepth 20000 in
theorem gX10_halls_X7_hasHall_n161 : GoodIn wsX10_halls (wsX7_hasHall) := ggX10_halls_X7_hasHall
set_option maxRecDepth 20000 in
theorem ggX10_halls_X7_kingsBy : GoodIn wsX10_halls wsX7_kingsBy := goodIn_r _ [16, 13, 17, 18, 19, 20, 21, 22, 23, 24, 25, 26, 27, 28, 99, 100, 101, 102, 103, 104, 105, 106, 107, 108, 109, 110] (by decide +kernel) (by decide +kernel)
set_option maxRecDepth 20000 in
theorem gX10_halls_X7_kingsBy_n194 : GoodIn wsX10_halls (wsX7_kingsBy) := ggX10_halls_X7_kingsBy
set_option maxRecDepth 20000 in
theorem ggX10_halls_X2_begin : GoodIn wsX10_halls wsX2_begin := goodIn_r _ [32, 33, 111] (by decide +kernel) (by decide +kernel)
set_option maxRecDepth 20000 in
theorem gX10_halls_X2_begin_n219 : GoodIn wsX10_halls (wsX2_begin) := ggX10_halls_X2_begin
set_option maxRecDepth 20000 in
theorem ggX10_halls_J6_lowestOneBit_0f7a4 : GoodIn wsX10_halls wsJ6_lowestOneBit_0f7a4 := goodIn_r _ [37] (by decide +kernel) (by decide +kernel)
set_option maxRecDepth 20000 in
theorem gX10_halls_J6_lowestOneBit_0f7a4 : GoodIn wsX10_halls (va_wsS RX10 222 yJ6_lowestOneBit_0f7a4 wsJ6_lowestOneBit_0f7a4) := goodIn_app (goodIn_of _ (by decide +kernel)) ggX10_halls_J6_lowestOneBit_0f7a4
set_option maxRecDepth 20000 in
theorem ggX10_halls_X1_fall : GoodIn wsX10_halls wsX1_fall := goodIn_r _ [43, 44, 45, 46, 47, 48, 42, 49, 50, 51, 52, 53, 54, 55, 56, 30, 57, 58, 59, 33, 60, 61, 62, 112, 113, 114, 115, 116, 117, 118, 119, 120, 121, 122, 123, 124, 125, 126, 111] (by decide +kernel) (by decide +kernel)
set_option maxRecDepth 20000 in
theorem gX10_halls_X1_fall_u227X0 : GoodIn wsX10_halls (va_wsU RX10 227 RX0 "KingdomAtDice$Dice" ⟨"KingdomAtDice$Dice", "fall", "(LKingdomAtDice$Draws;)I"⟩ yX1_fall wsX1_fall) := goodIn_app (goodIn_of _ (by decide +kernel)) ggX10_halls_X1_fall
set_option maxRecDepth 20000 in
theorem gX10_halls_X1_fall : GoodIn wsX10_halls (wsV RX10 227 RX1 yX1_fall wsX1_fall) := goodIn_app (goodIn_of _ (by decide +kernel)) ggX10_halls_X1_fall
set_option maxRecDepth 20000 in
theorem gX10_halls_X1_fall_u227X3 : GoodIn wsX10_halls (va_wsU RX10 227 RX3 "KingdomAtDice$Dice" ⟨"KingdomAtDice$Dice", "fall", "(LKingdomAtDice$Draws;)I"⟩ yX1_fall wsX1_fall) := goodIn_app (goodIn_of _ (by decide +kernel)) ggX10_halls_X1_fall
set_option maxRecDepth 20000 in
theorem gX10_halls_X1_fall_u227X4 : GoodIn wsX10_halls (va_wsU RX10 227 RX4 "KingdomAtDice$Dice" ⟨"KingdomAtDice$Dice", "fall", "(LKingdomAtDice$Draws;)I"⟩ yX1_fall wsX1_fall) := goodIn_app (goodIn_of _ (by decide +kernel)) ggX10_halls_X1_fall
set_option maxRecDepth 20000 in
theorem ggX10_halls_X9_fall : GoodIn wsX10_halls wsX9_fall := goodIn_r _ [71, 72, 73, 74, 75, 76, 48, 42, 49, 50, 44, 56, 30, 57, 58, 59, 33, 60, 61, 62, 112, 113, 114, 115, 116, 117, 118, 119, 120, 121, 122, 123, 124, 125, 126, 111] (by decide +kernel) (by decide +kernel)
set_option maxRecDepth 20000 in
theorem gX10_halls_X9_fall_u227X9 : GoodIn wsX10_halls (va_wsO RX10 227 RX9 "KingdomAtDice$Dice" ⟨"KingdomAtDice$Dice", "fall", "(LKingdomAtDice$Draws;)I"⟩ yX9_fall wsX9_fall) := goodIn_app (goodIn_of _ (by decide +kernel)) ggX10_halls_X9_fall
set_option maxRecDepth 20000 in
theorem ggX10_halls_X7_worthOf : GoodIn wsX10_halls wsX7_worthOf := goodIn_r _ [79, 13, 17, 99, 100, 101, 102, 103, 104, 105, 106, 107, 108, 109, 110] (by decide +kernel) (by decide +kernel)
set_option maxRecDepth 20000 in
theorem gX10_halls_X7_worthOf_n197 : GoodIn wsX10_halls (wsX7_worthOf) := ggX10_halls_X7_worthOf
set_option maxRecDepth 20000 in
theorem ggX10_halls_J6_bitCount_0f7a4 : GoodIn wsX10_halls wsJ6_bitCount_0f7a4 := goodIn_r _ [82, 83, 84, 85] (by decide +kernel) (by decide +kernel)
set_option maxRecDepth 20000 in
theorem gX10_halls_J6_bitCount_0f7a4 : GoodIn wsX10_halls (va_wsS RX10 231 yJ6_bitCount_0f7a4 wsJ6_bitCount_0f7a4) := goodIn_app (goodIn_of _ (by decide +kernel)) ggX10_halls_J6_bitCount_0f7a4
set_option maxRecDepth 20000 in
theorem ggX10_halls_X2_seedNow : GoodIn wsX10_halls wsX2_seedNow := goodIn_r _ [88, 33, 111] (by decide +kernel) (by decide +kernel)
set_option maxRecDepth 20000 in
theorem gX10_halls_X2_seedNow_n234 : GoodIn wsX10_halls (wsX2_seedNow) := ggX10_halls_X2_seedNow
theorem dX10_halls_0 : decode cX10_halls 0 = .ok (.iload_n 1, 1) := by decide +kernel
theorem dX10_halls_1 : decode cX10_halls 1 = .ok (.iconst 1, 1) := by decide +kernel
theorem dX10_halls_2 : decode cX10_halls 2 = .ok (.if_icmp .lt 21, 3) := by decide +kernel
theorem dX10_halls_5 : decode cX10_halls 5 = .ok (.iload_n 1, 1) := by decide +kernel
theorem dX10_halls_6 : decode cX10_halls 6 = .ok (.bipush 60, 2) := by decide +kernel
theorem dX10_halls_8 : decode cX10_halls 8 = .ok (.if_icmp .gt 15, 3) := by decide +kernel
theorem dX10_halls_11 : decode cX10_halls 11 = .ok (.iload_n 2, 1) := by decide +kernel
theorem dX10_halls_12 : decode cX10_halls 12 = .ok (.ifCond .lt 11, 3) := by decide +kernel
theorem dX10_halls_15 : decode cX10_halls 15 = .ok (.iload_n 3, 1) := by decide +kernel
theorem dX10_halls_16 : decode cX10_halls 16 = .ok (.iconst 3, 1) := by decide +kernel
theorem dX10_halls_17 : decode cX10_halls 17 = .ok (.invokestatic 121, 3) := by decide +kernel
theorem dX10_halls_20 : decode cX10_halls 20 = .ok (.ifCond .ne 6, 3) := by decide +kernel
theorem dX10_halls_23 : decode cX10_halls 23 = .ok (.bipush (-102), 2) := by decide +kernel
theorem dX10_halls_25 : decode cX10_halls 25 = .ok (.ireturn, 1) := by decide +kernel
theorem dX10_halls_26 : decode cX10_halls 26 = .ok (.aload_n 0, 1) := by decide +kernel
theorem dX10_halls_27 : decode cX10_halls 27 = .ok (.getfield 56, 3) := by decide +kernel
theorem dX10_halls_30 : decode cX10_halls 30 = .ok (.invokevirtual 161, 3) := by decide +kernel
theorem dX10_halls_33 : decode cX10_halls 33 = .ok (.ifCond .ne 6, 3) := by decide +kernel
theorem dX10_halls_36 : decode cX10_halls 36 = .ok (.bipush (-103), 2) := by decide +kernel
theorem dX10_halls_38 : decode cX10_halls 38 = .ok (.ireturn, 1) := by decide +kernel
theorem dX10_halls_39 : decode cX10_halls 39 = .ok (.aload_n 0, 1) := by decide +kernel
theorem dX10_halls_40 : decode cX10_halls 40 = .ok (.getfield 56, 3) := by decide +kernel
theorem dX10_halls_43 : decode cX10_halls 43 = .ok (.iconst 0, 1) := by decide +kernel
theorem dX10_halls_44 : decode cX10_halls 44 = .ok (.invokevirtual 194, 3) := by decide +kernel
theorem dX10_halls_47 : decode cX10_halls 47 = .ok (.istore 4, 2) := by decide +kernel
theorem dX10_halls_49 : decode cX10_halls 49 = .ok (.aload_n 0, 1) := by decide +kernel
theorem dX10_halls_50 : decode cX10_halls 50 = .ok (.getfield 56, 3) := by decide +kernel
theorem dX10_halls_53 : decode cX10_halls 53 = .ok (.getfield 216, 3) := by decide +kernel
theorem dX10_halls_56 : decode cX10_halls 56 = .ok (.istore 5, 2) := by decide +kernel
theorem dX10_halls_58 : decode cX10_halls 58 = .ok (.aload_n 0, 1) := by decide +kernel
theorem dX10_halls_59 : decode cX10_halls 59 = .ok (.getfield 49, 3) := by decide +kernel
theorem dX10_halls_62 : decode cX10_halls 62 = .ok (.iload_n 2, 1) := by decide +kernel
theorem dX10_halls_63 : decode cX10_halls 63 = .ok (.invokevirtual 219, 3) := by decide +kernel
theorem dX10_halls_66 : decode cX10_halls 66 = .ok (.iconst 0, 1) := by decide +kernel
theorem dX10_halls_67 : decode cX10_halls 67 = .ok (.istore 6, 2) := by decide +kernel
theorem dX10_halls_69 : decode cX10_halls 69 = .ok (.iload 6, 2) := by decide +kernel
theorem dX10_halls_71 : decode cX10_halls 71 = .ok (.iload_n 1, 1) := by decide +kernel
theorem dX10_halls_72 : decode cX10_halls 72 = .ok (.if_icmp .ge 85, 3) := by decide +kernel
theorem dX10_halls_75 : decode cX10_halls 75 = .ok (.iload 4, 2) := by decide +kernel
theorem dX10_halls_77 : decode cX10_halls 77 = .ok (.ifCond .eq 80, 3) := by decide +kernel
theorem dX10_halls_80 : decode cX10_halls 80 = .ok (.iload 4, 2) := by decide +kernel
theorem dX10_halls_82 : decode cX10_halls 82 = .ok (.invokestatic 222, 3) := by decide +kernel
theorem dX10_halls_85 : decode cX10_halls 85 = .ok (.istore 7, 2) := by decide +kernel
theorem dX10_halls_87 : decode cX10_halls 87 = .ok (.aload_n 0, 1) := by decide +kernel
theorem dX10_halls_88 : decode cX10_halls 88 = .ok (.getfield 63, 3) := by decide +kernel
theorem dX10_halls_91 : decode cX10_halls 91 = .ok (.aload_n 0, 1) := by decide +kernel
theorem dX10_halls_92 : decode cX10_halls 92 = .ok (.getfield 49, 3) := by decide +kernel
theorem dX10_halls_95 : decode cX10_halls 95 = .ok (.invokevirtual 227, 3) := by decide +kernel
theorem dX10_halls_98 : decode cX10_halls 98 = .ok (.istore 8, 2) := by decide +kernel
theorem dX10_halls_100 : decode cX10_halls 100 = .ok (.aload_n 0, 1) := by decide +kernel
theorem dX10_halls_101 : decode cX10_halls 101 = .ok (.getfield 67, 3) := by decide +kernel
theorem dX10_halls_104 : decode cX10_halls 104 = .ok (.aload_n 0, 1) := by decide +kernel
theorem dX10_halls_105 : decode cX10_halls 105 = .ok (.getfield 49, 3) := by decide +kernel
theorem dX10_halls_108 : decode cX10_halls 108 = .ok (.invokevirtual 227, 3) := by decide +kernel
theorem dX10_halls_111 : decode cX10_halls 111 = .ok (.istore 9, 2) := by decide +kernel
theorem dX10_halls_113 : decode cX10_halls 113 = .ok (.iload 8, 2) := by decide +kernel
theorem dX10_halls_115 : decode cX10_halls 115 = .ok (.iload 9, 2) := by decide +kernel
theorem dX10_halls_117 : decode cX10_halls 117 = .ok (.if_icmp .le 20, 3) := by decide +kernel
theorem dX10_halls_120 : decode cX10_halls 120 = .ok (.iload 5, 2) := by decide +kernel
theorem dX10_halls_122 : decode cX10_halls 122 = .ok (.aload_n 0, 1) := by decide +kernel
theorem dX10_halls_123 : decode cX10_halls 123 = .ok (.getfield 56, 3) := by decide +kernel
theorem dX10_halls_126 : decode cX10_halls 126 = .ok (.iload 7, 2) := by decide +kernel
theorem dX10_halls_128 : decode cX10_halls 128 = .ok (.invokevirtual 197, 3) := by decide +kernel
theorem dX10_halls_131 : decode cX10_halls 131 = .ok (.iadd, 1) := by decide +kernel
theorem dX10_halls_132 : decode cX10_halls 132 = .ok (.istore 5, 2) := by decide +kernel
theorem dX10_halls_134 : decode cX10_halls 134 = .ok (.goto 17, 3) := by decide +kernel
theorem dX10_halls_137 : decode cX10_halls 137 = .ok (.iload 8, 2) := by decide +kernel
theorem dX10_halls_139 : decode cX10_halls 139 = .ok (.iload 9, 2) := by decide +kernel
theorem dX10_halls_141 : decode cX10_halls 141 = .ok (.if_icmp .ge 10, 3) := by decide +kernel
theorem dX10_halls_144 : decode cX10_halls 144 = .ok (.iload 4, 2) := by decide +kernel
theorem dX10_halls_146 : decode cX10_halls 146 = .ok (.iload 7, 2) := by decide +kernel
theorem dX10_halls_148 : decode cX10_halls 148 = .ok (.isub, 1) := by decide +kernel
theorem dX10_halls_149 : decode cX10_halls 149 = .ok (.istore 4, 2) := by decide +kernel
theorem dX10_halls_151 : decode cX10_halls 151 = .ok (.iinc 6 1, 3) := by decide +kernel
theorem dX10_halls_154 : decode cX10_halls 154 = .ok (.goto (-85), 3) := by decide +kernel
theorem dX10_halls_157 : decode cX10_halls 157 = .ok (.iload_n 3, 1) := by decide +kernel
theorem dX10_halls_158 : decode cX10_halls 158 = .ok (.lookupswitch 35 #[(0, 26), (1, 32)], 26) := by decide +kernel
theorem dX10_halls_184 : decode cX10_halls 184 = .ok (.iload 4, 2) := by decide +kernel
theorem dX10_halls_186 : decode cX10_halls 186 = .ok (.invokestatic 231, 3) := by decide +kernel
theorem dX10_halls_189 : decode cX10_halls 189 = .ok (.ireturn, 1) := by decide +kernel
theorem dX10_halls_190 : decode cX10_halls 190 = .ok (.iload 5, 2) := by decide +kernel
theorem dX10_halls_192 : decode cX10_halls 192 = .ok (.ireturn, 1) := by decide +kernel
theorem dX10_halls_193 : decode cX10_halls 193 = .ok (.aload_n 0, 1) := by decide +kernel
theorem dX10_halls_194 : decode cX10_halls 194 = .ok (.getfield 49, 3) := by decide +kernel
theorem dX10_halls_197 : decode cX10_halls 197 = .ok (.invokevirtual 234, 3) := by decide +kernel
theorem dX10_halls_200 : decode cX10_halls 200 = .ok (.ireturn, 1) := by decide +kernel
set_option maxRecDepth 20000 in
theorem ggX10_image_X7_hasHall : GoodIn wsX10_image wsX7_hasHall := goodIn_r _ [7, 8, 37, 38, 39, 40, 41, 42] (by decide +kernel) (by decide +kernel)
set_option maxRecDepth 20000 in
theorem gX10_image_X7_hasHall_n161 : GoodIn wsX10_image (wsX7_hasHall) := ggX10_image_X7_hasHall
set_option maxRecDepth 20000 in
theorem ggX10_image_X7_copy : GoodIn wsX10_image wsX7_copy := goodIn_r _ [11, 12, 13, 8, 14, 15, 16, 17, 18, 19, 20, 21, 22, 23, 24, 25, 26, 37, 38, 39, 40, 41, 42, 43, 44, 45, 46, 47, 48] (by decide +kernel) (by decide +kernel)
set_option maxRecDepth 20000 in
theorem gX10_image_X7_copy_n237 : GoodIn wsX10_image (wsX7_copy) := ggX10_image_X7_copy
theorem dX10_image_0 : decode cX10_image 0 = .ok (.aload_n 0, 1) := by decide +kernel
theorem dX10_image_1 : decode cX10_image 1 = .ok (.getfield 56, 3) := by decide +kernel
theorem dX10_image_4 : decode cX10_image 4 = .ok (.invokevirtual 161, 3) := by decide +kernel
theorem dX10_image_7 : decode cX10_image 7 = .ok (.ifCond .ne 6, 3) := by decide +kernel
theorem dX10_image_10 : decode cX10_image 10 = .ok (.bipush (-103), 2) := by decide +kernel
theorem dX10_image_12 : decode cX10_image 12 = .ok (.ireturn, 1) := by decide +kernel
theorem dX10_image_13 : decode cX10_image 13 = .ok (.aload_n 0, 1) := by decide +kernel
theorem dX10_image_14 : decode cX10_image 14 = .ok (.getfield 60, 3) := by decide +kernel
theorem dX10_image_17 : decode cX10_image 17 = .ok (.aload_n 0, 1) := by decide +kernel
theorem dX10_image_18 : decode cX10_image 18 = .ok (.getfield 56, 3) := by decide +kernel
theorem dX10_image_21 : decode cX10_image 21 = .ok (.invokevirtual 237, 3) := by decide +kernel
theorem dX10_image_24 : decode cX10_image 24 = .ok (.aload_n 0, 1) := by decide +kernel
theorem dX10_image_25 : decode cX10_image 25 = .ok (.iconst 1, 1) := by decide +kernel
theorem dX10_image_26 : decode cX10_image 26 = .ok (.putfield 70, 3) := by decide +kernel
theorem dX10_image_29 : decode cX10_image 29 = .ok (.aload_n 0, 1) := by decide +kernel
theorem dX10_image_30 : decode cX10_image 30 = .ok (.getfield 56, 3) := by decide +kernel
theorem dX10_image_33 : decode cX10_image 33 = .ok (.getfield 154, 3) := by decide +kernel
theorem dX10_image_36 : decode cX10_image 36 = .ok (.ireturn, 1) := by decide +kernel
set_option maxRecDepth 20000 in
theorem ggX10_restore_X7_copy : GoodIn wsX10_restore wsX7_copy := goodIn_r _ [7, 8, 9, 10, 11, 12, 13, 14, 15, 16, 17, 18, 19, 20, 21, 22, 23, 34, 35, 36, 37, 38, 39, 40, 41, 42, 43, 44, 45] (by decide +kernel) (by decide +kernel)
set_option maxRecDepth 20000 in
theorem gX10_restore_X7_copy_n237 : GoodIn wsX10_restore (wsX7_copy) := ggX10_restore_X7_copy
theorem dX10_restore_0 : decode cX10_restore 0 = .ok (.aload_n 0, 1) := by decide +kernel
theorem dX10_restore_1 : decode cX10_restore 1 = .ok (.getfield 70, 3) := by decide +kernel
theorem dX10_restore_4 : decode cX10_restore 4 = .ok (.ifCond .ne 6, 3) := by decide +kernel
theorem dX10_restore_7 : decode cX10_restore 7 = .ok (.bipush (-103), 2) := by decide +kernel
theorem dX10_restore_9 : decode cX10_restore 9 = .ok (.ireturn, 1) := by decide +kernel
theorem dX10_restore_10 : decode cX10_restore 10 = .ok (.aload_n 0, 1) := by decide +kernel
theorem dX10_restore_11 : decode cX10_restore 11 = .ok (.getfield 56, 3) := by decide +kernel
theorem dX10_restore_14 : decode cX10_restore 14 = .ok (.aload_n 0, 1) := by decide +kernel
theorem dX10_restore_15 : decode cX10_restore 15 = .ok (.getfield 60, 3) := by decide +kernel
theorem dX10_restore_18 : decode cX10_restore 18 = .ok (.invokevirtual 237, 3) := by decide +kernel
theorem dX10_restore_21 : decode cX10_restore 21 = .ok (.aload_n 0, 1) := by decide +kernel
theorem dX10_restore_22 : decode cX10_restore 22 = .ok (.getfield 56, 3) := by decide +kernel
theorem dX10_restore_25 : decode cX10_restore 25 = .ok (.getfield 154, 3) := by decide +kernel
theorem dX10_restore_28 : decode cX10_restore 28 = .ok (.ireturn, 1) := by decide +kernel
set_option maxRecDepth 20000 in
theorem ggX10_count_X7_kingsBy : GoodIn wsX10_count wsX7_kingsBy := goodIn_r _ [7, 8, 9, 10, 11, 12, 13, 14, 15, 16, 17, 18, 19, 20, 44, 45, 46, 47, 48, 49, 52, 53, 54, 55, 56, 57] (by decide +kernel) (by decide +kernel)
set_option maxRecDepth 20000 in
theorem gX10_count_X7_kingsBy_n194 : GoodIn wsX10_count (wsX7_kingsBy) := ggX10_count_X7_kingsBy
set_option maxRecDepth 20000 in
theorem ggX10_count_J6_bitCount_0f7a4 : GoodIn wsX10_count wsJ6_bitCount_0f7a4 := goodIn_r _ [24, 25, 26, 27] (by decide +kernel) (by decide +kernel)
set_option maxRecDepth 20000 in
theorem gX10_count_J6_bitCount_0f7a4 : GoodIn wsX10_count (va_wsS RX10 231 yJ6_bitCount_0f7a4 wsJ6_bitCount_0f7a4) := goodIn_app (goodIn_of _ (by decide +kernel)) ggX10_count_J6_bitCount_0f7a4
set_option maxRecDepth 20000 in
theorem ggX10_count_X7_worthOf : GoodIn wsX10_count wsX7_worthOf := goodIn_r _ [30, 8, 9, 44, 45, 46, 47, 48, 49, 52, 53, 54, 55, 56, 57] (by decide +kernel) (by decide +kernel)
set_option maxRecDepth 20000 in
theorem gX10_count_X7_worthOf_n197 : GoodIn wsX10_count (wsX7_worthOf) := ggX10_count_X7_worthOf
set_option maxRecDepth 20000 in
theorem ggX10_count_X7_wrongMany : GoodIn wsX10_count wsX7_wrongMany := goodIn_r _ [33, 8, 9, 17, 11, 18, 19, 14, 20, 44, 45, 46, 47, 48, 49, 52, 53, 54, 55, 56, 57] (by decide +kernel) (by decide +kernel)
set_option maxRecDepth 20000 in
theorem gX10_count_X7_wrongMany_n241 : GoodIn wsX10_count (wsX7_wrongMany) := ggX10_count_X7_wrongMany
theorem dX10_count_0 : decode cX10_count 0 = .ok (.iload_n 1, 1) := by decide +kernel
theorem dX10_count_1 : decode cX10_count 1 = .ok (.tableswitch 132 0 8 #[51, 59, 71, 87, 95, 103, 111, 119, 127], 51) := by decide +kernel
theorem dX10_count_52 : decode cX10_count 52 = .ok (.aload_n 0, 1) := by decide +kernel
theorem dX10_count_53 : decode cX10_count 53 = .ok (.getfield 56, 3) := by decide +kernel
theorem dX10_count_56 : decode cX10_count 56 = .ok (.getfield 114, 3) := by decide +kernel
theorem dX10_count_59 : decode cX10_count 59 = .ok (.ireturn, 1) := by decide +kernel
theorem dX10_count_60 : decode cX10_count 60 = .ok (.aload_n 0, 1) := by decide +kernel
theorem dX10_count_61 : decode cX10_count 61 = .ok (.getfield 56, 3) := by decide +kernel
theorem dX10_count_64 : decode cX10_count 64 = .ok (.iconst 0, 1) := by decide +kernel
theorem dX10_count_65 : decode cX10_count 65 = .ok (.invokevirtual 194, 3) := by decide +kernel
theorem dX10_count_68 : decode cX10_count 68 = .ok (.invokestatic 231, 3) := by decide +kernel
theorem dX10_count_71 : decode cX10_count 71 = .ok (.ireturn, 1) := by decide +kernel
theorem dX10_count_72 : decode cX10_count 72 = .ok (.aload_n 0, 1) := by decide +kernel
theorem dX10_count_73 : decode cX10_count 73 = .ok (.getfield 56, 3) := by decide +kernel
theorem dX10_count_76 : decode cX10_count 76 = .ok (.aload_n 0, 1) := by decide +kernel
theorem dX10_count_77 : decode cX10_count 77 = .ok (.getfield 56, 3) := by decide +kernel
theorem dX10_count_80 : decode cX10_count 80 = .ok (.iconst 0, 1) := by decide +kernel
theorem dX10_count_81 : decode cX10_count 81 = .ok (.invokevirtual 194, 3) := by decide +kernel
theorem dX10_count_84 : decode cX10_count 84 = .ok (.invokevirtual 197, 3) := by decide +kernel
theorem dX10_count_87 : decode cX10_count 87 = .ok (.ireturn, 1) := by decide +kernel
theorem dX10_count_88 : decode cX10_count 88 = .ok (.aload_n 0, 1) := by decide +kernel
theorem dX10_count_89 : decode cX10_count 89 = .ok (.getfield 56, 3) := by decide +kernel
theorem dX10_count_92 : decode cX10_count 92 = .ok (.getfield 216, 3) := by decide +kernel
theorem dX10_count_95 : decode cX10_count 95 = .ok (.ireturn, 1) := by decide +kernel
theorem dX10_count_96 : decode cX10_count 96 = .ok (.aload_n 0, 1) := by decide +kernel
theorem dX10_count_97 : decode cX10_count 97 = .ok (.getfield 56, 3) := by decide +kernel
theorem dX10_count_100 : decode cX10_count 100 = .ok (.getfield 154, 3) := by decide +kernel
theorem dX10_count_103 : decode cX10_count 103 = .ok (.ireturn, 1) := by decide +kernel
theorem dX10_count_104 : decode cX10_count 104 = .ok (.aload_n 0, 1) := by decide +kernel
theorem dX10_count_105 : decode cX10_count 105 = .ok (.getfield 56, 3) := by decide +kernel
theorem dX10_count_108 : decode cX10_count 108 = .ok (.invokevirtual 241, 3) := by decide +kernel
theorem dX10_count_111 : decode cX10_count 111 = .ok (.ireturn, 1) := by decide +kernel
theorem dX10_count_112 : decode cX10_count 112 = .ok (.aload_n 0, 1) := by decide +kernel
theorem dX10_count_113 : decode cX10_count 113 = .ok (.getfield 56, 3) := by decide +kernel
theorem dX10_count_116 : decode cX10_count 116 = .ok (.getfield 200, 3) := by decide +kernel
theorem dX10_count_119 : decode cX10_count 119 = .ok (.ireturn, 1) := by decide +kernel
theorem dX10_count_120 : decode cX10_count 120 = .ok (.aload_n 0, 1) := by decide +kernel
theorem dX10_count_121 : decode cX10_count 121 = .ok (.getfield 10, 3) := by decide +kernel
theorem dX10_count_124 : decode cX10_count 124 = .ok (.getfield 244, 3) := by decide +kernel
theorem dX10_count_127 : decode cX10_count 127 = .ok (.ireturn, 1) := by decide +kernel
theorem dX10_count_128 : decode cX10_count 128 = .ok (.aload_n 0, 1) := by decide +kernel
theorem dX10_count_129 : decode cX10_count 129 = .ok (.getfield 74, 3) := by decide +kernel
theorem dX10_count_132 : decode cX10_count 132 = .ok (.ireturn, 1) := by decide +kernel
theorem dX10_count_133 : decode cX10_count 133 = .ok (.bipush (-102), 2) := by decide +kernel
theorem dX10_count_135 : decode cX10_count 135 = .ok (.ireturn, 1) := by decide +kernel
set_option maxRecDepth 20000 in
theorem ggX10_digest_X10_digestThing : GoodIn wsX10_digest wsX10_digestThing := goodIn_r _ [8, 2, 9, 10, 11, 7, 12, 13, 14, 15, 16, 17, 18, 19, 20, 21, 22, 23, 24, 25, 26, 27, 28, 29, 30, 31, 32, 33, 34, 35, 36, 37, 38, 39, 40, 41, 42, 43, 44, 45, 46, 47, 48, 49, 50, 51, 52, 53, 54, 55, 56, 57, 58, 59, 60, 61, 62, 63, 64, 65, 66, 67, 68, 204, 205, 206, 207, 208, 209, 210, 211, 212, 213, 214, 215, 216, 217, 218, 219, 222, 223, 224, 225, 226, 227, 228, 229] (by decide +kernel) (by decide +kernel)
set_option maxRecDepth 20000 in
theorem gX10_digest_X10_digestThing : GoodIn wsX10_digest (wsV RX10 249 RX10 yX10_digestThing wsX10_digestThing) := goodIn_app (goodIn_of _ (by decide +kernel)) ggX10_digest_X10_digestThing
set_option maxRecDepth 20000 in
theorem ggX10_digest_X7_hasHall : GoodIn wsX10_digest wsX7_hasHall := goodIn_r _ [71, 17, 214, 215, 216, 217, 218, 219] (by decide +kernel) (by decide +kernel)
set_option maxRecDepth 20000 in
theorem gX10_digest_X7_hasHall_n161 : GoodIn wsX10_digest (wsX7_hasHall) := ggX10_digest_X7_hasHall
set_option maxRecDepth 20000 in
theorem ggX10_digest_X10_digestHall : GoodIn wsX10_digest wsX10_digestHall := goodIn_r _ [75, 76, 77, 78, 7, 79, 80, 81, 82, 83, 2, 69, 14, 70, 71, 17, 20, 18, 19, 84, 85, 86, 87, 88, 89, 90, 91, 92, 93, 94, 95, 96, 97, 98, 99, 100, 101, 102, 103, 104, 105, 106, 107, 108, 109, 110, 111, 112, 113, 114, 115, 116, 117, 118, 119, 120, 121, 122, 123, 124, 125, 126, 127, 128, 129, 130, 31, 32, 33, 34, 131, 132, 133, 134, 42, 55, 56, 57, 58, 59, 63, 64, 65, 66, 67, 68, 135, 136, 137, 138, 139, 140, 141, 50, 142, 22, 143, 144, 27, 25, 145, 146, 147, 148, 29, 149, 150, 151, 204, 205, 206, 207, 208, 209, 210, 211, 212, 213, 214, 215, 216, 217, 218, 219, 230, 231, 232, 233, 234, 235, 236, 237, 238, 239, 240, 241, 242, 243, 244, 228, 229, 222, 223, 224, 225, 226, 227] (by decide +kernel) (by decide +kernel)
set_option maxRecDepth 20000 in
theorem gX10_digest_X10_digestHall : GoodIn wsX10_digest (wsV RX10 252 RX10 yX10_digestHall wsX10_digestHall) := goodIn_app (goodIn_of _ (by decide +kernel)) ggX10_digest_X10_digestHall
set_option maxRecDepth 20000 in
theorem ggX10_digest_X10_which : GoodIn wsX10_digest wsX10_which := goodIn_r _ [155, 156, 2, 157, 14, 158, 159, 160, 161, 162, 163, 164, 165, 94, 166, 97, 98, 167, 7, 168, 169, 170, 171, 172, 173, 174, 175, 121, 176, 204, 205, 206, 207, 208, 209, 210, 211, 212, 213, 214, 215, 216, 217, 218, 219, 230, 231, 232, 233, 234, 235, 236, 237, 238, 239, 240, 241, 242, 243, 244] (by decide +kernel) (by decide +kernel)
set_option maxRecDepth 20000 in
theorem gX10_digest_X10_which : GoodIn wsX10_digest (wsV RX10 256 RX10 yX10_which wsX10_which) := goodIn_app (goodIn_of _ (by decide +kernel)) ggX10_digest_X10_which
set_option maxRecDepth 20000 in
theorem ggX10_digest_X10_mix : GoodIn wsX10_digest wsX10_mix := goodIn_r _ [33, 34] (by decide +kernel) (by decide +kernel)
set_option maxRecDepth 20000 in
theorem gX10_digest_X10_mix : GoodIn wsX10_digest (va_wsS RX10 259 yX10_mix wsX10_mix) := goodIn_app (goodIn_of _ (by decide +kernel)) ggX10_digest_X10_mix
set_option maxRecDepth 20000 in
theorem ggX10_digest_X10_likely : GoodIn wsX10_digest wsX10_likely := goodIn_r _ [180, 156, 2, 157, 14, 158, 159, 160, 161, 162, 163, 164, 165, 94, 166, 97, 98, 167, 7, 168, 169, 170, 171, 172, 173, 174, 175, 121, 176, 181, 100, 101, 102, 103, 104, 105, 106, 107, 108, 109, 110, 111, 112, 113, 182, 115, 116, 117, 118, 119, 120, 122, 123, 124, 125, 60, 61, 62, 204, 205, 206, 207, 208, 209, 210, 211, 212, 213, 214, 215, 216, 217, 218, 219, 230, 231, 232, 233, 234, 235, 236, 237, 238, 239, 240, 241, 242, 243, 244] (by decide +kernel) (by decide +kernel)
set_option maxRecDepth 20000 in
theorem gX10_digest_X10_likely : GoodIn wsX10_digest (wsV RX10 263 RX10 yX10_likely wsX10_likely) := goodIn_app (goodIn_of _ (by decide +kernel)) ggX10_digest_X10_likely
set_option maxRecDepth 20000 in
theorem ggX10_digest_X6_codeAt : GoodIn wsX10_digest wsX6_codeAt := goodIn_r _ [186, 187, 188, 18, 7, 19, 220, 221] (by decide +kernel) (by decide +kernel)
set_option maxRecDepth 20000 in
theorem gX10_digest_X6_codeAt_n266 : GoodIn wsX10_digest (wsX6_codeAt) := ggX10_digest_X6_codeAt
set_option maxRecDepth 20000 in
theorem ggX10_digest_X10_count : GoodIn wsX10_digest wsX10_count := goodIn_r _ [192, 2, 3, 193, 139, 14, 140, 141, 17, 50, 142, 22, 143, 144, 27, 25, 145, 146, 147, 148, 29, 194, 195, 196, 197, 198, 199, 200, 149, 150, 151, 201, 202, 203, 204, 205, 206, 207, 208, 209, 210, 211, 212, 213, 214, 215, 216, 217, 218, 219, 220, 221, 222, 223, 224, 225, 226, 227] (by decide +kernel) (by decide +kernel)
set_option maxRecDepth 20000 in
theorem gX10_digest_X10_count : GoodIn wsX10_digest (wsV RX10 269 RX10 yX10_count wsX10_count) := goodIn_app (goodIn_of _ (by decide +kernel)) ggX10_digest_X10_count
theorem dX10_digest_0 : decode cX10_digest 0 = .ok (.ldc2_w 247, 3) := by decide +kernel
theorem dX10_digest_3 : decode cX10_digest 3 = .ok (.lstore_n 1, 1) := by decide +kernel
theorem dX10_digest_4 : decode cX10_digest 4 = .ok (.iconst 0, 1) := by decide +kernel
theorem dX10_digest_5 : decode cX10_digest 5 = .ok (.istore_n 3, 1) := by decide +kernel
theorem dX10_digest_6 : decode cX10_digest 6 = .ok (.iload_n 3, 1) := by decide +kernel
theorem dX10_digest_7 : decode cX10_digest 7 = .ok (.aload_n 0, 1) := by decide +kernel
theorem dX10_digest_8 : decode cX10_digest 8 = .ok (.getfield 56, 3) := by decide +kernel
theorem dX10_digest_11 : decode cX10_digest 11 = .ok (.getfield 114, 3) := by decide +kernel
theorem dX10_digest_14 : decode cX10_digest 14 = .ok (.if_icmp .ge 16, 3) := by decide +kernel
theorem dX10_digest_17 : decode cX10_digest 17 = .ok (.aload_n 0, 1) := by decide +kernel
theorem dX10_digest_18 : decode cX10_digest 18 = .ok (.lload_n 1, 1) := by decide +kernel
theorem dX10_digest_19 : decode cX10_digest 19 = .ok (.iload_n 3, 1) := by decide +kernel
theorem dX10_digest_20 : decode cX10_digest 20 = .ok (.invokevirtual 249, 3) := by decide +kernel
theorem dX10_digest_23 : decode cX10_digest 23 = .ok (.lstore_n 1, 1) := by decide +kernel
theorem dX10_digest_24 : decode cX10_digest 24 = .ok (.iinc 3 1, 3) := by decide +kernel
theorem dX10_digest_27 : decode cX10_digest 27 = .ok (.goto (-21), 3) := by decide +kernel
theorem dX10_digest_30 : decode cX10_digest 30 = .ok (.aload_n 0, 1) := by decide +kernel
theorem dX10_digest_31 : decode cX10_digest 31 = .ok (.getfield 56, 3) := by decide +kernel
theorem dX10_digest_34 : decode cX10_digest 34 = .ok (.invokevirtual 161, 3) := by decide +kernel
theorem dX10_digest_37 : decode cX10_digest 37 = .ok (.ifCond .eq 9, 3) := by decide +kernel
theorem dX10_digest_40 : decode cX10_digest 40 = .ok (.aload_n 0, 1) := by decide +kernel
theorem dX10_digest_41 : decode cX10_digest 41 = .ok (.lload_n 1, 1) := by decide +kernel
theorem dX10_digest_42 : decode cX10_digest 42 = .ok (.invokevirtual 252, 3) := by decide +kernel
theorem dX10_digest_45 : decode cX10_digest 45 = .ok (.lstore_n 1, 1) := by decide +kernel
theorem dX10_digest_46 : decode cX10_digest 46 = .ok (.lload_n 1, 1) := by decide +kernel
theorem dX10_digest_47 : decode cX10_digest 47 = .ok (.aload_n 0, 1) := by decide +kernel
theorem dX10_digest_48 : decode cX10_digest 48 = .ok (.invokevirtual 256, 3) := by decide +kernel
theorem dX10_digest_51 : decode cX10_digest 51 = .ok (.i2l, 1) := by decide +kernel
theorem dX10_digest_52 : decode cX10_digest 52 = .ok (.invokestatic 259, 3) := by decide +kernel
theorem dX10_digest_55 : decode cX10_digest 55 = .ok (.lstore_n 1, 1) := by decide +kernel
theorem dX10_digest_56 : decode cX10_digest 56 = .ok (.lload_n 1, 1) := by decide +kernel
theorem dX10_digest_57 : decode cX10_digest 57 = .ok (.aload_n 0, 1) := by decide +kernel
theorem dX10_digest_58 : decode cX10_digest 58 = .ok (.invokevirtual 263, 3) := by decide +kernel
theorem dX10_digest_61 : decode cX10_digest 61 = .ok (.i2l, 1) := by decide +kernel
theorem dX10_digest_62 : decode cX10_digest 62 = .ok (.invokestatic 259, 3) := by decide +kernel
theorem dX10_digest_65 : decode cX10_digest 65 = .ok (.lstore_n 1, 1) := by decide +kernel
theorem dX10_digest_66 : decode cX10_digest 66 = .ok (.iconst 0, 1) := by decide +kernel
theorem dX10_digest_67 : decode cX10_digest 67 = .ok (.istore_n 3, 1) := by decide +kernel
theorem dX10_digest_68 : decode cX10_digest 68 = .ok (.iload_n 3, 1) := by decide +kernel
theorem dX10_digest_69 : decode cX10_digest 69 = .ok (.aload_n 0, 1) := by decide +kernel
theorem dX10_digest_70 : decode cX10_digest 70 = .ok (.getfield 10, 3) := by decide +kernel
theorem dX10_digest_73 : decode cX10_digest 73 = .ok (.getfield 244, 3) := by decide +kernel
theorem dX10_digest_76 : decode cX10_digest 76 = .ok (.if_icmp .ge 23, 3) := by decide +kernel
theorem dX10_digest_79 : decode cX10_digest 79 = .ok (.lload_n 1, 1) := by decide +kernel
theorem dX10_digest_80 : decode cX10_digest 80 = .ok (.aload_n 0, 1) := by decide +kernel
theorem dX10_digest_81 : decode cX10_digest 81 = .ok (.getfield 10, 3) := by decide +kernel
theorem dX10_digest_84 : decode cX10_digest 84 = .ok (.iload_n 3, 1) := by decide +kernel
theorem dX10_digest_85 : decode cX10_digest 85 = .ok (.invokevirtual 266, 3) := by decide +kernel
theorem dX10_digest_88 : decode cX10_digest 88 = .ok (.i2l, 1) := by decide +kernel
theorem dX10_digest_89 : decode cX10_digest 89 = .ok (.invokestatic 259, 3) := by decide +kernel
theorem dX10_digest_92 : decode cX10_digest 92 = .ok (.lstore_n 1, 1) := by decide +kernel
theorem dX10_digest_93 : decode cX10_digest 93 = .ok (.iinc 3 1, 3) := by decide +kernel
theorem dX10_digest_96 : decode cX10_digest 96 = .ok (.goto (-28), 3) := by decide +kernel
theorem dX10_digest_99 : decode cX10_digest 99 = .ok (.iconst 0, 1) := by decide +kernel
theorem dX10_digest_100 : decode cX10_digest 100 = .ok (.istore_n 3, 1) := by decide +kernel
theorem dX10_digest_101 : decode cX10_digest 101 = .ok (.iload_n 3, 1) := by decide +kernel
theorem dX10_digest_102 : decode cX10_digest 102 = .ok (.bipush 9, 2) := by decide +kernel
theorem dX10_digest_104 : decode cX10_digest 104 = .ok (.if_icmp .ge 20, 3) := by decide +kernel
theorem dX10_digest_107 : decode cX10_digest 107 = .ok (.lload_n 1, 1) := by decide +kernel
theorem dX10_digest_108 : decode cX10_digest 108 = .ok (.aload_n 0, 1) := by decide +kernel
theorem dX10_digest_109 : decode cX10_digest 109 = .ok (.iload_n 3, 1) := by decide +kernel
theorem dX10_digest_110 : decode cX10_digest 110 = .ok (.invokevirtual 269, 3) := by decide +kernel
theorem dX10_digest_113 : decode cX10_digest 113 = .ok (.i2l, 1) := by decide +kernel
theorem dX10_digest_114 : decode cX10_digest 114 = .ok (.invokestatic 259, 3) := by decide +kernel
theorem dX10_digest_117 : decode cX10_digest 117 = .ok (.lstore_n 1, 1) := by decide +kernel
theorem dX10_digest_118 : decode cX10_digest 118 = .ok (.iinc 3 1, 3) := by decide +kernel
theorem dX10_digest_121 : decode cX10_digest 121 = .ok (.goto (-20), 3) := by decide +kernel
theorem dX10_digest_124 : decode cX10_digest 124 = .ok (.lload_n 1, 1) := by decide +kernel
theorem dX10_digest_125 : decode cX10_digest 125 = .ok (.lreturn, 1) := by decide +kernel
set_option maxRecDepth 20000 in
theorem ggX10_digestThing_X10_thing : GoodIn wsX10_digestThing wsX10_thing := goodIn_r _ [6, 1, 7, 8, 9, 10, 11, 12, 5, 13, 14, 15, 16, 17, 18, 19, 20, 21, 22, 23, 24, 63, 64, 65, 66, 67, 68, 69, 70, 71, 72, 73, 74, 75, 76, 77, 78, 79, 80, 81, 82, 83, 84] (by decide +kernel) (by decide +kernel)
set_option maxRecDepth 20000 in
theorem gX10_digestThing_X10_thing : GoodIn wsX10_digestThing (wsV RX10 272 RX10 yX10_thing wsX10_thing) := goodIn_app (goodIn_of _ (by decide +kernel)) ggX10_digestThing_X10_thing
set_option maxRecDepth 20000 in
theorem ggX10_digestThing_X10_mix : GoodIn wsX10_digestThing wsX10_mix := goodIn_r _ [27, 28] (by decide +kernel) (by decide +kernel)
set_option maxRecDepth 20000 in
theorem gX10_digestThing_X10_mix : GoodIn wsX10_digestThing (va_wsS RX10 259 yX10_mix wsX10_mix) := goodIn_app (goodIn_of _ (by decide +kernel)) ggX10_digestThing_X10_mix
set_option maxRecDepth 20000 in
theorem ggX10_digestThing_X10_back : GoodIn wsX10_digestThing wsX10_back := goodIn_r _ [32, 1, 33, 34, 35, 36, 7, 8, 9, 10, 11, 12, 5, 13, 14, 37, 38, 39, 40, 41, 42, 43, 44, 45, 46, 47, 48, 49, 50, 51, 52, 53, 54, 55, 56, 57, 58, 59, 60, 61, 62, 63, 64, 65, 66, 67, 68, 69, 70, 71, 72, 73, 74, 75, 76, 77, 78, 79, 80, 81, 82, 83, 84, 85, 86] (by decide +kernel) (by decide +kernel)
set_option maxRecDepth 20000 in
theorem gX10_digestThing_X10_back : GoodIn wsX10_digestThing (wsV RX10 276 RX10 yX10_back wsX10_back) := goodIn_app (goodIn_of _ (by decide +kernel)) ggX10_digestThing_X10_back
theorem dX10_digestThing_0 : decode cX10_digestThing 0 = .ok (.lload_n 1, 1) := by decide +kernel
theorem dX10_digestThing_1 : decode cX10_digestThing 1 = .ok (.lstore 4, 2) := by decide +kernel
theorem dX10_digestThing_3 : decode cX10_digestThing 3 = .ok (.iconst 0, 1) := by decide +kernel
theorem dX10_digestThing_4 : decode cX10_digestThing 4 = .ok (.istore 6, 2) := by decide +kernel
theorem dX10_digestThing_6 : decode cX10_digestThing 6 = .ok (.iload 6, 2) := by decide +kernel
theorem dX10_digestThing_8 : decode cX10_digestThing 8 = .ok (.bipush 6, 2) := by decide +kernel
theorem dX10_digestThing_10 : decode cX10_digestThing 10 = .ok (.if_icmp .ge 24, 3) := by decide +kernel
theorem dX10_digestThing_13 : decode cX10_digestThing 13 = .ok (.lload 4, 2) := by decide +kernel
theorem dX10_digestThing_15 : decode cX10_digestThing 15 = .ok (.aload_n 0, 1) := by decide +kernel
theorem dX10_digestThing_16 : decode cX10_digestThing 16 = .ok (.iload_n 3, 1) := by decide +kernel
theorem dX10_digestThing_17 : decode cX10_digestThing 17 = .ok (.iload 6, 2) := by decide +kernel
theorem dX10_digestThing_19 : decode cX10_digestThing 19 = .ok (.invokevirtual 272, 3) := by decide +kernel
theorem dX10_digestThing_22 : decode cX10_digestThing 22 = .ok (.i2l, 1) := by decide +kernel
theorem dX10_digestThing_23 : decode cX10_digestThing 23 = .ok (.invokestatic 259, 3) := by decide +kernel
theorem dX10_digestThing_26 : decode cX10_digestThing 26 = .ok (.lstore 4, 2) := by decide +kernel
theorem dX10_digestThing_28 : decode cX10_digestThing 28 = .ok (.iinc 6 1, 3) := by decide +kernel
theorem dX10_digestThing_31 : decode cX10_digestThing 31 = .ok (.goto (-25), 3) := by decide +kernel
theorem dX10_digestThing_34 : decode cX10_digestThing 34 = .ok (.aload_n 0, 1) := by decide +kernel
theorem dX10_digestThing_35 : decode cX10_digestThing 35 = .ok (.getfield 56, 3) := by decide +kernel
theorem dX10_digestThing_38 : decode cX10_digestThing 38 = .ok (.getfield 125, 3) := by decide +kernel
theorem dX10_digestThing_41 : decode cX10_digestThing 41 = .ok (.iload_n 3, 1) := by decide +kernel
theorem dX10_digestThing_42 : decode cX10_digestThing 42 = .ok (.aaload, 1) := by decide +kernel
theorem dX10_digestThing_43 : decode cX10_digestThing 43 = .ok (.getfield 178, 3) := by decide +kernel
theorem dX10_digestThing_46 : decode cX10_digestThing 46 = .ok (.ifCond .ne 31, 3) := by decide +kernel
theorem dX10_digestThing_49 : decode cX10_digestThing 49 = .ok (.lload 4, 2) := by decide +kernel
theorem dX10_digestThing_51 : decode cX10_digestThing 51 = .ok (.aload_n 0, 1) := by decide +kernel
theorem dX10_digestThing_52 : decode cX10_digestThing 52 = .ok (.iload_n 3, 1) := by decide +kernel
theorem dX10_digestThing_53 : decode cX10_digestThing 53 = .ok (.iconst 3, 1) := by decide +kernel
theorem dX10_digestThing_54 : decode cX10_digestThing 54 = .ok (.iconst 0, 1) := by decide +kernel
theorem dX10_digestThing_55 : decode cX10_digestThing 55 = .ok (.invokevirtual 276, 3) := by decide +kernel
theorem dX10_digestThing_58 : decode cX10_digestThing 58 = .ok (.invokestatic 259, 3) := by decide +kernel
theorem dX10_digestThing_61 : decode cX10_digestThing 61 = .ok (.lstore 4, 2) := by decide +kernel
theorem dX10_digestThing_63 : decode cX10_digestThing 63 = .ok (.lload 4, 2) := by decide +kernel
theorem dX10_digestThing_65 : decode cX10_digestThing 65 = .ok (.aload_n 0, 1) := by decide +kernel
theorem dX10_digestThing_66 : decode cX10_digestThing 66 = .ok (.iload_n 3, 1) := by decide +kernel
theorem dX10_digestThing_67 : decode cX10_digestThing 67 = .ok (.iconst 3, 1) := by decide +kernel
theorem dX10_digestThing_68 : decode cX10_digestThing 68 = .ok (.iconst 1, 1) := by decide +kernel
theorem dX10_digestThing_69 : decode cX10_digestThing 69 = .ok (.invokevirtual 276, 3) := by decide +kernel
theorem dX10_digestThing_72 : decode cX10_digestThing 72 = .ok (.invokestatic 259, 3) := by decide +kernel
theorem dX10_digestThing_75 : decode cX10_digestThing 75 = .ok (.lstore 4, 2) := by decide +kernel
theorem dX10_digestThing_77 : decode cX10_digestThing 77 = .ok (.lload 4, 2) := by decide +kernel
theorem dX10_digestThing_79 : decode cX10_digestThing 79 = .ok (.lreturn, 1) := by decide +kernel
set_option maxRecDepth 20000 in
theorem ggX10_digestHall_X10_dice : GoodIn wsX10_digestHall wsX10_dice := goodIn_r _ [5, 6, 7, 8, 4, 9, 10, 11, 12, 13, 14, 15, 16, 17, 18, 19, 20, 21, 22, 23, 24, 25, 26, 27, 28, 29, 30, 31, 32, 33, 34, 35, 36, 37, 38, 39, 40, 41, 42, 43, 44, 45, 46, 47, 48, 49, 50, 51, 52, 53, 54, 55, 56, 57, 58, 59, 60, 61, 62, 63, 64, 65, 108, 109, 110, 111, 112, 113, 114, 115, 116, 117, 118, 119, 120, 121, 122, 123, 124, 125, 126, 127, 128, 129, 130, 131, 132, 133, 134, 135, 136, 137, 138] (by decide +kernel) (by decide +kernel)
set_option maxRecDepth 20000 in
theorem gX10_digestHall_X10_dice : GoodIn wsX10_digestHall (wsV RX10 280 RX10 yX10_dice wsX10_dice) := goodIn_app (goodIn_of _ (by decide +kernel)) ggX10_digestHall_X10_dice
set_option maxRecDepth 20000 in
theorem ggX10_digestHall_X10_mix : GoodIn wsX10_digestHall wsX10_mix := goodIn_r _ [68, 69] (by decide +kernel) (by decide +kernel)
set_option maxRecDepth 20000 in
theorem gX10_digestHall_X10_mix : GoodIn wsX10_digestHall (va_wsS RX10 259 yX10_mix wsX10_mix) := goodIn_app (goodIn_of _ (by decide +kernel)) ggX10_digestHall_X10_mix
set_option maxRecDepth 20000 in
theorem ggX10_digestHall_X10_odds : GoodIn wsX10_digestHall wsX10_odds := goodIn_r _ [73, 10, 74, 16, 17, 4, 18, 11, 12, 13, 14, 15, 75, 76, 77, 78, 79, 80, 81, 82, 83, 84, 85, 108, 109, 110, 111, 112, 113, 114, 115, 116, 117, 139, 140, 118, 119, 120, 121, 122, 123] (by decide +kernel) (by decide +kernel)
set_option maxRecDepth 20000 in
theorem gX10_digestHall_X10_odds : GoodIn wsX10_digestHall (wsV RX10 283 RX10 yX10_odds wsX10_odds) := goodIn_app (goodIn_of _ (by decide +kernel)) ggX10_digestHall_X10_odds
set_option maxRecDepth 20000 in
theorem ggX10_digestHall_X10_laws : GoodIn wsX10_digestHall wsX10_laws := goodIn_r _ [89, 10, 16, 17, 4, 18, 11, 12, 13, 14, 15, 90, 91, 92, 93, 94, 95, 96, 97, 98, 99, 100, 101, 102, 103, 104, 105, 106, 107, 108, 109, 110, 111, 112, 113, 114, 115, 116, 117, 118, 119, 120, 121, 122, 123, 141, 142, 143, 144, 145, 146] (by decide +kernel) (by decide +kernel)
set_option maxRecDepth 20000 in
theorem gX10_digestHall_X10_laws : GoodIn wsX10_digestHall (wsV RX10 285 RX10 yX10_laws wsX10_laws) := goodIn_app (goodIn_of _ (by decide +kernel)) ggX10_digestHall_X10_laws
theorem dX10_digestHall_0 : decode cX10_digestHall 0 = .ok (.lload_n 1, 1) := by decide +kernel
theorem dX10_digestHall_1 : decode cX10_digestHall 1 = .ok (.lstore_n 3, 1) := by decide +kernel
theorem dX10_digestHall_2 : decode cX10_digestHall 2 = .ok (.iconst 0, 1) := by decide +kernel
theorem dX10_digestHall_3 : decode cX10_digestHall 3 = .ok (.istore 5, 2) := by decide +kernel
theorem dX10_digestHall_5 : decode cX10_digestHall 5 = .ok (.iload 5, 2) := by decide +kernel
theorem dX10_digestHall_7 : decode cX10_digestHall 7 = .ok (.iconst 1, 1) := by decide +kernel
theorem dX10_digestHall_8 : decode cX10_digestHall 8 = .ok (.if_icmp .gt 38, 3) := by decide +kernel
theorem dX10_digestHall_11 : decode cX10_digestHall 11 = .ok (.iconst 0, 1) := by decide +kernel
theorem dX10_digestHall_12 : decode cX10_digestHall 12 = .ok (.istore 6, 2) := by decide +kernel
theorem dX10_digestHall_14 : decode cX10_digestHall 14 = .ok (.iload 6, 2) := by decide +kernel
theorem dX10_digestHall_16 : decode cX10_digestHall 16 = .ok (.iconst 4, 1) := by decide +kernel
theorem dX10_digestHall_17 : decode cX10_digestHall 17 = .ok (.if_icmp .ge 23, 3) := by decide +kernel
theorem dX10_digestHall_20 : decode cX10_digestHall 20 = .ok (.lload_n 3, 1) := by decide +kernel
theorem dX10_digestHall_21 : decode cX10_digestHall 21 = .ok (.aload_n 0, 1) := by decide +kernel
theorem dX10_digestHall_22 : decode cX10_digestHall 22 = .ok (.iload 5, 2) := by decide +kernel
theorem dX10_digestHall_24 : decode cX10_digestHall 24 = .ok (.iload 6, 2) := by decide +kernel
theorem dX10_digestHall_26 : decode cX10_digestHall 26 = .ok (.invokevirtual 280, 3) := by decide +kernel
theorem dX10_digestHall_29 : decode cX10_digestHall 29 = .ok (.i2l, 1) := by decide +kernel
theorem dX10_digestHall_30 : decode cX10_digestHall 30 = .ok (.invokestatic 259, 3) := by decide +kernel
theorem dX10_digestHall_33 : decode cX10_digestHall 33 = .ok (.lstore_n 3, 1) := by decide +kernel
theorem dX10_digestHall_34 : decode cX10_digestHall 34 = .ok (.iinc 6 1, 3) := by decide +kernel
theorem dX10_digestHall_37 : decode cX10_digestHall 37 = .ok (.goto (-23), 3) := by decide +kernel
theorem dX10_digestHall_40 : decode cX10_digestHall 40 = .ok (.iinc 5 1, 3) := by decide +kernel
theorem dX10_digestHall_43 : decode cX10_digestHall 43 = .ok (.goto (-38), 3) := by decide +kernel
theorem dX10_digestHall_46 : decode cX10_digestHall 46 = .ok (.iconst 0, 1) := by decide +kernel
theorem dX10_digestHall_47 : decode cX10_digestHall 47 = .ok (.istore 5, 2) := by decide +kernel
theorem dX10_digestHall_49 : decode cX10_digestHall 49 = .ok (.iload 5, 2) := by decide +kernel
theorem dX10_digestHall_51 : decode cX10_digestHall 51 = .ok (.bipush 6, 2) := by decide +kernel
theorem dX10_digestHall_53 : decode cX10_digestHall 53 = .ok (.if_icmp .ge 21, 3) := by decide +kernel
theorem dX10_digestHall_56 : decode cX10_digestHall 56 = .ok (.lload_n 3, 1) := by decide +kernel
theorem dX10_digestHall_57 : decode cX10_digestHall 57 = .ok (.aload_n 0, 1) := by decide +kernel
theorem dX10_digestHall_58 : decode cX10_digestHall 58 = .ok (.iload 5, 2) := by decide +kernel
theorem dX10_digestHall_60 : decode cX10_digestHall 60 = .ok (.invokevirtual 283, 3) := by decide +kernel
theorem dX10_digestHall_63 : decode cX10_digestHall 63 = .ok (.i2l, 1) := by decide +kernel
theorem dX10_digestHall_64 : decode cX10_digestHall 64 = .ok (.invokestatic 259, 3) := by decide +kernel
theorem dX10_digestHall_67 : decode cX10_digestHall 67 = .ok (.lstore_n 3, 1) := by decide +kernel
theorem dX10_digestHall_68 : decode cX10_digestHall 68 = .ok (.iinc 5 1, 3) := by decide +kernel
theorem dX10_digestHall_71 : decode cX10_digestHall 71 = .ok (.goto (-22), 3) := by decide +kernel
theorem dX10_digestHall_74 : decode cX10_digestHall 74 = .ok (.iconst 0, 1) := by decide +kernel
theorem dX10_digestHall_75 : decode cX10_digestHall 75 = .ok (.istore 5, 2) := by decide +kernel
theorem dX10_digestHall_77 : decode cX10_digestHall 77 = .ok (.iload 5, 2) := by decide +kernel
theorem dX10_digestHall_79 : decode cX10_digestHall 79 = .ok (.iconst 4, 1) := by decide +kernel
theorem dX10_digestHall_80 : decode cX10_digestHall 80 = .ok (.if_icmp .ge 35, 3) := by decide +kernel
theorem dX10_digestHall_83 : decode cX10_digestHall 83 = .ok (.lload_n 3, 1) := by decide +kernel
theorem dX10_digestHall_84 : decode cX10_digestHall 84 = .ok (.aload_n 0, 1) := by decide +kernel
theorem dX10_digestHall_85 : decode cX10_digestHall 85 = .ok (.iload 5, 2) := by decide +kernel
theorem dX10_digestHall_87 : decode cX10_digestHall 87 = .ok (.iconst 0, 1) := by decide +kernel
theorem dX10_digestHall_88 : decode cX10_digestHall 88 = .ok (.invokevirtual 285, 3) := by decide +kernel
theorem dX10_digestHall_91 : decode cX10_digestHall 91 = .ok (.i2l, 1) := by decide +kernel
theorem dX10_digestHall_92 : decode cX10_digestHall 92 = .ok (.invokestatic 259, 3) := by decide +kernel
theorem dX10_digestHall_95 : decode cX10_digestHall 95 = .ok (.lstore_n 3, 1) := by decide +kernel
theorem dX10_digestHall_96 : decode cX10_digestHall 96 = .ok (.lload_n 3, 1) := by decide +kernel
theorem dX10_digestHall_97 : decode cX10_digestHall 97 = .ok (.aload_n 0, 1) := by decide +kernel
theorem dX10_digestHall_98 : decode cX10_digestHall 98 = .ok (.iload 5, 2) := by decide +kernel
theorem dX10_digestHall_100 : decode cX10_digestHall 100 = .ok (.iconst 1, 1) := by decide +kernel
theorem dX10_digestHall_101 : decode cX10_digestHall 101 = .ok (.invokevirtual 285, 3) := by decide +kernel
theorem dX10_digestHall_104 : decode cX10_digestHall 104 = .ok (.i2l, 1) := by decide +kernel
theorem dX10_digestHall_105 : decode cX10_digestHall 105 = .ok (.invokestatic 259, 3) := by decide +kernel
theorem dX10_digestHall_108 : decode cX10_digestHall 108 = .ok (.lstore_n 3, 1) := by decide +kernel
theorem dX10_digestHall_109 : decode cX10_digestHall 109 = .ok (.iinc 5 1, 3) := by decide +kernel
theorem dX10_digestHall_112 : decode cX10_digestHall 112 = .ok (.goto (-35), 3) := by decide +kernel
theorem dX10_digestHall_115 : decode cX10_digestHall 115 = .ok (.lload_n 3, 1) := by decide +kernel
theorem dX10_digestHall_116 : decode cX10_digestHall 116 = .ok (.lreturn, 1) := by decide +kernel
theorem dX10_mix_0 : decode cX10_mix 0 = .ok (.ldc2_w 288, 3) := by decide +kernel
theorem dX10_mix_3 : decode cX10_mix 3 = .ok (.lload_n 0, 1) := by decide +kernel
theorem dX10_mix_4 : decode cX10_mix 4 = .ok (.lmul, 1) := by decide +kernel
theorem dX10_mix_5 : decode cX10_mix 5 = .ok (.lload_n 2, 1) := by decide +kernel
theorem dX10_mix_6 : decode cX10_mix 6 = .ok (.ladd, 1) := by decide +kernel
theorem dX10_mix_7 : decode cX10_mix 7 = .ok (.lreturn, 1) := by decide +kernel
set_option maxRecDepth 20000 in
theorem ggX10_hasDice_X7_hasHall : GoodIn wsX10_hasDice wsX7_hasHall := goodIn_r _ [5, 6, 17, 18, 19, 20, 21, 22] (by decide +kernel) (by decide +kernel)
set_option maxRecDepth 20000 in
theorem gX10_hasDice_X7_hasHall_n161 : GoodIn wsX10_hasDice (wsX7_hasHall) := ggX10_hasDice_X7_hasHall
theorem dX10_hasDice_0 : decode cX10_hasDice 0 = .ok (.aload_n 0, 1) := by decide +kernel
theorem dX10_hasDice_1 : decode cX10_hasDice 1 = .ok (.getfield 56, 3) := by decide +kernel
theorem dX10_hasDice_4 : decode cX10_hasDice 4 = .ok (.invokevirtual 161, 3) := by decide +kernel
theorem dX10_hasDice_7 : decode cX10_hasDice 7 = .ok (.ifCond .eq 16, 3) := by decide +kernel
theorem dX10_hasDice_10 : decode cX10_hasDice 10 = .ok (.iload_n 1, 1) := by decide +kernel
theorem dX10_hasDice_11 : decode cX10_hasDice 11 = .ok (.ifCond .eq 8, 3) := by decide +kernel
theorem dX10_hasDice_14 : decode cX10_hasDice 14 = .ok (.iload_n 1, 1) := by decide +kernel
theorem dX10_hasDice_15 : decode cX10_hasDice 15 = .ok (.iconst 1, 1) := by decide +kernel
theorem dX10_hasDice_16 : decode cX10_hasDice 16 = .ok (.if_icmp .ne 7, 3) := by decide +kernel
theorem dX10_hasDice_19 : decode cX10_hasDice 19 = .ok (.iconst 1, 1) := by decide +kernel
theorem dX10_hasDice_20 : decode cX10_hasDice 20 = .ok (.goto 4, 3) := by decide +kernel
theorem dX10_hasDice_23 : decode cX10_hasDice 23 = .ok (.iconst 0, 1) := by decide +kernel
theorem dX10_hasDice_24 : decode cX10_hasDice 24 = .ok (.ireturn, 1) := by decide +kernel
theorem dX10_diceOf_0 : decode cX10_diceOf 0 = .ok (.iload_n 1, 1) := by decide +kernel
theorem dX10_diceOf_1 : decode cX10_diceOf 1 = .ok (.ifCond .ne 10, 3) := by decide +kernel
theorem dX10_diceOf_4 : decode cX10_diceOf 4 = .ok (.aload_n 0, 1) := by decide +kernel
theorem dX10_diceOf_5 : decode cX10_diceOf 5 = .ok (.getfield 63, 3) := by decide +kernel
theorem dX10_diceOf_8 : decode cX10_diceOf 8 = .ok (.goto 7, 3) := by decide +kernel
theorem dX10_diceOf_11 : decode cX10_diceOf 11 = .ok (.aload_n 0, 1) := by decide +kernel
theorem dX10_diceOf_12 : decode cX10_diceOf 12 = .ok (.getfield 67, 3) := by decide +kernel
theorem dX10_diceOf_15 : decode cX10_diceOf 15 = .ok (.areturn, 1) := by decide +kernel
set_option maxRecDepth 20000 in
theorem ggX10_diceByLetter_J0_indexOf_0f7a4 : GoodIn wsX10_diceByLetter wsJ0_indexOf_0f7a4 := goodIn_r _ [6, 7, 8, 9, 5, 10, 11, 12, 13, 14, 15, 16, 17, 18, 19, 20, 21, 22, 23, 24, 25, 26, 27, 28, 29, 30, 31, 32, 33, 34, 35, 36, 37, 38, 39, 40, 41, 42, 43, 44, 45, 46, 47, 48, 49, 50, 51, 52, 53, 54, 55, 56, 57, 58, 59, 60, 61, 62, 63, 64, 65, 66, 67, 68, 69, 70, 71, 72, 73, 74, 75, 76, 77, 78, 79, 80, 81, 82, 83, 84, 85, 86, 87, 88, 89, 90] (by decide +kernel) (by decide +kernel)
set_option maxRecDepth 20000 in
theorem gX10_diceByLetter_J0_indexOf_0f7a4 : GoodIn wsX10_diceByLetter (wsV RX10 292 RJ0 yJ0_indexOf_0f7a4 wsJ0_indexOf_0f7a4) := goodIn_app (goodIn_of _ (by decide +kernel)) ggX10_diceByLetter_J0_indexOf_0f7a4
set_option maxRecDepth 20000 in
theorem ggX10_diceByLetter_X10_isBelow : GoodIn wsX10_diceByLetter wsX10_isBelow := goodIn_r _ [94] (by decide +kernel) (by decide +kernel)
set_option maxRecDepth 20000 in
theorem gX10_diceByLetter_X10_isBelow : GoodIn wsX10_diceByLetter (va_wsS RX10 121 yX10_isBelow wsX10_isBelow) := goodIn_app (goodIn_of _ (by decide +kernel)) ggX10_diceByLetter_X10_isBelow
theorem dX10_diceByLetter_0 : decode cX10_diceByLetter 0 = .ok (.ldc_w 290, 3) := by decide +kernel
theorem dX10_diceByLetter_3 : decode cX10_diceByLetter 3 = .ok (.iload_n 1, 1) := by decide +kernel
theorem dX10_diceByLetter_4 : decode cX10_diceByLetter 4 = .ok (.i2c, 1) := by decide +kernel
theorem dX10_diceByLetter_5 : decode cX10_diceByLetter 5 = .ok (.invokevirtual 292, 3) := by decide +kernel
theorem dX10_diceByLetter_8 : decode cX10_diceByLetter 8 = .ok (.istore_n 2, 1) := by decide +kernel
theorem dX10_diceByLetter_9 : decode cX10_diceByLetter 9 = .ok (.iload_n 2, 1) := by decide +kernel
theorem dX10_diceByLetter_10 : decode cX10_diceByLetter 10 = .ok (.aload_n 0, 1) := by decide +kernel
theorem dX10_diceByLetter_11 : decode cX10_diceByLetter 11 = .ok (.getfield 35, 3) := by decide +kernel
theorem dX10_diceByLetter_14 : decode cX10_diceByLetter 14 = .ok (.arraylength, 1) := by decide +kernel
theorem dX10_diceByLetter_15 : decode cX10_diceByLetter 15 = .ok (.invokestatic 121, 3) := by decide +kernel
theorem dX10_diceByLetter_18 : decode cX10_diceByLetter 18 = .ok (.ifCond .eq 12, 3) := by decide +kernel
theorem dX10_diceByLetter_21 : decode cX10_diceByLetter 21 = .ok (.aload_n 0, 1) := by decide +kernel
theorem dX10_diceByLetter_22 : decode cX10_diceByLetter 22 = .ok (.getfield 35, 3) := by decide +kernel
theorem dX10_diceByLetter_25 : decode cX10_diceByLetter 25 = .ok (.iload_n 2, 1) := by decide +kernel
theorem dX10_diceByLetter_26 : decode cX10_diceByLetter 26 = .ok (.aaload, 1) := by decide +kernel
theorem dX10_diceByLetter_27 : decode cX10_diceByLetter 27 = .ok (.goto 9, 3) := by decide +kernel
theorem dX10_diceByLetter_30 : decode cX10_diceByLetter 30 = .ok (.aload_n 0, 1) := by decide +kernel
theorem dX10_diceByLetter_31 : decode cX10_diceByLetter 31 = .ok (.getfield 35, 3) := by decide +kernel
theorem dX10_diceByLetter_34 : decode cX10_diceByLetter 34 = .ok (.iconst 0, 1) := by decide +kernel
theorem dX10_diceByLetter_35 : decode cX10_diceByLetter 35 = .ok (.aaload, 1) := by decide +kernel
theorem dX10_diceByLetter_36 : decode cX10_diceByLetter 36 = .ok (.areturn, 1) := by decide +kernel
theorem dX10_isOfKind_0 : decode cX10_isOfKind 0 = .ok (.iload_n 1, 1) := by decide +kernel
theorem dX10_isOfKind_1 : decode cX10_isOfKind 1 = .ok (.tableswitch 57 0 4 #[35, 37, 42, 47, 52], 35) := by decide +kernel
theorem dX10_isOfKind_36 : decode cX10_isOfKind 36 = .ok (.iconst 1, 1) := by decide +kernel
theorem dX10_isOfKind_37 : decode cX10_isOfKind 37 = .ok (.ireturn, 1) := by decide +kernel
theorem dX10_isOfKind_38 : decode cX10_isOfKind 38 = .ok (.aload_n 0, 1) := by decide +kernel
theorem dX10_isOfKind_39 : decode cX10_isOfKind 39 = .ok (.instanceof 21, 3) := by decide +kernel
theorem dX10_isOfKind_42 : decode cX10_isOfKind 42 = .ok (.ireturn, 1) := by decide +kernel
theorem dX10_isOfKind_43 : decode cX10_isOfKind 43 = .ok (.aload_n 0, 1) := by decide +kernel
theorem dX10_isOfKind_44 : decode cX10_isOfKind 44 = .ok (.instanceof 26, 3) := by decide +kernel
theorem dX10_isOfKind_47 : decode cX10_isOfKind 47 = .ok (.ireturn, 1) := by decide +kernel
theorem dX10_isOfKind_48 : decode cX10_isOfKind 48 = .ok (.aload_n 0, 1) := by decide +kernel
theorem dX10_isOfKind_49 : decode cX10_isOfKind 49 = .ok (.instanceof 29, 3) := by decide +kernel
theorem dX10_isOfKind_52 : decode cX10_isOfKind 52 = .ok (.ireturn, 1) := by decide +kernel
theorem dX10_isOfKind_53 : decode cX10_isOfKind 53 = .ok (.aload_n 0, 1) := by decide +kernel
theorem dX10_isOfKind_54 : decode cX10_isOfKind 54 = .ok (.instanceof 32, 3) := by decide +kernel
theorem dX10_isOfKind_57 : decode cX10_isOfKind 57 = .ok (.ireturn, 1) := by decide +kernel
theorem dX10_isOfKind_58 : decode cX10_isOfKind 58 = .ok (.iconst 0, 1) := by decide +kernel
theorem dX10_isOfKind_59 : decode cX10_isOfKind 59 = .ok (.ireturn, 1) := by decide +kernel
theorem dX10_isSum_0 : decode cX10_isSum 0 = .ok (.iload_n 0, 1) := by decide +kernel
theorem dX10_isSum_1 : decode cX10_isSum 1 = .ok (.iconst 2, 1) := by decide +kernel
theorem dX10_isSum_2 : decode cX10_isSum 2 = .ok (.if_icmp .lt 13, 3) := by decide +kernel
theorem dX10_isSum_5 : decode cX10_isSum 5 = .ok (.iload_n 0, 1) := by decide +kernel
theorem dX10_isSum_6 : decode cX10_isSum 6 = .ok (.bipush 12, 2) := by decide +kernel
theorem dX10_isSum_8 : decode cX10_isSum 8 = .ok (.if_icmp .gt 7, 3) := by decide +kernel
theorem dX10_isSum_11 : decode cX10_isSum 11 = .ok (.iconst 1, 1) := by decide +kernel
theorem dX10_isSum_12 : decode cX10_isSum 12 = .ok (.goto 4, 3) := by decide +kernel
theorem dX10_isSum_15 : decode cX10_isSum 15 = .ok (.iconst 0, 1) := by decide +kernel
theorem dX10_isSum_16 : decode cX10_isSum 16 = .ok (.ireturn, 1) := by decide +kernel
theorem dX10_isBelow_0 : decode cX10_isBelow 0 = .ok (.iload_n 0, 1) := by decide +kernel
theorem dX10_isBelow_1 : decode cX10_isBelow 1 = .ok (.ifCond .lt 12, 3) := by decide +kernel
theorem dX10_isBelow_4 : decode cX10_isBelow 4 = .ok (.iload_n 0, 1) := by decide +kernel
theorem dX10_isBelow_5 : decode cX10_isBelow 5 = .ok (.iload_n 1, 1) := by decide +kernel
theorem dX10_isBelow_6 : decode cX10_isBelow 6 = .ok (.if_icmp .ge 7, 3) := by decide +kernel
theorem dX10_isBelow_9 : decode cX10_isBelow 9 = .ok (.iconst 1, 1) := by decide +kernel
theorem dX10_isBelow_10 : decode cX10_isBelow 10 = .ok (.goto 4, 3) := by decide +kernel
theorem dX10_isBelow_13 : decode cX10_isBelow 13 = .ok (.iconst 0, 1) := by decide +kernel
theorem dX10_isBelow_14 : decode cX10_isBelow 14 = .ok (.ireturn, 1) := by decide +kernel
set_option maxRecDepth 20000 in
theorem ggX10_lowestTerm_X10_commonDivisor : GoodIn wsX10_lowestTerm wsX10_commonDivisor := goodIn_r _ [4] (by decide +kernel) (by decide +kernel)
set_option maxRecDepth 20000 in
theorem gX10_lowestTerm_X10_commonDivisor : GoodIn wsX10_lowestTerm (va_wsS RX10 297 yX10_commonDivisor wsX10_commonDivisor) := goodIn_app (goodIn_of _ (by decide +kernel)) ggX10_lowestTerm_X10_commonDivisor
theorem dX10_lowestTerm_0 : decode cX10_lowestTerm 0 = .ok (.lload_n 0, 1) := by decide +kernel
theorem dX10_lowestTerm_1 : decode cX10_lowestTerm 1 = .ok (.lload_n 2, 1) := by decide +kernel
theorem dX10_lowestTerm_2 : decode cX10_lowestTerm 2 = .ok (.invokestatic 297, 3) := by decide +kernel
theorem dX10_lowestTerm_5 : decode cX10_lowestTerm 5 = .ok (.lstore 5, 2) := by decide +kernel
theorem dX10_lowestTerm_7 : decode cX10_lowestTerm 7 = .ok (.iload 4, 2) := by decide +kernel
theorem dX10_lowestTerm_9 : decode cX10_lowestTerm 9 = .ok (.ifCond .ne 7, 3) := by decide +kernel
theorem dX10_lowestTerm_12 : decode cX10_lowestTerm 12 = .ok (.lload_n 0, 1) := by decide +kernel
theorem dX10_lowestTerm_13 : decode cX10_lowestTerm 13 = .ok (.goto 4, 3) := by decide +kernel
theorem dX10_lowestTerm_16 : decode cX10_lowestTerm 16 = .ok (.lload_n 2, 1) := by decide +kernel
theorem dX10_lowestTerm_17 : decode cX10_lowestTerm 17 = .ok (.lstore 7, 2) := by decide +kernel
theorem dX10_lowestTerm_19 : decode cX10_lowestTerm 19 = .ok (.lload 5, 2) := by decide +kernel
theorem dX10_lowestTerm_21 : decode cX10_lowestTerm 21 = .ok (.lconst 0, 1) := by decide +kernel
theorem dX10_lowestTerm_22 : decode cX10_lowestTerm 22 = .ok (.lcmp, 1) := by decide +kernel
theorem dX10_lowestTerm_23 : decode cX10_lowestTerm 23 = .ok (.ifCond .le 11, 3) := by decide +kernel
theorem dX10_lowestTerm_26 : decode cX10_lowestTerm 26 = .ok (.lload 7, 2) := by decide +kernel
theorem dX10_lowestTerm_28 : decode cX10_lowestTerm 28 = .ok (.lload 5, 2) := by decide +kernel
theorem dX10_lowestTerm_30 : decode cX10_lowestTerm 30 = .ok (.ldiv, 1) := by decide +kernel
theorem dX10_lowestTerm_31 : decode cX10_lowestTerm 31 = .ok (.goto 5, 3) := by decide +kernel
theorem dX10_lowestTerm_34 : decode cX10_lowestTerm 34 = .ok (.lload 7, 2) := by decide +kernel
theorem dX10_lowestTerm_36 : decode cX10_lowestTerm 36 = .ok (.lreturn, 1) := by decide +kernel
theorem dX10_commonDivisor_0 : decode cX10_commonDivisor 0 = .ok (.lload_n 0, 1) := by decide +kernel
theorem dX10_commonDivisor_1 : decode cX10_commonDivisor 1 = .ok (.lstore 4, 2) := by decide +kernel
theorem dX10_commonDivisor_3 : decode cX10_commonDivisor 3 = .ok (.lload_n 2, 1) := by decide +kernel
theorem dX10_commonDivisor_4 : decode cX10_commonDivisor 4 = .ok (.lstore 6, 2) := by decide +kernel
theorem dX10_commonDivisor_6 : decode cX10_commonDivisor 6 = .ok (.iconst 0, 1) := by decide +kernel
theorem dX10_commonDivisor_7 : decode cX10_commonDivisor 7 = .ok (.istore 8, 2) := by decide +kernel
theorem dX10_commonDivisor_9 : decode cX10_commonDivisor 9 = .ok (.iload 8, 2) := by decide +kernel
theorem dX10_commonDivisor_11 : decode cX10_commonDivisor 11 = .ok (.bipush 100, 2) := by decide +kernel
theorem dX10_commonDivisor_13 : decode cX10_commonDivisor 13 = .ok (.if_icmp .ge 31, 3) := by decide +kernel
theorem dX10_commonDivisor_16 : decode cX10_commonDivisor 16 = .ok (.lload 6, 2) := by decide +kernel
theorem dX10_commonDivisor_18 : decode cX10_commonDivisor 18 = .ok (.lconst 0, 1) := by decide +kernel
theorem dX10_commonDivisor_19 : decode cX10_commonDivisor 19 = .ok (.lcmp, 1) := by decide +kernel
theorem dX10_commonDivisor_20 : decode cX10_commonDivisor 20 = .ok (.ifCond .eq 24, 3) := by decide +kernel
theorem dX10_commonDivisor_23 : decode cX10_commonDivisor 23 = .ok (.lload 4, 2) := by decide +kernel
theorem dX10_commonDivisor_25 : decode cX10_commonDivisor 25 = .ok (.lload 6, 2) := by decide +kernel
theorem dX10_commonDivisor_27 : decode cX10_commonDivisor 27 = .ok (.lrem, 1) := by decide +kernel
theorem dX10_commonDivisor_28 : decode cX10_commonDivisor 28 = .ok (.lstore 9, 2) := by decide +kernel
theorem dX10_commonDivisor_30 : decode cX10_commonDivisor 30 = .ok (.lload 6, 2) := by decide +kernel
theorem dX10_commonDivisor_32 : decode cX10_commonDivisor 32 = .ok (.lstore 4, 2) := by decide +kernel
theorem dX10_commonDivisor_34 : decode cX10_commonDivisor 34 = .ok (.lload 9, 2) := by decide +kernel
theorem dX10_commonDivisor_36 : decode cX10_commonDivisor 36 = .ok (.lstore 6, 2) := by decide +kernel
theorem dX10_commonDivisor_38 : decode cX10_commonDivisor 38 = .ok (.iinc 8 1, 3) := by decide +kernel
theorem dX10_commonDivisor_41 : decode cX10_commonDivisor 41 = .ok (.goto (-32), 3) := by decide +kernel
theorem dX10_commonDivisor_44 : decode cX10_commonDivisor 44 = .ok (.lload 4, 2) := by decide +kernel
theorem dX10_commonDivisor_46 : decode cX10_commonDivisor 46 = .ok (.lreturn, 1) := by decide +kernel
set_option maxRecDepth 20000 in
theorem ggX10_waysBack_X5_waysTo : GoodIn wsX10_waysBack wsX5_waysTo := goodIn_r _ [4, 5, 6, 7, 8, 14, 15] (by decide +kernel) (by decide +kernel)
set_option maxRecDepth 20000 in
theorem gX10_waysBack_X5_waysTo_n164 : GoodIn wsX10_waysBack (wsX5_waysTo) := ggX10_waysBack_X5_waysTo
set_option maxRecDepth 20000 in
theorem ggX10_waysBack_X10_power : GoodIn wsX10_waysBack wsX10_power := goodIn_r _ [11] (by decide +kernel) (by decide +kernel)
set_option maxRecDepth 20000 in
theorem gX10_waysBack_X10_power : GoodIn wsX10_waysBack (va_wsS RX10 190 yX10_power wsX10_power) := goodIn_app (goodIn_of _ (by decide +kernel)) ggX10_waysBack_X10_power
set_option maxRecDepth 20000 in
theorem ggX10_waysBack_X10_waysBack : GoodIn wsX10_waysBack wsX10_waysBack := goodIn_r _ [0, 1, 2, 3, 4, 5, 6, 7, 8, 9, 10, 11, 12, 13, 14, 15] (by decide +kernel) (by decide +kernel)
set_option maxRecDepth 20000 in
theorem gX10_waysBack_X10_waysBack : GoodIn wsX10_waysBack (va_wsS RX10 186 yX10_waysBack wsX10_waysBack) := goodIn_app (goodIn_of _ (by decide +kernel)) ggX10_waysBack_X10_waysBack
theorem dX10_waysBack_0 : decode cX10_waysBack 0 = .ok (.iload_n 1, 1) := by decide +kernel
theorem dX10_waysBack_1 : decode cX10_waysBack 1 = .ok (.iconst 1, 1) := by decide +kernel
theorem dX10_waysBack_2 : decode cX10_waysBack 2 = .ok (.if_icmp .lt 13, 3) := by decide +kernel
theorem dX10_waysBack_5 : decode cX10_waysBack 5 = .ok (.iload_n 1, 1) := by decide +kernel
theorem dX10_waysBack_6 : decode cX10_waysBack 6 = .ok (.iconst 5, 1) := by decide +kernel
theorem dX10_waysBack_7 : decode cX10_waysBack 7 = .ok (.if_icmp .gt 8, 3) := by decide +kernel
theorem dX10_waysBack_10 : decode cX10_waysBack 10 = .ok (.iload_n 2, 1) := by decide +kernel
theorem dX10_waysBack_11 : decode cX10_waysBack 11 = .ok (.iconst 1, 1) := by decide +kernel
theorem dX10_waysBack_12 : decode cX10_waysBack 12 = .ok (.if_icmp .ge 5, 3) := by decide +kernel
theorem dX10_waysBack_15 : decode cX10_waysBack 15 = .ok (.lconst 0, 1) := by decide +kernel
theorem dX10_waysBack_16 : decode cX10_waysBack 16 = .ok (.lreturn, 1) := by decide +kernel
theorem dX10_waysBack_17 : decode cX10_waysBack 17 = .ok (.aload_n 0, 1) := by decide +kernel
theorem dX10_waysBack_18 : decode cX10_waysBack 18 = .ok (.iconst 0, 1) := by decide +kernel
theorem dX10_waysBack_19 : decode cX10_waysBack 19 = .ok (.invokevirtual 164, 3) := by decide +kernel
theorem dX10_waysBack_22 : decode cX10_waysBack 22 = .ok (.i2l, 1) := by decide +kernel
theorem dX10_waysBack_23 : decode cX10_waysBack 23 = .ok (.aload_n 0, 1) := by decide +kernel
theorem dX10_waysBack_24 : decode cX10_waysBack 24 = .ok (.getfield 167, 3) := by decide +kernel
theorem dX10_waysBack_27 : decode cX10_waysBack 27 = .ok (.i2l, 1) := by decide +kernel
theorem dX10_waysBack_28 : decode cX10_waysBack 28 = .ok (.iload_n 1, 1) := by decide +kernel
theorem dX10_waysBack_29 : decode cX10_waysBack 29 = .ok (.iconst 1, 1) := by decide +kernel
theorem dX10_waysBack_30 : decode cX10_waysBack 30 = .ok (.isub, 1) := by decide +kernel
theorem dX10_waysBack_31 : decode cX10_waysBack 31 = .ok (.invokestatic 190, 3) := by decide +kernel
theorem dX10_waysBack_34 : decode cX10_waysBack 34 = .ok (.lmul, 1) := by decide +kernel
theorem dX10_waysBack_35 : decode cX10_waysBack 35 = .ok (.aload_n 0, 1) := by decide +kernel
theorem dX10_waysBack_36 : decode cX10_waysBack 36 = .ok (.iconst 1, 1) := by decide +kernel
theorem dX10_waysBack_37 : decode cX10_waysBack 37 = .ok (.invokevirtual 164, 3) := by decide +kernel
theorem dX10_waysBack_40 : decode cX10_waysBack 40 = .ok (.i2l, 1) := by decide +kernel
theorem dX10_waysBack_41 : decode cX10_waysBack 41 = .ok (.aload_n 0, 1) := by decide +kernel
theorem dX10_waysBack_42 : decode cX10_waysBack 42 = .ok (.iload_n 1, 1) := by decide +kernel
theorem dX10_waysBack_43 : decode cX10_waysBack 43 = .ok (.iconst 1, 1) := by decide +kernel
theorem dX10_waysBack_44 : decode cX10_waysBack 44 = .ok (.isub, 1) := by decide +kernel
theorem dX10_waysBack_45 : decode cX10_waysBack 45 = .ok (.iload_n 2, 1) := by decide +kernel
theorem dX10_waysBack_46 : decode cX10_waysBack 46 = .ok (.iconst 1, 1) := by decide +kernel
theorem dX10_waysBack_47 : decode cX10_waysBack 47 = .ok (.isub, 1) := by decide +kernel
theorem dX10_waysBack_48 : decode cX10_waysBack 48 = .ok (.invokestatic 186, 3) := by decide +kernel
theorem dX10_waysBack_51 : decode cX10_waysBack 51 = .ok (.lmul, 1) := by decide +kernel
theorem dX10_waysBack_52 : decode cX10_waysBack 52 = .ok (.ladd, 1) := by decide +kernel
theorem dX10_waysBack_53 : decode cX10_waysBack 53 = .ok (.aload_n 0, 1) := by decide +kernel
theorem dX10_waysBack_54 : decode cX10_waysBack 54 = .ok (.iconst 2, 1) := by decide +kernel
theorem dX10_waysBack_55 : decode cX10_waysBack 55 = .ok (.invokevirtual 164, 3) := by decide +kernel
theorem dX10_waysBack_58 : decode cX10_waysBack 58 = .ok (.i2l, 1) := by decide +kernel
theorem dX10_waysBack_59 : decode cX10_waysBack 59 = .ok (.aload_n 0, 1) := by decide +kernel
theorem dX10_waysBack_60 : decode cX10_waysBack 60 = .ok (.iload_n 1, 1) := by decide +kernel
theorem dX10_waysBack_61 : decode cX10_waysBack 61 = .ok (.iconst 1, 1) := by decide +kernel
theorem dX10_waysBack_62 : decode cX10_waysBack 62 = .ok (.isub, 1) := by decide +kernel
theorem dX10_waysBack_63 : decode cX10_waysBack 63 = .ok (.iload_n 2, 1) := by decide +kernel
theorem dX10_waysBack_64 : decode cX10_waysBack 64 = .ok (.invokestatic 186, 3) := by decide +kernel
theorem dX10_waysBack_67 : decode cX10_waysBack 67 = .ok (.lmul, 1) := by decide +kernel
theorem dX10_waysBack_68 : decode cX10_waysBack 68 = .ok (.ladd, 1) := by decide +kernel
theorem dX10_waysBack_69 : decode cX10_waysBack 69 = .ok (.lreturn, 1) := by decide +kernel
theorem dX10_power_0 : decode cX10_power 0 = .ok (.lconst 1, 1) := by decide +kernel
theorem dX10_power_1 : decode cX10_power 1 = .ok (.lstore_n 3, 1) := by decide +kernel
theorem dX10_power_2 : decode cX10_power 2 = .ok (.iconst 0, 1) := by decide +kernel
theorem dX10_power_3 : decode cX10_power 3 = .ok (.istore 5, 2) := by decide +kernel
theorem dX10_power_5 : decode cX10_power 5 = .ok (.iload 5, 2) := by decide +kernel
theorem dX10_power_7 : decode cX10_power 7 = .ok (.iload_n 2, 1) := by decide +kernel
theorem dX10_power_8 : decode cX10_power 8 = .ok (.if_icmp .ge 13, 3) := by decide +kernel
theorem dX10_power_11 : decode cX10_power 11 = .ok (.lload_n 3, 1) := by decide +kernel
theorem dX10_power_12 : decode cX10_power 12 = .ok (.lload_n 0, 1) := by decide +kernel
theorem dX10_power_13 : decode cX10_power 13 = .ok (.lmul, 1) := by decide +kernel
theorem dX10_power_14 : decode cX10_power 14 = .ok (.lstore_n 3, 1) := by decide +kernel
theorem dX10_power_15 : decode cX10_power 15 = .ok (.iinc 5 1, 3) := by decide +kernel
theorem dX10_power_18 : decode cX10_power 18 = .ok (.goto (-13), 3) := by decide +kernel
theorem dX10_power_21 : decode cX10_power 21 = .ok (.lload_n 3, 1) := by decide +kernel
theorem dX10_power_22 : decode cX10_power 22 = .ok (.lreturn, 1) := by decide +kernel
set_option maxRecDepth 20000 in
theorem ggX11_init_X11_leastOf : GoodIn wsX11_init wsX11_leastOf := goodIn_r _ [23] (by decide +kernel) (by decide +kernel)
set_option maxRecDepth 20000 in
theorem gX11_init_X11_leastOf : GoodIn wsX11_init (va_wsS RX11 54 yX11_leastOf wsX11_leastOf) := goodIn_app (goodIn_of _ (by decide +kernel)) ggX11_init_X11_leastOf
set_option maxRecDepth 20000 in
theorem ggX11_init_X11_mostOf : GoodIn wsX11_init wsX11_mostOf := goodIn_r _ [26] (by decide +kernel) (by decide +kernel)
set_option maxRecDepth 20000 in
theorem gX11_init_X11_mostOf : GoodIn wsX11_init (va_wsS RX11 58 yX11_mostOf wsX11_mostOf) := goodIn_app (goodIn_of _ (by decide +kernel)) ggX11_init_X11_mostOf
theorem dX11_init_0 : decode cX11_init 0 = .ok (.aload_n 0, 1) := by decide +kernel
theorem dX11_init_1 : decode cX11_init 1 = .ok (.invokespecial 1, 3) := by decide +kernel
theorem dX11_init_4 : decode cX11_init 4 = .ok (.aload_n 0, 1) := by decide +kernel
theorem dX11_init_5 : decode cX11_init 5 = .ok (.bipush 64, 2) := by decide +kernel
theorem dX11_init_7 : decode cX11_init 7 = .ok (.newarray .int, 2) := by decide +kernel
theorem dX11_init_9 : decode cX11_init 9 = .ok (.putfield 7, 3) := by decide +kernel
theorem dX11_init_12 : decode cX11_init 12 = .ok (.aload_n 0, 1) := by decide +kernel
theorem dX11_init_13 : decode cX11_init 13 = .ok (.bipush 13, 2) := by decide +kernel
theorem dX11_init_15 : decode cX11_init 15 = .ok (.newarray .int, 2) := by decide +kernel
theorem dX11_init_17 : decode cX11_init 17 = .ok (.putfield 13, 3) := by decide +kernel
theorem dX11_init_20 : decode cX11_init 20 = .ok (.aload_n 0, 1) := by decide +kernel
theorem dX11_init_21 : decode cX11_init 21 = .ok (.bipush 22, 2) := by decide +kernel
theorem dX11_init_23 : decode cX11_init 23 = .ok (.newarray .int, 2) := by decide +kernel
theorem dX11_init_25 : decode cX11_init 25 = .ok (.putfield 16, 3) := by decide +kernel
theorem dX11_init_28 : decode cX11_init 28 = .ok (.aload_n 0, 1) := by decide +kernel
theorem dX11_init_29 : decode cX11_init 29 = .ok (.bipush 12, 2) := by decide +kernel
theorem dX11_init_31 : decode cX11_init 31 = .ok (.newarray .int, 2) := by decide +kernel
theorem dX11_init_33 : decode cX11_init 33 = .ok (.putfield 19, 3) := by decide +kernel
theorem dX11_init_36 : decode cX11_init 36 = .ok (.aload_n 0, 1) := by decide +kernel
theorem dX11_init_37 : decode cX11_init 37 = .ok (.iconst 2, 1) := by decide +kernel
theorem dX11_init_38 : decode cX11_init 38 = .ok (.newarray .int, 2) := by decide +kernel
theorem dX11_init_40 : decode cX11_init 40 = .ok (.putfield 22, 3) := by decide +kernel
theorem dX11_init_43 : decode cX11_init 43 = .ok (.aload_n 0, 1) := by decide +kernel
theorem dX11_init_44 : decode cX11_init 44 = .ok (.bipush 36, 2) := by decide +kernel
theorem dX11_init_46 : decode cX11_init 46 = .ok (.newarray .int, 2) := by decide +kernel
theorem dX11_init_48 : decode cX11_init 48 = .ok (.putfield 25, 3) := by decide +kernel
theorem dX11_init_51 : decode cX11_init 51 = .ok (.aload_n 0, 1) := by decide +kernel
theorem dX11_init_52 : decode cX11_init 52 = .ok (.iconst 2, 1) := by decide +kernel
theorem dX11_init_53 : decode cX11_init 53 = .ok (.newarray .int, 2) := by decide +kernel
theorem dX11_init_55 : decode cX11_init 55 = .ok (.putfield 28, 3) := by decide +kernel
theorem dX11_init_58 : decode cX11_init 58 = .ok (.aload_n 0, 1) := by decide +kernel
theorem dX11_init_59 : decode cX11_init 59 = .ok (.bipush 7, 2) := by decide +kernel
theorem dX11_init_61 : decode cX11_init 61 = .ok (.newarray .long, 2) := by decide +kernel
theorem dX11_init_63 : decode cX11_init 63 = .ok (.putfield 31, 3) := by decide +kernel
theorem dX11_init_66 : decode cX11_init 66 = .ok (.aload_n 0, 1) := by decide +kernel
theorem dX11_init_67 : decode cX11_init 67 = .ok (.bipush 7, 2) := by decide +kernel
theorem dX11_init_69 : decode cX11_init 69 = .ok (.newarray .long, 2) := by decide +kernel
theorem dX11_init_71 : decode cX11_init 71 = .ok (.putfield 35, 3) := by decide +kernel
theorem dX11_init_74 : decode cX11_init 74 = .ok (.aload_n 0, 1) := by decide +kernel
theorem dX11_init_75 : decode cX11_init 75 = .ok (.bipush 8, 2) := by decide +kernel
theorem dX11_init_77 : decode cX11_init 77 = .ok (.newarray .int, 2) := by decide +kernel
theorem dX11_init_79 : decode cX11_init 79 = .ok (.putfield 38, 3) := by decide +kernel
theorem dX11_init_82 : decode cX11_init 82 = .ok (.aload_n 0, 1) := by decide +kernel
theorem dX11_init_83 : decode cX11_init 83 = .ok (.bipush 36, 2) := by decide +kernel
theorem dX11_init_85 : decode cX11_init 85 = .ok (.newarray .int, 2) := by decide +kernel
theorem dX11_init_87 : decode cX11_init 87 = .ok (.putfield 41, 3) := by decide +kernel
theorem dX11_init_90 : decode cX11_init 90 = .ok (.aload_n 0, 1) := by decide +kernel
theorem dX11_init_91 : decode cX11_init 91 = .ok (.bipush 36, 2) := by decide +kernel
theorem dX11_init_93 : decode cX11_init 93 = .ok (.newarray .int, 2) := by decide +kernel
theorem dX11_init_95 : decode cX11_init 95 = .ok (.putfield 44, 3) := by decide +kernel
theorem dX11_init_98 : decode cX11_init 98 = .ok (.aload_n 0, 1) := by decide +kernel
theorem dX11_init_99 : decode cX11_init 99 = .ok (.bipush 8, 2) := by decide +kernel
theorem dX11_init_101 : decode cX11_init 101 = .ok (.newarray .int, 2) := by decide +kernel
theorem dX11_init_103 : decode cX11_init 103 = .ok (.putfield 47, 3) := by decide +kernel
theorem dX11_init_106 : decode cX11_init 106 = .ok (.aload_n 0, 1) := by decide +kernel
theorem dX11_init_107 : decode cX11_init 107 = .ok (.iconst (-1), 1) := by decide +kernel
theorem dX11_init_108 : decode cX11_init 108 = .ok (.putfield 50, 3) := by decide +kernel
theorem dX11_init_111 : decode cX11_init 111 = .ok (.iconst 0, 1) := by decide +kernel
theorem dX11_init_112 : decode cX11_init 112 = .ok (.istore_n 1, 1) := by decide +kernel
theorem dX11_init_113 : decode cX11_init 113 = .ok (.iload_n 1, 1) := by decide +kernel
theorem dX11_init_114 : decode cX11_init 114 = .ok (.iconst 5, 1) := by decide +kernel
theorem dX11_init_115 : decode cX11_init 115 = .ok (.if_icmp .ge 103, 3) := by decide +kernel
theorem dX11_init_118 : decode cX11_init 118 = .ok (.iload_n 1, 1) := by decide +kernel
theorem dX11_init_119 : decode cX11_init 119 = .ok (.invokestatic 54, 3) := by decide +kernel
theorem dX11_init_122 : decode cX11_init 122 = .ok (.istore_n 2, 1) := by decide +kernel
theorem dX11_init_123 : decode cX11_init 123 = .ok (.iload_n 2, 1) := by decide +kernel
theorem dX11_init_124 : decode cX11_init 124 = .ok (.iload_n 1, 1) := by decide +kernel
theorem dX11_init_125 : decode cX11_init 125 = .ok (.invokestatic 58, 3) := by decide +kernel
theorem dX11_init_128 : decode cX11_init 128 = .ok (.if_icmp .gt 84, 3) := by decide +kernel
theorem dX11_init_131 : decode cX11_init 131 = .ok (.iload_n 1, 1) := by decide +kernel
theorem dX11_init_132 : decode cX11_init 132 = .ok (.invokestatic 54, 3) := by decide +kernel
theorem dX11_init_135 : decode cX11_init 135 = .ok (.istore_n 3, 1) := by decide +kernel
theorem dX11_init_136 : decode cX11_init 136 = .ok (.iload_n 3, 1) := by decide +kernel
theorem dX11_init_137 : decode cX11_init 137 = .ok (.iload_n 1, 1) := by decide +kernel
theorem dX11_init_138 : decode cX11_init 138 = .ok (.invokestatic 58, 3) := by decide +kernel
theorem dX11_init_141 : decode cX11_init 141 = .ok (.if_icmp .gt 65, 3) := by decide +kernel
theorem dX11_init_144 : decode cX11_init 144 = .ok (.iload_n 1, 1) := by decide +kernel
theorem dX11_init_145 : decode cX11_init 145 = .ok (.iconst 2, 1) := by decide +kernel
theorem dX11_init_146 : decode cX11_init 146 = .ok (.if_icmp .ne 8, 3) := by decide +kernel
theorem dX11_init_149 : decode cX11_init 149 = .ok (.iload_n 2, 1) := by decide +kernel
theorem dX11_init_150 : decode cX11_init 150 = .ok (.iload_n 3, 1) := by decide +kernel
theorem dX11_init_151 : decode cX11_init 151 = .ok (.if_icmp .ne 7, 3) := by decide +kernel
theorem dX11_init_154 : decode cX11_init 154 = .ok (.iconst 1, 1) := by decide +kernel
theorem dX11_init_155 : decode cX11_init 155 = .ok (.goto 4, 3) := by decide +kernel
theorem dX11_init_158 : decode cX11_init 158 = .ok (.iconst 0, 1) := by decide +kernel
theorem dX11_init_159 : decode cX11_init 159 = .ok (.istore 4, 2) := by decide +kernel
theorem dX11_init_161 : decode cX11_init 161 = .ok (.iload_n 1, 1) := by decide +kernel
theorem dX11_init_162 : decode cX11_init 162 = .ok (.iconst 4, 1) := by decide +kernel
theorem dX11_init_163 : decode cX11_init 163 = .ok (.if_icmp .ne 19, 3) := by decide +kernel
theorem dX11_init_166 : decode cX11_init 166 = .ok (.aload_n 0, 1) := by decide +kernel
theorem dX11_init_167 : decode cX11_init 167 = .ok (.getfield 13, 3) := by decide +kernel
theorem dX11_init_170 : decode cX11_init 170 = .ok (.iload_n 2, 1) := by decide +kernel
theorem dX11_init_171 : decode cX11_init 171 = .ok (.iload_n 3, 1) := by decide +kernel
theorem dX11_init_172 : decode cX11_init 172 = .ok (.iadd, 1) := by decide +kernel
theorem dX11_init_173 : decode cX11_init 173 = .ok (.dup2, 1) := by decide +kernel
theorem dX11_init_174 : decode cX11_init 174 = .ok (.iaload, 1) := by decide +kernel
theorem dX11_init_175 : decode cX11_init 175 = .ok (.iload 4, 2) := by decide +kernel
theorem dX11_init_177 : decode cX11_init 177 = .ok (.iadd, 1) := by decide +kernel
theorem dX11_init_178 : decode cX11_init 178 = .ok (.iastore, 1) := by decide +kernel
theorem dX11_init_179 : decode cX11_init 179 = .ok (.goto 21, 3) := by decide +kernel
theorem dX11_init_182 : decode cX11_init 182 = .ok (.aload_n 0, 1) := by decide +kernel
theorem dX11_init_183 : decode cX11_init 183 = .ok (.getfield 7, 3) := by decide +kernel
theorem dX11_init_186 : decode cX11_init 186 = .ok (.bipush 13, 2) := by decide +kernel
theorem dX11_init_188 : decode cX11_init 188 = .ok (.iload_n 1, 1) := by decide +kernel
theorem dX11_init_189 : decode cX11_init 189 = .ok (.imul, 1) := by decide +kernel
theorem dX11_init_190 : decode cX11_init 190 = .ok (.iload_n 2, 1) := by decide +kernel
theorem dX11_init_191 : decode cX11_init 191 = .ok (.iadd, 1) := by decide +kernel
theorem dX11_init_192 : decode cX11_init 192 = .ok (.iload_n 3, 1) := by decide +kernel
theorem dX11_init_193 : decode cX11_init 193 = .ok (.iadd, 1) := by decide +kernel
theorem dX11_init_194 : decode cX11_init 194 = .ok (.dup2, 1) := by decide +kernel
theorem dX11_init_195 : decode cX11_init 195 = .ok (.iaload, 1) := by decide +kernel
theorem dX11_init_196 : decode cX11_init 196 = .ok (.iload 4, 2) := by decide +kernel
theorem dX11_init_198 : decode cX11_init 198 = .ok (.iadd, 1) := by decide +kernel
theorem dX11_init_199 : decode cX11_init 199 = .ok (.iastore, 1) := by decide +kernel
theorem dX11_init_200 : decode cX11_init 200 = .ok (.iinc 3 1, 3) := by decide +kernel
theorem dX11_init_203 : decode cX11_init 203 = .ok (.goto (-67), 3) := by decide +kernel
theorem dX11_init_206 : decode cX11_init 206 = .ok (.iinc 2 1, 3) := by decide +kernel
theorem dX11_init_209 : decode cX11_init 209 = .ok (.goto (-86), 3) := by decide +kernel
theorem dX11_init_212 : decode cX11_init 212 = .ok (.iinc 1 1, 3) := by decide +kernel
theorem dX11_init_215 : decode cX11_init 215 = .ok (.goto (-102), 3) := by decide +kernel
theorem dX11_init_218 : decode cX11_init 218 = .ok (.return_, 1) := by decide +kernel
theorem dX11_leastOf_0 : decode cX11_leastOf 0 = .ok (.iload_n 0, 1) := by decide +kernel
theorem dX11_leastOf_1 : decode cX11_leastOf 1 = .ok (.iconst 1, 1) := by decide +kernel
theorem dX11_leastOf_2 : decode cX11_leastOf 2 = .ok (.if_icmp .ne 7, 3) := by decide +kernel
theorem dX11_leastOf_5 : decode cX11_leastOf 5 = .ok (.iconst 2, 1) := by decide +kernel
theorem dX11_leastOf_6 : decode cX11_leastOf 6 = .ok (.goto 13, 3) := by decide +kernel
theorem dX11_leastOf_9 : decode cX11_leastOf 9 = .ok (.iload_n 0, 1) := by decide +kernel
theorem dX11_leastOf_10 : decode cX11_leastOf 10 = .ok (.iconst 4, 1) := by decide +kernel
theorem dX11_leastOf_11 : decode cX11_leastOf 11 = .ok (.if_icmp .ne 7, 3) := by decide +kernel
theorem dX11_leastOf_14 : decode cX11_leastOf 14 = .ok (.iconst 4, 1) := by decide +kernel
theorem dX11_leastOf_15 : decode cX11_leastOf 15 = .ok (.goto 4, 3) := by decide +kernel
theorem dX11_leastOf_18 : decode cX11_leastOf 18 = .ok (.iconst 1, 1) := by decide +kernel
theorem dX11_leastOf_19 : decode cX11_leastOf 19 = .ok (.ireturn, 1) := by decide +kernel
theorem dX11_mostOf_0 : decode cX11_mostOf 0 = .ok (.iload_n 0, 1) := by decide +kernel
theorem dX11_mostOf_1 : decode cX11_mostOf 1 = .ok (.iconst 3, 1) := by decide +kernel
theorem dX11_mostOf_2 : decode cX11_mostOf 2 = .ok (.if_icmp .ne 7, 3) := by decide +kernel
theorem dX11_mostOf_5 : decode cX11_mostOf 5 = .ok (.iconst 3, 1) := by decide +kernel
theorem dX11_mostOf_6 : decode cX11_mostOf 6 = .ok (.goto 5, 3) := by decide +kernel
theorem dX11_mostOf_9 : decode cX11_mostOf 9 = .ok (.bipush 6, 2) := by decide +kernel
theorem dX11_mostOf_11 : decode cX11_mostOf 11 = .ok (.ireturn, 1) := by decide +kernel
theorem dX11_waysOf_0 : decode cX11_waysOf 0 = .ok (.iload_n 1, 1) := by decide +kernel
theorem dX11_waysOf_1 : decode cX11_waysOf 1 = .ok (.iconst 4, 1) := by decide +kernel
theorem dX11_waysOf_2 : decode cX11_waysOf 2 = .ok (.if_icmp .ne 12, 3) := by decide +kernel
theorem dX11_waysOf_5 : decode cX11_waysOf 5 = .ok (.aload_n 0, 1) := by decide +kernel
theorem dX11_waysOf_6 : decode cX11_waysOf 6 = .ok (.getfield 13, 3) := by decide +kernel
theorem dX11_waysOf_9 : decode cX11_waysOf 9 = .ok (.iload_n 2, 1) := by decide +kernel
theorem dX11_waysOf_10 : decode cX11_waysOf 10 = .ok (.iaload, 1) := by decide +kernel
theorem dX11_waysOf_11 : decode cX11_waysOf 11 = .ok (.goto 14, 3) := by decide +kernel
theorem dX11_waysOf_14 : decode cX11_waysOf 14 = .ok (.aload_n 0, 1) := by decide +kernel
theorem dX11_waysOf_15 : decode cX11_waysOf 15 = .ok (.getfield 7, 3) := by decide +kernel
theorem dX11_waysOf_18 : decode cX11_waysOf 18 = .ok (.bipush 13, 2) := by decide +kernel
theorem dX11_waysOf_20 : decode cX11_waysOf 20 = .ok (.iload_n 1, 1) := by decide +kernel
theorem dX11_waysOf_21 : decode cX11_waysOf 21 = .ok (.imul, 1) := by decide +kernel
theorem dX11_waysOf_22 : decode cX11_waysOf 22 = .ok (.iload_n 2, 1) := by decide +kernel
theorem dX11_waysOf_23 : decode cX11_waysOf 23 = .ok (.iadd, 1) := by decide +kernel
theorem dX11_waysOf_24 : decode cX11_waysOf 24 = .ok (.iaload, 1) := by decide +kernel
theorem dX11_waysOf_25 : decode cX11_waysOf 25 = .ok (.ireturn, 1) := by decide +kernel
set_option maxRecDepth 20000 in
theorem ggX11_allWays_X11_waysOf : GoodIn wsX11_allWays wsX11_waysOf := goodIn_r _ [5, 6, 7, 8, 9, 10, 11, 12, 13, 14, 15, 16, 17, 18, 19, 20, 21, 22, 23, 24, 25, 26, 27, 28, 29, 30, 31, 32, 33, 34, 35] (by decide +kernel) (by decide +kernel)
set_option maxRecDepth 20000 in
theorem gX11_allWays_X11_waysOf : GoodIn wsX11_allWays (wsV RX11 61 RX11 yX11_waysOf wsX11_waysOf) := goodIn_app (goodIn_of _ (by decide +kernel)) ggX11_allWays_X11_waysOf
theorem dX11_allWays_0 : decode cX11_allWays 0 = .ok (.iconst 0, 1) := by decide +kernel
theorem dX11_allWays_1 : decode cX11_allWays 1 = .ok (.istore_n 2, 1) := by decide +kernel
theorem dX11_allWays_2 : decode cX11_allWays 2 = .ok (.iconst 2, 1) := by decide +kernel
theorem dX11_allWays_3 : decode cX11_allWays 3 = .ok (.istore_n 3, 1) := by decide +kernel
theorem dX11_allWays_4 : decode cX11_allWays 4 = .ok (.iload_n 3, 1) := by decide +kernel
theorem dX11_allWays_5 : decode cX11_allWays 5 = .ok (.bipush 13, 2) := by decide +kernel
theorem dX11_allWays_7 : decode cX11_allWays 7 = .ok (.if_icmp .ge 18, 3) := by decide +kernel
theorem dX11_allWays_10 : decode cX11_allWays 10 = .ok (.iload_n 2, 1) := by decide +kernel
theorem dX11_allWays_11 : decode cX11_allWays 11 = .ok (.aload_n 0, 1) := by decide +kernel
theorem dX11_allWays_12 : decode cX11_allWays 12 = .ok (.iload_n 1, 1) := by decide +kernel
theorem dX11_allWays_13 : decode cX11_allWays 13 = .ok (.iload_n 3, 1) := by decide +kernel
theorem dX11_allWays_14 : decode cX11_allWays 14 = .ok (.invokevirtual 61, 3) := by decide +kernel
theorem dX11_allWays_17 : decode cX11_allWays 17 = .ok (.iadd, 1) := by decide +kernel
theorem dX11_allWays_18 : decode cX11_allWays 18 = .ok (.istore_n 2, 1) := by decide +kernel
theorem dX11_allWays_19 : decode cX11_allWays 19 = .ok (.iinc 3 1, 3) := by decide +kernel
theorem dX11_allWays_22 : decode cX11_allWays 22 = .ok (.goto (-18), 3) := by decide +kernel
theorem dX11_allWays_25 : decode cX11_allWays 25 = .ok (.iload_n 2, 1) := by decide +kernel
theorem dX11_allWays_26 : decode cX11_allWays 26 = .ok (.ireturn, 1) := by decide +kernel
theorem dX11_in_0 : decode cX11_in 0 = .ok (.lload_n 0, 1) := by decide +kernel
theorem dX11_in_1 : decode cX11_in 1 = .ok (.lload_n 2, 1) := by decide +kernel
theorem dX11_in_2 : decode cX11_in 2 = .ok (.lcmp, 1) := by decide +kernel
theorem dX11_in_3 : decode cX11_in 3 = .ok (.ifCond .lt 14, 3) := by decide +kernel
theorem dX11_in_6 : decode cX11_in 6 = .ok (.lload_n 0, 1) := by decide +kernel
theorem dX11_in_7 : decode cX11_in 7 = .ok (.lload 4, 2) := by decide +kernel
theorem dX11_in_9 : decode cX11_in 9 = .ok (.lcmp, 1) := by decide +kernel
theorem dX11_in_10 : decode cX11_in 10 = .ok (.ifCond .gt 7, 3) := by decide +kernel
theorem dX11_in_13 : decode cX11_in 13 = .ok (.iconst 1, 1) := by decide +kernel
theorem dX11_in_14 : decode cX11_in 14 = .ok (.goto 4, 3) := by decide +kernel
theorem dX11_in_17 : decode cX11_in 17 = .ok (.iconst 0, 1) := by decide +kernel
theorem dX11_in_18 : decode cX11_in 18 = .ok (.ireturn, 1) := by decide +kernel
theorem dX11_copy_0 : decode cX11_copy 0 = .ok (.iconst 0, 1) := by decide +kernel
theorem dX11_copy_1 : decode cX11_copy 1 = .ok (.istore_n 2, 1) := by decide +kernel
theorem dX11_copy_2 : decode cX11_copy 2 = .ok (.iload_n 2, 1) := by decide +kernel
theorem dX11_copy_3 : decode cX11_copy 3 = .ok (.aload_n 0, 1) := by decide +kernel
theorem dX11_copy_4 : decode cX11_copy 4 = .ok (.arraylength, 1) := by decide +kernel
theorem dX11_copy_5 : decode cX11_copy 5 = .ok (.if_icmp .ge 15, 3) := by decide +kernel
theorem dX11_copy_8 : decode cX11_copy 8 = .ok (.aload_n 1, 1) := by decide +kernel
theorem dX11_copy_9 : decode cX11_copy 9 = .ok (.iload_n 2, 1) := by decide +kernel
theorem dX11_copy_10 : decode cX11_copy 10 = .ok (.aload_n 0, 1) := by decide +kernel
theorem dX11_copy_11 : decode cX11_copy 11 = .ok (.iload_n 2, 1) := by decide +kernel
theorem dX11_copy_12 : decode cX11_copy 12 = .ok (.iaload, 1) := by decide +kernel
theorem dX11_copy_13 : decode cX11_copy 13 = .ok (.iastore, 1) := by decide +kernel
theorem dX11_copy_14 : decode cX11_copy 14 = .ok (.iinc 2 1, 3) := by decide +kernel
theorem dX11_copy_17 : decode cX11_copy 17 = .ok (.goto (-15), 3) := by decide +kernel
theorem dX11_copy_20 : decode cX11_copy 20 = .ok (.return_, 1) := by decide +kernel
theorem dX11_common_0 : decode cX11_common 0 = .ok (.lload_n 0, 1) := by decide +kernel
theorem dX11_common_1 : decode cX11_common 1 = .ok (.lstore 4, 2) := by decide +kernel
theorem dX11_common_3 : decode cX11_common 3 = .ok (.lload_n 2, 1) := by decide +kernel
theorem dX11_common_4 : decode cX11_common 4 = .ok (.lstore 6, 2) := by decide +kernel
theorem dX11_common_6 : decode cX11_common 6 = .ok (.lload 6, 2) := by decide +kernel
theorem dX11_common_8 : decode cX11_common 8 = .ok (.lconst 0, 1) := by decide +kernel
theorem dX11_common_9 : decode cX11_common 9 = .ok (.lcmp, 1) := by decide +kernel
theorem dX11_common_10 : decode cX11_common 10 = .ok (.ifCond .le 21, 3) := by decide +kernel
theorem dX11_common_13 : decode cX11_common 13 = .ok (.lload 4, 2) := by decide +kernel
theorem dX11_common_15 : decode cX11_common 15 = .ok (.lload 6, 2) := by decide +kernel
theorem dX11_common_17 : decode cX11_common 17 = .ok (.lrem, 1) := by decide +kernel
theorem dX11_common_18 : decode cX11_common 18 = .ok (.lstore 8, 2) := by decide +kernel
theorem dX11_common_20 : decode cX11_common 20 = .ok (.lload 6, 2) := by decide +kernel
theorem dX11_common_22 : decode cX11_common 22 = .ok (.lstore 4, 2) := by decide +kernel
theorem dX11_common_24 : decode cX11_common 24 = .ok (.lload 8, 2) := by decide +kernel
theorem dX11_common_26 : decode cX11_common 26 = .ok (.lstore 6, 2) := by decide +kernel
theorem dX11_common_28 : decode cX11_common 28 = .ok (.goto (-22), 3) := by decide +kernel
theorem dX11_common_31 : decode cX11_common 31 = .ok (.lload 4, 2) := by decide +kernel
theorem dX11_common_33 : decode cX11_common 33 = .ok (.lreturn, 1) := by decide +kernel
set_option maxRecDepth 20000 in
theorem ggX11_letter_X11_in : GoodIn wsX11_letter wsX11_in := goodIn_r _ [7] (by decide +kernel) (by decide +kernel)
set_option maxRecDepth 20000 in
theorem gX11_letter_X11_in : GoodIn wsX11_letter (va_wsS RX11 67 yX11_in wsX11_in) := goodIn_app (goodIn_of _ (by decide +kernel)) ggX11_letter_X11_in
theorem dX11_letter_0 : decode cX11_letter 0 = .ok (.iload_n 1, 1) := by decide +kernel
theorem dX11_letter_1 : decode cX11_letter 1 = .ok (.i2l, 1) := by decide +kernel
theorem dX11_letter_2 : decode cX11_letter 2 = .ok (.lconst 1, 1) := by decide +kernel
theorem dX11_letter_3 : decode cX11_letter 3 = .ok (.ldc2_w 65, 3) := by decide +kernel
theorem dX11_letter_6 : decode cX11_letter 6 = .ok (.invokestatic 67, 3) := by decide +kernel
theorem dX11_letter_9 : decode cX11_letter 9 = .ok (.ifCond .ne 6, 3) := by decide +kernel
theorem dX11_letter_12 : decode cX11_letter 12 = .ok (.bipush (-102), 2) := by decide +kernel
theorem dX11_letter_14 : decode cX11_letter 14 = .ok (.ireturn, 1) := by decide +kernel
theorem dX11_letter_15 : decode cX11_letter 15 = .ok (.aload_n 0, 1) := by decide +kernel
theorem dX11_letter_16 : decode cX11_letter 16 = .ok (.getfield 71, 3) := by decide +kernel
theorem dX11_letter_19 : decode cX11_letter 19 = .ok (.bipush 22, 2) := by decide +kernel
theorem dX11_letter_21 : decode cX11_letter 21 = .ok (.if_icmp .ne 6, 3) := by decide +kernel
theorem dX11_letter_24 : decode cX11_letter 24 = .ok (.bipush (-104), 2) := by decide +kernel
theorem dX11_letter_26 : decode cX11_letter 26 = .ok (.ireturn, 1) := by decide +kernel
theorem dX11_letter_27 : decode cX11_letter 27 = .ok (.aload_n 0, 1) := by decide +kernel
theorem dX11_letter_28 : decode cX11_letter 28 = .ok (.getfield 16, 3) := by decide +kernel
theorem dX11_letter_31 : decode cX11_letter 31 = .ok (.aload_n 0, 1) := by decide +kernel
theorem dX11_letter_32 : decode cX11_letter 32 = .ok (.getfield 71, 3) := by decide +kernel
theorem dX11_letter_35 : decode cX11_letter 35 = .ok (.iload_n 1, 1) := by decide +kernel
theorem dX11_letter_36 : decode cX11_letter 36 = .ok (.iastore, 1) := by decide +kernel
theorem dX11_letter_37 : decode cX11_letter 37 = .ok (.aload_n 0, 1) := by decide +kernel
theorem dX11_letter_38 : decode cX11_letter 38 = .ok (.dup, 1) := by decide +kernel
theorem dX11_letter_39 : decode cX11_letter 39 = .ok (.getfield 71, 3) := by decide +kernel
theorem dX11_letter_42 : decode cX11_letter 42 = .ok (.iconst 1, 1) := by decide +kernel
theorem dX11_letter_43 : decode cX11_letter 43 = .ok (.iadd, 1) := by decide +kernel
theorem dX11_letter_44 : decode cX11_letter 44 = .ok (.putfield 71, 3) := by decide +kernel
theorem dX11_letter_47 : decode cX11_letter 47 = .ok (.aload_n 0, 1) := by decide +kernel
theorem dX11_letter_48 : decode cX11_letter 48 = .ok (.getfield 71, 3) := by decide +kernel
theorem dX11_letter_51 : decode cX11_letter 51 = .ok (.ireturn, 1) := by decide +kernel
theorem dX11_blank_0 : decode cX11_blank 0 = .ok (.aload_n 0, 1) := by decide +kernel
theorem dX11_blank_1 : decode cX11_blank 1 = .ok (.getfield 71, 3) := by decide +kernel
theorem dX11_blank_4 : decode cX11_blank 4 = .ok (.istore_n 1, 1) := by decide +kernel
theorem dX11_blank_5 : decode cX11_blank 5 = .ok (.aload_n 0, 1) := by decide +kernel
theorem dX11_blank_6 : decode cX11_blank 6 = .ok (.iconst 0, 1) := by decide +kernel
theorem dX11_blank_7 : decode cX11_blank 7 = .ok (.putfield 71, 3) := by decide +kernel
theorem dX11_blank_10 : decode cX11_blank 10 = .ok (.iload_n 1, 1) := by decide +kernel
theorem dX11_blank_11 : decode cX11_blank 11 = .ok (.ireturn, 1) := by decide +kernel
theorem dX11_sortBy_0 : decode cX11_sortBy 0 = .ok (.iload_n 0, 1) := by decide +kernel
theorem dX11_sortBy_1 : decode cX11_sortBy 1 = .ok (.bipush 106, 2) := by decide +kernel
theorem dX11_sortBy_3 : decode cX11_sortBy 3 = .ok (.if_icmp .ne 7, 3) := by decide +kernel
theorem dX11_sortBy_6 : decode cX11_sortBy 6 = .ok (.iconst 0, 1) := by decide +kernel
theorem dX11_sortBy_7 : decode cX11_sortBy 7 = .ok (.goto 24, 3) := by decide +kernel
theorem dX11_sortBy_10 : decode cX11_sortBy 10 = .ok (.iload_n 0, 1) := by decide +kernel
theorem dX11_sortBy_11 : decode cX11_sortBy 11 = .ok (.bipush 98, 2) := by decide +kernel
theorem dX11_sortBy_13 : decode cX11_sortBy 13 = .ok (.if_icmp .ne 7, 3) := by decide +kernel
theorem dX11_sortBy_16 : decode cX11_sortBy 16 = .ok (.iconst 1, 1) := by decide +kernel
theorem dX11_sortBy_17 : decode cX11_sortBy 17 = .ok (.goto 14, 3) := by decide +kernel
theorem dX11_sortBy_20 : decode cX11_sortBy 20 = .ok (.iload_n 0, 1) := by decide +kernel
theorem dX11_sortBy_21 : decode cX11_sortBy 21 = .ok (.bipush 115, 2) := by decide +kernel
theorem dX11_sortBy_23 : decode cX11_sortBy 23 = .ok (.if_icmp .ne 7, 3) := by decide +kernel
theorem dX11_sortBy_26 : decode cX11_sortBy 26 = .ok (.iconst 2, 1) := by decide +kernel
theorem dX11_sortBy_27 : decode cX11_sortBy 27 = .ok (.goto 4, 3) := by decide +kernel
theorem dX11_sortBy_30 : decode cX11_sortBy 30 = .ok (.iconst (-1), 1) := by decide +kernel
theorem dX11_sortBy_31 : decode cX11_sortBy 31 = .ok (.ireturn, 1) := by decide +kernel
theorem dX11_kindBy_0 : decode cX11_kindBy 0 = .ok (.iload_n 0, 1) := by decide +kernel
theorem dX11_kindBy_1 : decode cX11_kindBy 1 = .ok (.bipush 100, 2) := by decide +kernel
theorem dX11_kindBy_3 : decode cX11_kindBy 3 = .ok (.if_icmp .ne 7, 3) := by decide +kernel
theorem dX11_kindBy_6 : decode cX11_kindBy 6 = .ok (.iconst 0, 1) := by decide +kernel
theorem dX11_kindBy_7 : decode cX11_kindBy 7 = .ok (.goto 44, 3) := by decide +kernel
theorem dX11_kindBy_10 : decode cX11_kindBy 10 = .ok (.iload_n 0, 1) := by decide +kernel
theorem dX11_kindBy_11 : decode cX11_kindBy 11 = .ok (.bipush 104, 2) := by decide +kernel
theorem dX11_kindBy_13 : decode cX11_kindBy 13 = .ok (.if_icmp .ne 7, 3) := by decide +kernel
theorem dX11_kindBy_16 : decode cX11_kindBy 16 = .ok (.iconst 1, 1) := by decide +kernel
theorem dX11_kindBy_17 : decode cX11_kindBy 17 = .ok (.goto 34, 3) := by decide +kernel
theorem dX11_kindBy_20 : decode cX11_kindBy 20 = .ok (.iload_n 0, 1) := by decide +kernel
theorem dX11_kindBy_21 : decode cX11_kindBy 21 = .ok (.bipush 116, 2) := by decide +kernel
theorem dX11_kindBy_23 : decode cX11_kindBy 23 = .ok (.if_icmp .ne 7, 3) := by decide +kernel
theorem dX11_kindBy_26 : decode cX11_kindBy 26 = .ok (.iconst 2, 1) := by decide +kernel
theorem dX11_kindBy_27 : decode cX11_kindBy 27 = .ok (.goto 24, 3) := by decide +kernel
theorem dX11_kindBy_30 : decode cX11_kindBy 30 = .ok (.iload_n 0, 1) := by decide +kernel
theorem dX11_kindBy_31 : decode cX11_kindBy 31 = .ok (.bipush 108, 2) := by decide +kernel
theorem dX11_kindBy_33 : decode cX11_kindBy 33 = .ok (.if_icmp .ne 7, 3) := by decide +kernel
theorem dX11_kindBy_36 : decode cX11_kindBy 36 = .ok (.iconst 3, 1) := by decide +kernel
theorem dX11_kindBy_37 : decode cX11_kindBy 37 = .ok (.goto 14, 3) := by decide +kernel
theorem dX11_kindBy_40 : decode cX11_kindBy 40 = .ok (.iload_n 0, 1) := by decide +kernel
theorem dX11_kindBy_41 : decode cX11_kindBy 41 = .ok (.bipush 98, 2) := by decide +kernel
theorem dX11_kindBy_43 : decode cX11_kindBy 43 = .ok (.if_icmp .ne 7, 3) := by decide +kernel
theorem dX11_kindBy_46 : decode cX11_kindBy 46 = .ok (.iconst 4, 1) := by decide +kernel
theorem dX11_kindBy_47 : decode cX11_kindBy 47 = .ok (.goto 4, 3) := by decide +kernel
theorem dX11_kindBy_50 : decode cX11_kindBy 50 = .ok (.iconst (-1), 1) := by decide +kernel
theorem dX11_kindBy_51 : decode cX11_kindBy 51 = .ok (.ireturn, 1) := by decide +kernel
set_option maxRecDepth 20000 in
theorem ggX11_go_X11_sortBy : GoodIn wsX11_go wsX11_sortBy := goodIn_r _ [11] (by decide +kernel) (by decide +kernel)
set_option maxRecDepth 20000 in
theorem gX11_go_X11_sortBy : GoodIn wsX11_go (va_wsS RX11 84 yX11_sortBy wsX11_sortBy) := goodIn_app (goodIn_of _ (by decide +kernel)) ggX11_go_X11_sortBy
set_option maxRecDepth 20000 in
theorem ggX11_go_X11_in : GoodIn wsX11_go wsX11_in := goodIn_r _ [14] (by decide +kernel) (by decide +kernel)
set_option maxRecDepth 20000 in
theorem gX11_go_X11_in : GoodIn wsX11_go (va_wsS RX11 67 yX11_in wsX11_in) := goodIn_app (goodIn_of _ (by decide +kernel)) ggX11_go_X11_in
set_option maxRecDepth 20000 in
theorem ggX11_go_X11_kindBy : GoodIn wsX11_go wsX11_kindBy := goodIn_r _ [17] (by decide +kernel) (by decide +kernel)
set_option maxRecDepth 20000 in
theorem gX11_go_X11_kindBy : GoodIn wsX11_go (va_wsS RX11 91 yX11_kindBy wsX11_kindBy) := goodIn_app (goodIn_of _ (by decide +kernel)) ggX11_go_X11_kindBy
theorem dX11_go_0 : decode cX11_go 0 = .ok (.aload_n 0, 1) := by decide +kernel
theorem dX11_go_1 : decode cX11_go 1 = .ok (.getfield 74, 3) := by decide +kernel
theorem dX11_go_4 : decode cX11_go 4 = .ok (.istore_n 2, 1) := by decide +kernel
theorem dX11_go_5 : decode cX11_go 5 = .ok (.aload_n 0, 1) := by decide +kernel
theorem dX11_go_6 : decode cX11_go 6 = .ok (.dup, 1) := by decide +kernel
theorem dX11_go_7 : decode cX11_go 7 = .ok (.getfield 74, 3) := by decide +kernel
theorem dX11_go_10 : decode cX11_go 10 = .ok (.iconst 1, 1) := by decide +kernel
theorem dX11_go_11 : decode cX11_go 11 = .ok (.iadd, 1) := by decide +kernel
theorem dX11_go_12 : decode cX11_go 12 = .ok (.putfield 74, 3) := by decide +kernel
theorem dX11_go_15 : decode cX11_go 15 = .ok (.iload_n 2, 1) := by decide +kernel
theorem dX11_go_16 : decode cX11_go 16 = .ok (.tableswitch 233 0 4 #[36, 110, 149, 207, 207], 36) := by decide +kernel
theorem dX11_go_52 : decode cX11_go 52 = .ok (.aload_n 0, 1) := by decide +kernel
theorem dX11_go_53 : decode cX11_go 53 = .ok (.getfield 77, 3) := by decide +kernel
theorem dX11_go_56 : decode cX11_go 56 = .ok (.ifCond .eq 13, 3) := by decide +kernel
theorem dX11_go_59 : decode cX11_go 59 = .ok (.iload_n 1, 1) := by decide +kernel
theorem dX11_go_60 : decode cX11_go 60 = .ok (.bipush 115, 2) := by decide +kernel
theorem dX11_go_62 : decode cX11_go 62 = .ok (.if_icmp .ne 7, 3) := by decide +kernel
theorem dX11_go_65 : decode cX11_go 65 = .ok (.iconst 1, 1) := by decide +kernel
theorem dX11_go_66 : decode cX11_go 66 = .ok (.goto 4, 3) := by decide +kernel
theorem dX11_go_69 : decode cX11_go 69 = .ok (.iconst 0, 1) := by decide +kernel
theorem dX11_go_70 : decode cX11_go 70 = .ok (.istore_n 3, 1) := by decide +kernel
theorem dX11_go_71 : decode cX11_go 71 = .ok (.aload_n 0, 1) := by decide +kernel
theorem dX11_go_72 : decode cX11_go 72 = .ok (.getfield 19, 3) := by decide +kernel
theorem dX11_go_75 : decode cX11_go 75 = .ok (.iconst 2, 1) := by decide +kernel
theorem dX11_go_76 : decode cX11_go 76 = .ok (.aload_n 0, 1) := by decide +kernel
theorem dX11_go_77 : decode cX11_go 77 = .ok (.getfield 81, 3) := by decide +kernel
theorem dX11_go_80 : decode cX11_go 80 = .ok (.imul, 1) := by decide +kernel
theorem dX11_go_81 : decode cX11_go 81 = .ok (.iload_n 1, 1) := by decide +kernel
theorem dX11_go_82 : decode cX11_go 82 = .ok (.invokestatic 84, 3) := by decide +kernel
theorem dX11_go_85 : decode cX11_go 85 = .ok (.iastore, 1) := by decide +kernel
theorem dX11_go_86 : decode cX11_go 86 = .ok (.aload_n 0, 1) := by decide +kernel
theorem dX11_go_87 : decode cX11_go 87 = .ok (.aload_n 0, 1) := by decide +kernel
theorem dX11_go_88 : decode cX11_go 88 = .ok (.getfield 77, 3) := by decide +kernel
theorem dX11_go_91 : decode cX11_go 91 = .ok (.ifCond .ne 9, 3) := by decide +kernel
theorem dX11_go_94 : decode cX11_go 94 = .ok (.iload_n 1, 1) := by decide +kernel
theorem dX11_go_95 : decode cX11_go 95 = .ok (.bipush 115, 2) := by decide +kernel
theorem dX11_go_97 : decode cX11_go 97 = .ok (.if_icmp .ne 7, 3) := by decide +kernel
theorem dX11_go_100 : decode cX11_go 100 = .ok (.iconst 1, 1) := by decide +kernel
theorem dX11_go_101 : decode cX11_go 101 = .ok (.goto 4, 3) := by decide +kernel
theorem dX11_go_104 : decode cX11_go 104 = .ok (.iconst 0, 1) := by decide +kernel
theorem dX11_go_105 : decode cX11_go 105 = .ok (.putfield 77, 3) := by decide +kernel
theorem dX11_go_108 : decode cX11_go 108 = .ok (.iload_n 1, 1) := by decide +kernel
theorem dX11_go_109 : decode cX11_go 109 = .ok (.invokestatic 84, 3) := by decide +kernel
theorem dX11_go_112 : decode cX11_go 112 = .ok (.iconst (-1), 1) := by decide +kernel
theorem dX11_go_113 : decode cX11_go 113 = .ok (.if_icmp .eq 11, 3) := by decide +kernel
theorem dX11_go_116 : decode cX11_go 116 = .ok (.iload_n 3, 1) := by decide +kernel
theorem dX11_go_117 : decode cX11_go 117 = .ok (.ifCond .ne 7, 3) := by decide +kernel
theorem dX11_go_120 : decode cX11_go 120 = .ok (.iconst 1, 1) := by decide +kernel
theorem dX11_go_121 : decode cX11_go 121 = .ok (.goto 4, 3) := by decide +kernel
theorem dX11_go_124 : decode cX11_go 124 = .ok (.iconst 0, 1) := by decide +kernel
theorem dX11_go_125 : decode cX11_go 125 = .ok (.ireturn, 1) := by decide +kernel
theorem dX11_go_126 : decode cX11_go 126 = .ok (.aload_n 0, 1) := by decide +kernel
theorem dX11_go_127 : decode cX11_go 127 = .ok (.getfield 19, 3) := by decide +kernel
theorem dX11_go_130 : decode cX11_go 130 = .ok (.iconst 2, 1) := by decide +kernel
theorem dX11_go_131 : decode cX11_go 131 = .ok (.aload_n 0, 1) := by decide +kernel
theorem dX11_go_132 : decode cX11_go 132 = .ok (.getfield 81, 3) := by decide +kernel
theorem dX11_go_135 : decode cX11_go 135 = .ok (.imul, 1) := by decide +kernel
theorem dX11_go_136 : decode cX11_go 136 = .ok (.iconst 1, 1) := by decide +kernel
theorem dX11_go_137 : decode cX11_go 137 = .ok (.iadd, 1) := by decide +kernel
theorem dX11_go_138 : decode cX11_go 138 = .ok (.iload_n 1, 1) := by decide +kernel
theorem dX11_go_139 : decode cX11_go 139 = .ok (.bipush 48, 2) := by decide +kernel
theorem dX11_go_141 : decode cX11_go 141 = .ok (.isub, 1) := by decide +kernel
theorem dX11_go_142 : decode cX11_go 142 = .ok (.iastore, 1) := by decide +kernel
theorem dX11_go_143 : decode cX11_go 143 = .ok (.aload_n 0, 1) := by decide +kernel
theorem dX11_go_144 : decode cX11_go 144 = .ok (.dup, 1) := by decide +kernel
theorem dX11_go_145 : decode cX11_go 145 = .ok (.getfield 81, 3) := by decide +kernel
theorem dX11_go_148 : decode cX11_go 148 = .ok (.iconst 1, 1) := by decide +kernel
theorem dX11_go_149 : decode cX11_go 149 = .ok (.iadd, 1) := by decide +kernel
theorem dX11_go_150 : decode cX11_go 150 = .ok (.putfield 81, 3) := by decide +kernel
theorem dX11_go_153 : decode cX11_go 153 = .ok (.iload_n 1, 1) := by decide +kernel
theorem dX11_go_154 : decode cX11_go 154 = .ok (.i2l, 1) := by decide +kernel
theorem dX11_go_155 : decode cX11_go 155 = .ok (.ldc2_w 87, 3) := by decide +kernel
theorem dX11_go_158 : decode cX11_go 158 = .ok (.ldc2_w 89, 3) := by decide +kernel
theorem dX11_go_161 : decode cX11_go 161 = .ok (.invokestatic 67, 3) := by decide +kernel
theorem dX11_go_164 : decode cX11_go 164 = .ok (.ireturn, 1) := by decide +kernel
theorem dX11_go_165 : decode cX11_go 165 = .ok (.aload_n 0, 1) := by decide +kernel
theorem dX11_go_166 : decode cX11_go 166 = .ok (.iload_n 1, 1) := by decide +kernel
theorem dX11_go_167 : decode cX11_go 167 = .ok (.bipush 44, 2) := by decide +kernel
theorem dX11_go_169 : decode cX11_go 169 = .ok (.if_icmp .ne 7, 3) := by decide +kernel
theorem dX11_go_172 : decode cX11_go 172 = .ok (.iconst 0, 1) := by decide +kernel
theorem dX11_go_173 : decode cX11_go 173 = .ok (.goto 4, 3) := by decide +kernel
theorem dX11_go_176 : decode cX11_go 176 = .ok (.iconst 3, 1) := by decide +kernel
theorem dX11_go_177 : decode cX11_go 177 = .ok (.putfield 74, 3) := by decide +kernel
theorem dX11_go_180 : decode cX11_go 180 = .ok (.iload_n 1, 1) := by decide +kernel
theorem dX11_go_181 : decode cX11_go 181 = .ok (.bipush 44, 2) := by decide +kernel
theorem dX11_go_183 : decode cX11_go 183 = .ok (.if_icmp .ne 20, 3) := by decide +kernel
theorem dX11_go_186 : decode cX11_go 186 = .ok (.aload_n 0, 1) := by decide +kernel
theorem dX11_go_187 : decode cX11_go 187 = .ok (.getfield 81, 3) := by decide +kernel
theorem dX11_go_190 : decode cX11_go 190 = .ok (.bipush 6, 2) := by decide +kernel
theorem dX11_go_192 : decode cX11_go 192 = .ok (.if_icmp .ge 7, 3) := by decide +kernel
theorem dX11_go_195 : decode cX11_go 195 = .ok (.iconst 1, 1) := by decide +kernel
theorem dX11_go_196 : decode cX11_go 196 = .ok (.goto 26, 3) := by decide +kernel
theorem dX11_go_199 : decode cX11_go 199 = .ok (.iconst 0, 1) := by decide +kernel
theorem dX11_go_200 : decode cX11_go 200 = .ok (.goto 22, 3) := by decide +kernel
theorem dX11_go_203 : decode cX11_go 203 = .ok (.iload_n 1, 1) := by decide +kernel
theorem dX11_go_204 : decode cX11_go 204 = .ok (.bipush 59, 2) := by decide +kernel
theorem dX11_go_206 : decode cX11_go 206 = .ok (.if_icmp .ne 15, 3) := by decide +kernel
theorem dX11_go_209 : decode cX11_go 209 = .ok (.aload_n 0, 1) := by decide +kernel
theorem dX11_go_210 : decode cX11_go 210 = .ok (.getfield 81, 3) := by decide +kernel
theorem dX11_go_213 : decode cX11_go 213 = .ok (.iconst 1, 1) := by decide +kernel
theorem dX11_go_214 : decode cX11_go 214 = .ok (.if_icmp .le 7, 3) := by decide +kernel
theorem dX11_go_217 : decode cX11_go 217 = .ok (.iconst 1, 1) := by decide +kernel
theorem dX11_go_218 : decode cX11_go 218 = .ok (.goto 4, 3) := by decide +kernel
theorem dX11_go_221 : decode cX11_go 221 = .ok (.iconst 0, 1) := by decide +kernel
theorem dX11_go_222 : decode cX11_go 222 = .ok (.ireturn, 1) := by decide +kernel
theorem dX11_go_223 : decode cX11_go 223 = .ok (.aload_n 0, 1) := by decide +kernel
theorem dX11_go_224 : decode cX11_go 224 = .ok (.getfield 22, 3) := by decide +kernel
theorem dX11_go_227 : decode cX11_go 227 = .ok (.iload_n 2, 1) := by decide +kernel
theorem dX11_go_228 : decode cX11_go 228 = .ok (.iconst 3, 1) := by decide +kernel
theorem dX11_go_229 : decode cX11_go 229 = .ok (.isub, 1) := by decide +kernel
theorem dX11_go_230 : decode cX11_go 230 = .ok (.iload_n 1, 1) := by decide +kernel
theorem dX11_go_231 : decode cX11_go 231 = .ok (.invokestatic 91, 3) := by decide +kernel
theorem dX11_go_234 : decode cX11_go 234 = .ok (.iastore, 1) := by decide +kernel
theorem dX11_go_235 : decode cX11_go 235 = .ok (.iload_n 1, 1) := by decide +kernel
theorem dX11_go_236 : decode cX11_go 236 = .ok (.invokestatic 91, 3) := by decide +kernel
theorem dX11_go_239 : decode cX11_go 239 = .ok (.iconst (-1), 1) := by decide +kernel
theorem dX11_go_240 : decode cX11_go 240 = .ok (.if_icmp .eq 7, 3) := by decide +kernel
theorem dX11_go_243 : decode cX11_go 243 = .ok (.iconst 1, 1) := by decide +kernel
theorem dX11_go_244 : decode cX11_go 244 = .ok (.goto 4, 3) := by decide +kernel
theorem dX11_go_247 : decode cX11_go 247 = .ok (.iconst 0, 1) := by decide +kernel
theorem dX11_go_248 : decode cX11_go 248 = .ok (.ireturn, 1) := by decide +kernel
theorem dX11_go_249 : decode cX11_go 249 = .ok (.iconst 0, 1) := by decide +kernel
theorem dX11_go_250 : decode cX11_go 250 = .ok (.ireturn, 1) := by decide +kernel
set_option maxRecDepth 20000 in
theorem ggX11_faultOf_X11_go : GoodIn wsX11_faultOf wsX11_go := goodIn_r _ [10, 3, 2, 11, 1, 12, 13, 14, 15, 16, 9, 17, 18, 19, 20, 21, 22, 23, 24, 25, 26, 27, 28, 29, 30, 31, 32, 33, 34, 35, 36, 37, 38, 39, 40, 41, 42, 43, 44, 45, 46, 47, 48, 49, 50, 51] (by decide +kernel) (by decide +kernel)
set_option maxRecDepth 20000 in
theorem gX11_faultOf_X11_go : GoodIn wsX11_faultOf (wsV RX11 94 RX11 yX11_go wsX11_go) := goodIn_app (goodIn_of _ (by decide +kernel)) ggX11_faultOf_X11_go
theorem dX11_faultOf_0 : decode cX11_faultOf 0 = .ok (.aload_n 0, 1) := by decide +kernel
theorem dX11_faultOf_1 : decode cX11_faultOf 1 = .ok (.iconst 0, 1) := by decide +kernel
theorem dX11_faultOf_2 : decode cX11_faultOf 2 = .ok (.putfield 81, 3) := by decide +kernel
theorem dX11_faultOf_5 : decode cX11_faultOf 5 = .ok (.aload_n 0, 1) := by decide +kernel
theorem dX11_faultOf_6 : decode cX11_faultOf 6 = .ok (.iconst 0, 1) := by decide +kernel
theorem dX11_faultOf_7 : decode cX11_faultOf 7 = .ok (.putfield 77, 3) := by decide +kernel
theorem dX11_faultOf_10 : decode cX11_faultOf 10 = .ok (.aload_n 0, 1) := by decide +kernel
theorem dX11_faultOf_11 : decode cX11_faultOf 11 = .ok (.iconst 0, 1) := by decide +kernel
theorem dX11_faultOf_12 : decode cX11_faultOf 12 = .ok (.putfield 74, 3) := by decide +kernel
theorem dX11_faultOf_15 : decode cX11_faultOf 15 = .ok (.iconst 0, 1) := by decide +kernel
theorem dX11_faultOf_16 : decode cX11_faultOf 16 = .ok (.istore_n 1, 1) := by decide +kernel
theorem dX11_faultOf_17 : decode cX11_faultOf 17 = .ok (.iload_n 1, 1) := by decide +kernel
theorem dX11_faultOf_18 : decode cX11_faultOf 18 = .ok (.aload_n 0, 1) := by decide +kernel
theorem dX11_faultOf_19 : decode cX11_faultOf 19 = .ok (.getfield 71, 3) := by decide +kernel
theorem dX11_faultOf_22 : decode cX11_faultOf 22 = .ok (.if_icmp .ge 22, 3) := by decide +kernel
theorem dX11_faultOf_25 : decode cX11_faultOf 25 = .ok (.aload_n 0, 1) := by decide +kernel
theorem dX11_faultOf_26 : decode cX11_faultOf 26 = .ok (.aload_n 0, 1) := by decide +kernel
theorem dX11_faultOf_27 : decode cX11_faultOf 27 = .ok (.getfield 16, 3) := by decide +kernel
theorem dX11_faultOf_30 : decode cX11_faultOf 30 = .ok (.iload_n 1, 1) := by decide +kernel
theorem dX11_faultOf_31 : decode cX11_faultOf 31 = .ok (.iaload, 1) := by decide +kernel
theorem dX11_faultOf_32 : decode cX11_faultOf 32 = .ok (.invokevirtual 94, 3) := by decide +kernel
theorem dX11_faultOf_35 : decode cX11_faultOf 35 = .ok (.ifCond .eq 9, 3) := by decide +kernel
end
section
theorem dX11_faultOf_38 : decode cX11_faultOf 38 = .ok (.iinc 1 1, 3) := by decide +kernel
theorem dX11_faultOf_41 : decode cX11_faultOf 41 = .ok (.goto (-24), 3) := by decide +kernel
theorem dX11_faultOf_44 : decode cX11_faultOf 44 = .ok (.iload_n 1, 1) := by decide +kernel
theorem dX11_faultOf_45 : decode cX11_faultOf 45 = .ok (.ireturn, 1) := by decide +kernel
set_option maxRecDepth 20000 in
theorem ggX11_fault_X11_faultOf : GoodIn wsX11_fault wsX11_faultOf := goodIn_r _ [5, 6, 7, 8, 9, 10, 11, 12, 13, 4, 14, 15, 16, 17, 18, 19, 20, 21, 22, 23, 24, 25, 26, 27, 28, 29, 30, 31, 32, 33, 34, 35, 36, 37, 38, 39, 40, 41, 42, 43, 44, 45, 46, 47, 48, 49, 50, 51, 52, 53, 54, 55] (by decide +kernel) (by decide +kernel)
set_option maxRecDepth 20000 in
theorem gX11_fault_X11_faultOf : GoodIn wsX11_fault (wsV RX11 98 RX11 yX11_faultOf wsX11_faultOf) := goodIn_app (goodIn_of _ (by decide +kernel)) ggX11_fault_X11_faultOf
theorem dX11_fault_0 : decode cX11_fault 0 = .ok (.aload_n 0, 1) := by decide +kernel
theorem dX11_fault_1 : decode cX11_fault 1 = .ok (.invokevirtual 98, 3) := by decide +kernel
theorem dX11_fault_4 : decode cX11_fault 4 = .ok (.ireturn, 1) := by decide +kernel
set_option maxRecDepth 20000 in
theorem ggX11_hall_X11_faultOf : GoodIn wsX11_hall wsX11_faultOf := goodIn_r _ [17, 3, 18, 2, 1, 19, 20, 21, 22, 16, 23, 8, 24, 25, 5, 26, 27, 28, 29, 30, 31, 32, 33, 34, 38, 39, 40, 41, 42, 43, 44, 45, 46, 47, 48, 49, 50, 51, 52, 53, 54, 55, 56, 57, 58, 59, 60, 61, 62, 63, 64, 65] (by decide +kernel) (by decide +kernel)
set_option maxRecDepth 20000 in
theorem gX11_hall_X11_faultOf : GoodIn wsX11_hall (wsV RX11 98 RX11 yX11_faultOf wsX11_faultOf) := goodIn_app (goodIn_of _ (by decide +kernel)) ggX11_hall_X11_faultOf
set_option maxRecDepth 20000 in
theorem ggX11_hall_X11_copy : GoodIn wsX11_hall wsX11_copy := goodIn_r _ [37] (by decide +kernel) (by decide +kernel)
set_option maxRecDepth 20000 in
theorem gX11_hall_X11_copy : GoodIn wsX11_hall (va_wsS RX11 105 yX11_copy wsX11_copy) := goodIn_app (goodIn_of _ (by decide +kernel)) ggX11_hall_X11_copy
theorem dX11_hall_0 : decode cX11_hall 0 = .ok (.aload_n 0, 1) := by decide +kernel
theorem dX11_hall_1 : decode cX11_hall 1 = .ok (.invokevirtual 98, 3) := by decide +kernel
theorem dX11_hall_4 : decode cX11_hall 4 = .ok (.aload_n 0, 1) := by decide +kernel
theorem dX11_hall_5 : decode cX11_hall 5 = .ok (.getfield 71, 3) := by decide +kernel
theorem dX11_hall_8 : decode cX11_hall 8 = .ok (.if_icmp .lt 11, 3) := by decide +kernel
theorem dX11_hall_11 : decode cX11_hall 11 = .ok (.aload_n 0, 1) := by decide +kernel
theorem dX11_hall_12 : decode cX11_hall 12 = .ok (.getfield 74, 3) := by decide +kernel
theorem dX11_hall_15 : decode cX11_hall 15 = .ok (.iconst 5, 1) := by decide +kernel
theorem dX11_hall_16 : decode cX11_hall 16 = .ok (.if_icmp .eq 6, 3) := by decide +kernel
theorem dX11_hall_19 : decode cX11_hall 19 = .ok (.bipush (-103), 2) := by decide +kernel
theorem dX11_hall_21 : decode cX11_hall 21 = .ok (.ireturn, 1) := by decide +kernel
theorem dX11_hall_22 : decode cX11_hall 22 = .ok (.aload_n 0, 1) := by decide +kernel
theorem dX11_hall_23 : decode cX11_hall 23 = .ok (.aload_n 0, 1) := by decide +kernel
theorem dX11_hall_24 : decode cX11_hall 24 = .ok (.getfield 81, 3) := by decide +kernel
theorem dX11_hall_27 : decode cX11_hall 27 = .ok (.putfield 102, 3) := by decide +kernel
theorem dX11_hall_30 : decode cX11_hall 30 = .ok (.aload_n 0, 1) := by decide +kernel
theorem dX11_hall_31 : decode cX11_hall 31 = .ok (.getfield 22, 3) := by decide +kernel
theorem dX11_hall_34 : decode cX11_hall 34 = .ok (.aload_n 0, 1) := by decide +kernel
theorem dX11_hall_35 : decode cX11_hall 35 = .ok (.getfield 28, 3) := by decide +kernel
theorem dX11_hall_38 : decode cX11_hall 38 = .ok (.invokestatic 105, 3) := by decide +kernel
theorem dX11_hall_41 : decode cX11_hall 41 = .ok (.iconst 0, 1) := by decide +kernel
theorem dX11_hall_42 : decode cX11_hall 42 = .ok (.istore_n 1, 1) := by decide +kernel
theorem dX11_hall_43 : decode cX11_hall 43 = .ok (.iload_n 1, 1) := by decide +kernel
theorem dX11_hall_44 : decode cX11_hall 44 = .ok (.aload_n 0, 1) := by decide +kernel
theorem dX11_hall_45 : decode cX11_hall 45 = .ok (.getfield 102, 3) := by decide +kernel
theorem dX11_hall_48 : decode cX11_hall 48 = .ok (.if_icmp .ge 95, 3) := by decide +kernel
theorem dX11_hall_51 : decode cX11_hall 51 = .ok (.aload_n 0, 1) := by decide +kernel
theorem dX11_hall_52 : decode cX11_hall 52 = .ok (.getfield 25, 3) := by decide +kernel
theorem dX11_hall_55 : decode cX11_hall 55 = .ok (.bipush 6, 2) := by decide +kernel
theorem dX11_hall_57 : decode cX11_hall 57 = .ok (.iload_n 1, 1) := by decide +kernel
theorem dX11_hall_58 : decode cX11_hall 58 = .ok (.imul, 1) := by decide +kernel
theorem dX11_hall_59 : decode cX11_hall 59 = .ok (.aload_n 0, 1) := by decide +kernel
theorem dX11_hall_60 : decode cX11_hall 60 = .ok (.getfield 19, 3) := by decide +kernel
theorem dX11_hall_63 : decode cX11_hall 63 = .ok (.iconst 2, 1) := by decide +kernel
theorem dX11_hall_64 : decode cX11_hall 64 = .ok (.iload_n 1, 1) := by decide +kernel
theorem dX11_hall_65 : decode cX11_hall 65 = .ok (.imul, 1) := by decide +kernel
theorem dX11_hall_66 : decode cX11_hall 66 = .ok (.iaload, 1) := by decide +kernel
theorem dX11_hall_67 : decode cX11_hall 67 = .ok (.iastore, 1) := by decide +kernel
theorem dX11_hall_68 : decode cX11_hall 68 = .ok (.aload_n 0, 1) := by decide +kernel
theorem dX11_hall_69 : decode cX11_hall 69 = .ok (.getfield 25, 3) := by decide +kernel
theorem dX11_hall_72 : decode cX11_hall 72 = .ok (.bipush 6, 2) := by decide +kernel
theorem dX11_hall_74 : decode cX11_hall 74 = .ok (.iload_n 1, 1) := by decide +kernel
theorem dX11_hall_75 : decode cX11_hall 75 = .ok (.imul, 1) := by decide +kernel
theorem dX11_hall_76 : decode cX11_hall 76 = .ok (.iconst 1, 1) := by decide +kernel
theorem dX11_hall_77 : decode cX11_hall 77 = .ok (.iadd, 1) := by decide +kernel
theorem dX11_hall_78 : decode cX11_hall 78 = .ok (.aload_n 0, 1) := by decide +kernel
theorem dX11_hall_79 : decode cX11_hall 79 = .ok (.getfield 19, 3) := by decide +kernel
theorem dX11_hall_82 : decode cX11_hall 82 = .ok (.iconst 2, 1) := by decide +kernel
theorem dX11_hall_83 : decode cX11_hall 83 = .ok (.iload_n 1, 1) := by decide +kernel
theorem dX11_hall_84 : decode cX11_hall 84 = .ok (.imul, 1) := by decide +kernel
theorem dX11_hall_85 : decode cX11_hall 85 = .ok (.iconst 1, 1) := by decide +kernel
theorem dX11_hall_86 : decode cX11_hall 86 = .ok (.iadd, 1) := by decide +kernel
theorem dX11_hall_87 : decode cX11_hall 87 = .ok (.iaload, 1) := by decide +kernel
theorem dX11_hall_88 : decode cX11_hall 88 = .ok (.iastore, 1) := by decide +kernel
theorem dX11_hall_89 : decode cX11_hall 89 = .ok (.aload_n 0, 1) := by decide +kernel
theorem dX11_hall_90 : decode cX11_hall 90 = .ok (.getfield 25, 3) := by decide +kernel
theorem dX11_hall_93 : decode cX11_hall 93 = .ok (.bipush 6, 2) := by decide +kernel
theorem dX11_hall_95 : decode cX11_hall 95 = .ok (.iload_n 1, 1) := by decide +kernel
theorem dX11_hall_96 : decode cX11_hall 96 = .ok (.imul, 1) := by decide +kernel
theorem dX11_hall_97 : decode cX11_hall 97 = .ok (.iconst 2, 1) := by decide +kernel
theorem dX11_hall_98 : decode cX11_hall 98 = .ok (.iadd, 1) := by decide +kernel
theorem dX11_hall_99 : decode cX11_hall 99 = .ok (.iconst 0, 1) := by decide +kernel
theorem dX11_hall_100 : decode cX11_hall 100 = .ok (.iastore, 1) := by decide +kernel
theorem dX11_hall_101 : decode cX11_hall 101 = .ok (.aload_n 0, 1) := by decide +kernel
theorem dX11_hall_102 : decode cX11_hall 102 = .ok (.getfield 25, 3) := by decide +kernel
theorem dX11_hall_105 : decode cX11_hall 105 = .ok (.bipush 6, 2) := by decide +kernel
theorem dX11_hall_107 : decode cX11_hall 107 = .ok (.iload_n 1, 1) := by decide +kernel
theorem dX11_hall_108 : decode cX11_hall 108 = .ok (.imul, 1) := by decide +kernel
theorem dX11_hall_109 : decode cX11_hall 109 = .ok (.iconst 3, 1) := by decide +kernel
theorem dX11_hall_110 : decode cX11_hall 110 = .ok (.iadd, 1) := by decide +kernel
theorem dX11_hall_111 : decode cX11_hall 111 = .ok (.iconst (-1), 1) := by decide +kernel
theorem dX11_hall_112 : decode cX11_hall 112 = .ok (.iastore, 1) := by decide +kernel
theorem dX11_hall_113 : decode cX11_hall 113 = .ok (.aload_n 0, 1) := by decide +kernel
theorem dX11_hall_114 : decode cX11_hall 114 = .ok (.getfield 25, 3) := by decide +kernel
theorem dX11_hall_117 : decode cX11_hall 117 = .ok (.bipush 6, 2) := by decide +kernel
theorem dX11_hall_119 : decode cX11_hall 119 = .ok (.iload_n 1, 1) := by decide +kernel
theorem dX11_hall_120 : decode cX11_hall 120 = .ok (.imul, 1) := by decide +kernel
theorem dX11_hall_121 : decode cX11_hall 121 = .ok (.iconst 4, 1) := by decide +kernel
theorem dX11_hall_122 : decode cX11_hall 122 = .ok (.iadd, 1) := by decide +kernel
theorem dX11_hall_123 : decode cX11_hall 123 = .ok (.iconst (-1), 1) := by decide +kernel
theorem dX11_hall_124 : decode cX11_hall 124 = .ok (.iastore, 1) := by decide +kernel
theorem dX11_hall_125 : decode cX11_hall 125 = .ok (.aload_n 0, 1) := by decide +kernel
theorem dX11_hall_126 : decode cX11_hall 126 = .ok (.getfield 25, 3) := by decide +kernel
theorem dX11_hall_129 : decode cX11_hall 129 = .ok (.bipush 6, 2) := by decide +kernel
theorem dX11_hall_131 : decode cX11_hall 131 = .ok (.iload_n 1, 1) := by decide +kernel
theorem dX11_hall_132 : decode cX11_hall 132 = .ok (.imul, 1) := by decide +kernel
theorem dX11_hall_133 : decode cX11_hall 133 = .ok (.iconst 5, 1) := by decide +kernel
theorem dX11_hall_134 : decode cX11_hall 134 = .ok (.iadd, 1) := by decide +kernel
theorem dX11_hall_135 : decode cX11_hall 135 = .ok (.iconst 0, 1) := by decide +kernel
theorem dX11_hall_136 : decode cX11_hall 136 = .ok (.iastore, 1) := by decide +kernel
theorem dX11_hall_137 : decode cX11_hall 137 = .ok (.iinc 1 1, 3) := by decide +kernel
theorem dX11_hall_140 : decode cX11_hall 140 = .ok (.goto (-97), 3) := by decide +kernel
theorem dX11_hall_143 : decode cX11_hall 143 = .ok (.aload_n 0, 1) := by decide +kernel
theorem dX11_hall_144 : decode cX11_hall 144 = .ok (.iconst 0, 1) := by decide +kernel
theorem dX11_hall_145 : decode cX11_hall 145 = .ok (.putfield 109, 3) := by decide +kernel
theorem dX11_hall_148 : decode cX11_hall 148 = .ok (.aload_n 0, 1) := by decide +kernel
theorem dX11_hall_149 : decode cX11_hall 149 = .ok (.iconst 0, 1) := by decide +kernel
theorem dX11_hall_150 : decode cX11_hall 150 = .ok (.putfield 112, 3) := by decide +kernel
theorem dX11_hall_153 : decode cX11_hall 153 = .ok (.aload_n 0, 1) := by decide +kernel
theorem dX11_hall_154 : decode cX11_hall 154 = .ok (.iconst 0, 1) := by decide +kernel
theorem dX11_hall_155 : decode cX11_hall 155 = .ok (.putfield 115, 3) := by decide +kernel
theorem dX11_hall_158 : decode cX11_hall 158 = .ok (.aload_n 0, 1) := by decide +kernel
theorem dX11_hall_159 : decode cX11_hall 159 = .ok (.dup, 1) := by decide +kernel
theorem dX11_hall_160 : decode cX11_hall 160 = .ok (.getfield 118, 3) := by decide +kernel
theorem dX11_hall_163 : decode cX11_hall 163 = .ok (.iconst 1, 1) := by decide +kernel
theorem dX11_hall_164 : decode cX11_hall 164 = .ok (.iadd, 1) := by decide +kernel
theorem dX11_hall_165 : decode cX11_hall 165 = .ok (.putfield 118, 3) := by decide +kernel
theorem dX11_hall_168 : decode cX11_hall 168 = .ok (.aload_n 0, 1) := by decide +kernel
theorem dX11_hall_169 : decode cX11_hall 169 = .ok (.iconst 0, 1) := by decide +kernel
theorem dX11_hall_170 : decode cX11_hall 170 = .ok (.putfield 71, 3) := by decide +kernel
theorem dX11_hall_173 : decode cX11_hall 173 = .ok (.aload_n 0, 1) := by decide +kernel
theorem dX11_hall_174 : decode cX11_hall 174 = .ok (.getfield 102, 3) := by decide +kernel
theorem dX11_hall_177 : decode cX11_hall 177 = .ok (.ireturn, 1) := by decide +kernel
theorem dX11_lacks_0 : decode cX11_lacks 0 = .ok (.aload_n 0, 1) := by decide +kernel
theorem dX11_lacks_1 : decode cX11_lacks 1 = .ok (.getfield 102, 3) := by decide +kernel
theorem dX11_lacks_4 : decode cX11_lacks 4 = .ok (.ifCond .ne 7, 3) := by decide +kernel
theorem dX11_lacks_7 : decode cX11_lacks 7 = .ok (.iconst 1, 1) := by decide +kernel
theorem dX11_lacks_8 : decode cX11_lacks 8 = .ok (.goto 4, 3) := by decide +kernel
theorem dX11_lacks_11 : decode cX11_lacks 11 = .ok (.iconst 0, 1) := by decide +kernel
theorem dX11_lacks_12 : decode cX11_lacks 12 = .ok (.ireturn, 1) := by decide +kernel
set_option maxRecDepth 20000 in
theorem ggX11_isThing_X11_in : GoodIn wsX11_isThing wsX11_in := goodIn_r _ [5] (by decide +kernel) (by decide +kernel)
set_option maxRecDepth 20000 in
theorem gX11_isThing_X11_in : GoodIn wsX11_isThing (va_wsS RX11 67 yX11_in wsX11_in) := goodIn_app (goodIn_of _ (by decide +kernel)) ggX11_isThing_X11_in
theorem dX11_isThing_0 : decode cX11_isThing 0 = .ok (.iload_n 1, 1) := by decide +kernel
theorem dX11_isThing_1 : decode cX11_isThing 1 = .ok (.i2l, 1) := by decide +kernel
theorem dX11_isThing_2 : decode cX11_isThing 2 = .ok (.lconst 0, 1) := by decide +kernel
theorem dX11_isThing_3 : decode cX11_isThing 3 = .ok (.aload_n 0, 1) := by decide +kernel
theorem dX11_isThing_4 : decode cX11_isThing 4 = .ok (.getfield 102, 3) := by decide +kernel
theorem dX11_isThing_7 : decode cX11_isThing 7 = .ok (.iconst 1, 1) := by decide +kernel
theorem dX11_isThing_8 : decode cX11_isThing 8 = .ok (.isub, 1) := by decide +kernel
theorem dX11_isThing_9 : decode cX11_isThing 9 = .ok (.i2l, 1) := by decide +kernel
theorem dX11_isThing_10 : decode cX11_isThing 10 = .ok (.invokestatic 67, 3) := by decide +kernel
theorem dX11_isThing_13 : decode cX11_isThing 13 = .ok (.ireturn, 1) := by decide +kernel
set_option maxRecDepth 20000 in
theorem ggX11_isOne_X11_lacks : GoodIn wsX11_isOne wsX11_lacks := goodIn_r _ [5, 6, 10, 11, 12, 13, 14, 15, 16, 17, 18, 19, 20, 21, 22, 23, 24, 25, 26, 27, 28, 29, 30, 31, 32, 33, 34, 35, 36, 37] (by decide +kernel) (by decide +kernel)
set_option maxRecDepth 20000 in
theorem gX11_isOne_X11_lacks : GoodIn wsX11_isOne (wsV RX11 121 RX11 yX11_lacks wsX11_lacks) := goodIn_app (goodIn_of _ (by decide +kernel)) ggX11_isOne_X11_lacks
set_option maxRecDepth 20000 in
theorem ggX11_isOne_X11_in : GoodIn wsX11_isOne wsX11_in := goodIn_r _ [9] (by decide +kernel) (by decide +kernel)
set_option maxRecDepth 20000 in
theorem gX11_isOne_X11_in : GoodIn wsX11_isOne (va_wsS RX11 67 yX11_in wsX11_in) := goodIn_app (goodIn_of _ (by decide +kernel)) ggX11_isOne_X11_in
theorem dX11_isOne_0 : decode cX11_isOne 0 = .ok (.aload_n 0, 1) := by decide +kernel
theorem dX11_isOne_1 : decode cX11_isOne 1 = .ok (.invokevirtual 121, 3) := by decide +kernel
theorem dX11_isOne_4 : decode cX11_isOne 4 = .ok (.ifCond .ne 17, 3) := by decide +kernel
theorem dX11_isOne_7 : decode cX11_isOne 7 = .ok (.iload_n 1, 1) := by decide +kernel
theorem dX11_isOne_8 : decode cX11_isOne 8 = .ok (.i2l, 1) := by decide +kernel
theorem dX11_isOne_9 : decode cX11_isOne 9 = .ok (.lconst 0, 1) := by decide +kernel
theorem dX11_isOne_10 : decode cX11_isOne 10 = .ok (.lconst 1, 1) := by decide +kernel
theorem dX11_isOne_11 : decode cX11_isOne 11 = .ok (.invokestatic 67, 3) := by decide +kernel
theorem dX11_isOne_14 : decode cX11_isOne 14 = .ok (.ifCond .eq 7, 3) := by decide +kernel
theorem dX11_isOne_17 : decode cX11_isOne 17 = .ok (.iconst 1, 1) := by decide +kernel
theorem dX11_isOne_18 : decode cX11_isOne 18 = .ok (.goto 4, 3) := by decide +kernel
theorem dX11_isOne_21 : decode cX11_isOne 21 = .ok (.iconst 0, 1) := by decide +kernel
theorem dX11_isOne_22 : decode cX11_isOne 22 = .ok (.ireturn, 1) := by decide +kernel
theorem dX11_isKings_0 : decode cX11_isKings 0 = .ok (.aload_n 0, 1) := by decide +kernel
theorem dX11_isKings_1 : decode cX11_isKings 1 = .ok (.getfield 25, 3) := by decide +kernel
theorem dX11_isKings_4 : decode cX11_isKings 4 = .ok (.bipush 6, 2) := by decide +kernel
theorem dX11_isKings_6 : decode cX11_isKings 6 = .ok (.iload_n 1, 1) := by decide +kernel
theorem dX11_isKings_7 : decode cX11_isKings 7 = .ok (.imul, 1) := by decide +kernel
theorem dX11_isKings_8 : decode cX11_isKings 8 = .ok (.iconst 2, 1) := by decide +kernel
theorem dX11_isKings_9 : decode cX11_isKings 9 = .ok (.iadd, 1) := by decide +kernel
theorem dX11_isKings_10 : decode cX11_isKings 10 = .ok (.iaload, 1) := by decide +kernel
theorem dX11_isKings_11 : decode cX11_isKings 11 = .ok (.ifCond .ne 7, 3) := by decide +kernel
theorem dX11_isKings_14 : decode cX11_isKings 14 = .ok (.iconst 1, 1) := by decide +kernel
theorem dX11_isKings_15 : decode cX11_isKings 15 = .ok (.goto 4, 3) := by decide +kernel
theorem dX11_isKings_18 : decode cX11_isKings 18 = .ok (.iconst 0, 1) := by decide +kernel
theorem dX11_isKings_19 : decode cX11_isKings 19 = .ok (.ireturn, 1) := by decide +kernel
set_option maxRecDepth 20000 in
theorem ggX11_thing_X11_isThing : GoodIn wsX11_thing wsX11_isThing := goodIn_r _ [7, 8, 9, 10, 6, 11, 12, 13, 14, 15, 16, 17, 18, 19, 20, 21, 22, 23, 24, 25, 26, 27, 28, 29, 30, 31, 32, 33, 34, 35, 36, 37, 38, 39] (by decide +kernel) (by decide +kernel)
set_option maxRecDepth 20000 in
theorem gX11_thing_X11_isThing : GoodIn wsX11_thing (wsV RX11 125 RX11 yX11_isThing wsX11_isThing) := goodIn_app (goodIn_of _ (by decide +kernel)) ggX11_thing_X11_isThing
set_option maxRecDepth 20000 in
theorem ggX11_thing_X11_in : GoodIn wsX11_thing wsX11_in := goodIn_r _ [11] (by decide +kernel) (by decide +kernel)
set_option maxRecDepth 20000 in
theorem gX11_thing_X11_in : GoodIn wsX11_thing (va_wsS RX11 67 yX11_in wsX11_in) := goodIn_app (goodIn_of _ (by decide +kernel)) ggX11_thing_X11_in
theorem dX11_thing_0 : decode cX11_thing 0 = .ok (.aload_n 0, 1) := by decide +kernel
theorem dX11_thing_1 : decode cX11_thing 1 = .ok (.iload_n 1, 1) := by decide +kernel
theorem dX11_thing_2 : decode cX11_thing 2 = .ok (.invokevirtual 125, 3) := by decide +kernel
theorem dX11_thing_5 : decode cX11_thing 5 = .ok (.ifCond .ne 6, 3) := by decide +kernel
theorem dX11_thing_8 : decode cX11_thing 8 = .ok (.bipush (-101), 2) := by decide +kernel
theorem dX11_thing_10 : decode cX11_thing 10 = .ok (.ireturn, 1) := by decide +kernel
theorem dX11_thing_11 : decode cX11_thing 11 = .ok (.iload_n 2, 1) := by decide +kernel
theorem dX11_thing_12 : decode cX11_thing 12 = .ok (.i2l, 1) := by decide +kernel
theorem dX11_thing_13 : decode cX11_thing 13 = .ok (.lconst 0, 1) := by decide +kernel
theorem dX11_thing_14 : decode cX11_thing 14 = .ok (.ldc2_w 128, 3) := by decide +kernel
theorem dX11_thing_17 : decode cX11_thing 17 = .ok (.invokestatic 67, 3) := by decide +kernel
theorem dX11_thing_20 : decode cX11_thing 20 = .ok (.ifCond .eq 17, 3) := by decide +kernel
theorem dX11_thing_23 : decode cX11_thing 23 = .ok (.aload_n 0, 1) := by decide +kernel
theorem dX11_thing_24 : decode cX11_thing 24 = .ok (.getfield 25, 3) := by decide +kernel
theorem dX11_thing_27 : decode cX11_thing 27 = .ok (.bipush 6, 2) := by decide +kernel
theorem dX11_thing_29 : decode cX11_thing 29 = .ok (.iload_n 1, 1) := by decide +kernel
theorem dX11_thing_30 : decode cX11_thing 30 = .ok (.imul, 1) := by decide +kernel
theorem dX11_thing_31 : decode cX11_thing 31 = .ok (.iload_n 2, 1) := by decide +kernel
theorem dX11_thing_32 : decode cX11_thing 32 = .ok (.iadd, 1) := by decide +kernel
theorem dX11_thing_33 : decode cX11_thing 33 = .ok (.iaload, 1) := by decide +kernel
theorem dX11_thing_34 : decode cX11_thing 34 = .ok (.goto 5, 3) := by decide +kernel
theorem dX11_thing_37 : decode cX11_thing 37 = .ok (.bipush (-102), 2) := by decide +kernel
theorem dX11_thing_39 : decode cX11_thing 39 = .ok (.ireturn, 1) := by decide +kernel
set_option maxRecDepth 20000 in
theorem ggX11_tellDice_X11_leastOf : GoodIn wsX11_tellDice wsX11_leastOf := goodIn_r _ [5] (by decide +kernel) (by decide +kernel)
set_option maxRecDepth 20000 in
theorem gX11_tellDice_X11_leastOf : GoodIn wsX11_tellDice (va_wsS RX11 54 yX11_leastOf wsX11_leastOf) := goodIn_app (goodIn_of _ (by decide +kernel)) ggX11_tellDice_X11_leastOf
set_option maxRecDepth 20000 in
theorem ggX11_tellDice_X11_mostOf : GoodIn wsX11_tellDice wsX11_mostOf := goodIn_r _ [8] (by decide +kernel) (by decide +kernel)
set_option maxRecDepth 20000 in
theorem gX11_tellDice_X11_mostOf : GoodIn wsX11_tellDice (va_wsS RX11 58 yX11_mostOf wsX11_mostOf) := goodIn_app (goodIn_of _ (by decide +kernel)) ggX11_tellDice_X11_mostOf
set_option maxRecDepth 20000 in
theorem ggX11_tellDice_X11_allWays : GoodIn wsX11_tellDice wsX11_allWays := goodIn_r _ [12, 13, 14, 15, 4, 16, 17, 18, 19, 20, 21, 22, 23, 24, 25, 26, 27, 28, 29, 30, 31, 32, 33, 34, 35, 36, 37, 38, 39, 40, 41, 42, 43, 44, 45, 46] (by decide +kernel) (by decide +kernel)
set_option maxRecDepth 20000 in
theorem gX11_tellDice_X11_allWays : GoodIn wsX11_tellDice (wsV RX11 130 RX11 yX11_allWays wsX11_allWays) := goodIn_app (goodIn_of _ (by decide +kernel)) ggX11_tellDice_X11_allWays
theorem dX11_tellDice_0 : decode cX11_tellDice 0 = .ok (.aload_n 0, 1) := by decide +kernel
theorem dX11_tellDice_1 : decode cX11_tellDice 1 = .ok (.getfield 28, 3) := by decide +kernel
theorem dX11_tellDice_4 : decode cX11_tellDice 4 = .ok (.iload_n 1, 1) := by decide +kernel
theorem dX11_tellDice_5 : decode cX11_tellDice 5 = .ok (.iaload, 1) := by decide +kernel
theorem dX11_tellDice_6 : decode cX11_tellDice 6 = .ok (.istore_n 3, 1) := by decide +kernel
theorem dX11_tellDice_7 : decode cX11_tellDice 7 = .ok (.iload_n 2, 1) := by decide +kernel
theorem dX11_tellDice_8 : decode cX11_tellDice 8 = .ok (.ifCond .ne 7, 3) := by decide +kernel
theorem dX11_tellDice_11 : decode cX11_tellDice 11 = .ok (.iload_n 3, 1) := by decide +kernel
theorem dX11_tellDice_12 : decode cX11_tellDice 12 = .ok (.goto 46, 3) := by decide +kernel
theorem dX11_tellDice_15 : decode cX11_tellDice 15 = .ok (.iload_n 2, 1) := by decide +kernel
theorem dX11_tellDice_16 : decode cX11_tellDice 16 = .ok (.iconst 1, 1) := by decide +kernel
theorem dX11_tellDice_17 : decode cX11_tellDice 17 = .ok (.if_icmp .ne 12, 3) := by decide +kernel
theorem dX11_tellDice_20 : decode cX11_tellDice 20 = .ok (.iconst 2, 1) := by decide +kernel
theorem dX11_tellDice_21 : decode cX11_tellDice 21 = .ok (.iload_n 3, 1) := by decide +kernel
theorem dX11_tellDice_22 : decode cX11_tellDice 22 = .ok (.invokestatic 54, 3) := by decide +kernel
theorem dX11_tellDice_25 : decode cX11_tellDice 25 = .ok (.imul, 1) := by decide +kernel
theorem dX11_tellDice_26 : decode cX11_tellDice 26 = .ok (.goto 32, 3) := by decide +kernel
theorem dX11_tellDice_29 : decode cX11_tellDice 29 = .ok (.iload_n 2, 1) := by decide +kernel
theorem dX11_tellDice_30 : decode cX11_tellDice 30 = .ok (.iconst 2, 1) := by decide +kernel
theorem dX11_tellDice_31 : decode cX11_tellDice 31 = .ok (.if_icmp .ne 12, 3) := by decide +kernel
theorem dX11_tellDice_34 : decode cX11_tellDice 34 = .ok (.iconst 2, 1) := by decide +kernel
theorem dX11_tellDice_35 : decode cX11_tellDice 35 = .ok (.iload_n 3, 1) := by decide +kernel
theorem dX11_tellDice_36 : decode cX11_tellDice 36 = .ok (.invokestatic 58, 3) := by decide +kernel
theorem dX11_tellDice_39 : decode cX11_tellDice 39 = .ok (.imul, 1) := by decide +kernel
theorem dX11_tellDice_40 : decode cX11_tellDice 40 = .ok (.goto 18, 3) := by decide +kernel
theorem dX11_tellDice_43 : decode cX11_tellDice 43 = .ok (.iload_n 2, 1) := by decide +kernel
theorem dX11_tellDice_44 : decode cX11_tellDice 44 = .ok (.iconst 3, 1) := by decide +kernel
theorem dX11_tellDice_45 : decode cX11_tellDice 45 = .ok (.if_icmp .ne 11, 3) := by decide +kernel
theorem dX11_tellDice_48 : decode cX11_tellDice 48 = .ok (.aload_n 0, 1) := by decide +kernel
theorem dX11_tellDice_49 : decode cX11_tellDice 49 = .ok (.iload_n 3, 1) := by decide +kernel
theorem dX11_tellDice_50 : decode cX11_tellDice 50 = .ok (.invokevirtual 130, 3) := by decide +kernel
theorem dX11_tellDice_53 : decode cX11_tellDice 53 = .ok (.goto 5, 3) := by decide +kernel
theorem dX11_tellDice_56 : decode cX11_tellDice 56 = .ok (.bipush (-102), 2) := by decide +kernel
theorem dX11_tellDice_58 : decode cX11_tellDice 58 = .ok (.ireturn, 1) := by decide +kernel
set_option maxRecDepth 20000 in
theorem ggX11_dice_X11_isOne : GoodIn wsX11_dice wsX11_isOne := goodIn_r _ [5, 6, 7, 8, 4, 9, 10, 11, 12, 13, 35, 36, 37, 38, 39, 40, 41, 42, 43, 44, 45, 46, 47, 48, 49, 50, 51, 52, 53, 54, 55, 56, 57, 58, 59, 60, 61, 62] (by decide +kernel) (by decide +kernel)
set_option maxRecDepth 20000 in
theorem gX11_dice_X11_isOne : GoodIn wsX11_dice (wsV RX11 133 RX11 yX11_isOne wsX11_isOne) := goodIn_app (goodIn_of _ (by decide +kernel)) ggX11_dice_X11_isOne
set_option maxRecDepth 20000 in
theorem ggX11_dice_X11_tellDice : GoodIn wsX11_dice wsX11_tellDice := goodIn_r _ [17, 18, 19, 20, 4, 21, 22, 23, 24, 25, 26, 27, 28, 29, 30, 31, 32, 33, 34, 35, 36, 37, 38, 39, 40, 41, 42, 43, 44, 45, 46, 47, 48, 49, 50, 51, 52, 53, 54, 55, 56, 57, 58, 59, 60, 61, 62] (by decide +kernel) (by decide +kernel)
set_option maxRecDepth 20000 in
theorem gX11_dice_X11_tellDice : GoodIn wsX11_dice (wsV RX11 136 RX11 yX11_tellDice wsX11_tellDice) := goodIn_app (goodIn_of _ (by decide +kernel)) ggX11_dice_X11_tellDice
theorem dX11_dice_0 : decode cX11_dice 0 = .ok (.aload_n 0, 1) := by decide +kernel
theorem dX11_dice_1 : decode cX11_dice 1 = .ok (.iload_n 1, 1) := by decide +kernel
theorem dX11_dice_2 : decode cX11_dice 2 = .ok (.invokevirtual 133, 3) := by decide +kernel
theorem dX11_dice_5 : decode cX11_dice 5 = .ok (.ifCond .eq 12, 3) := by decide +kernel
theorem dX11_dice_8 : decode cX11_dice 8 = .ok (.aload_n 0, 1) := by decide +kernel
theorem dX11_dice_9 : decode cX11_dice 9 = .ok (.iload_n 1, 1) := by decide +kernel
theorem dX11_dice_10 : decode cX11_dice 10 = .ok (.iload_n 2, 1) := by decide +kernel
theorem dX11_dice_11 : decode cX11_dice 11 = .ok (.invokevirtual 136, 3) := by decide +kernel
theorem dX11_dice_14 : decode cX11_dice 14 = .ok (.goto 5, 3) := by decide +kernel
theorem dX11_dice_17 : decode cX11_dice 17 = .ok (.bipush (-101), 2) := by decide +kernel
theorem dX11_dice_19 : decode cX11_dice 19 = .ok (.ireturn, 1) := by decide +kernel
set_option maxRecDepth 20000 in
theorem ggX11_as_X11_isOne : GoodIn wsX11_as wsX11_isOne := goodIn_r _ [7, 8, 9, 10, 6, 11, 12, 13, 14, 15, 16, 17, 18, 19, 20, 21, 22, 23, 24, 25, 26, 27, 28, 29, 30, 31, 32, 33, 34, 35, 36, 37, 38, 39, 40, 41, 42, 43] (by decide +kernel) (by decide +kernel)
set_option maxRecDepth 20000 in
theorem gX11_as_X11_isOne : GoodIn wsX11_as (wsV RX11 133 RX11 yX11_isOne wsX11_isOne) := goodIn_app (goodIn_of _ (by decide +kernel)) ggX11_as_X11_isOne
set_option maxRecDepth 20000 in
theorem ggX11_as_X11_in : GoodIn wsX11_as wsX11_in := goodIn_r _ [15] (by decide +kernel) (by decide +kernel)
set_option maxRecDepth 20000 in
theorem gX11_as_X11_in : GoodIn wsX11_as (va_wsS RX11 67 yX11_in wsX11_in) := goodIn_app (goodIn_of _ (by decide +kernel)) ggX11_as_X11_in
theorem dX11_as_0 : decode cX11_as 0 = .ok (.aload_n 0, 1) := by decide +kernel
theorem dX11_as_1 : decode cX11_as 1 = .ok (.iload_n 1, 1) := by decide +kernel
theorem dX11_as_2 : decode cX11_as 2 = .ok (.invokevirtual 133, 3) := by decide +kernel
theorem dX11_as_5 : decode cX11_as 5 = .ok (.ifCond .ne 6, 3) := by decide +kernel
theorem dX11_as_8 : decode cX11_as 8 = .ok (.bipush (-101), 2) := by decide +kernel
theorem dX11_as_10 : decode cX11_as 10 = .ok (.ireturn, 1) := by decide +kernel
theorem dX11_as_11 : decode cX11_as 11 = .ok (.iload_n 2, 1) := by decide +kernel
theorem dX11_as_12 : decode cX11_as 12 = .ok (.i2l, 1) := by decide +kernel
theorem dX11_as_13 : decode cX11_as 13 = .ok (.lconst 0, 1) := by decide +kernel
theorem dX11_as_14 : decode cX11_as 14 = .ok (.ldc2_w 139, 3) := by decide +kernel
theorem dX11_as_17 : decode cX11_as 17 = .ok (.invokestatic 67, 3) := by decide +kernel
theorem dX11_as_20 : decode cX11_as 20 = .ok (.ifCond .ne 6, 3) := by decide +kernel
theorem dX11_as_23 : decode cX11_as 23 = .ok (.bipush (-102), 2) := by decide +kernel
theorem dX11_as_25 : decode cX11_as 25 = .ok (.ireturn, 1) := by decide +kernel
theorem dX11_as_26 : decode cX11_as 26 = .ok (.iload_n 2, 1) := by decide +kernel
theorem dX11_as_27 : decode cX11_as 27 = .ok (.ifCond .eq 28, 3) := by decide +kernel
theorem dX11_as_30 : decode cX11_as 30 = .ok (.iload_n 2, 1) := by decide +kernel
theorem dX11_as_31 : decode cX11_as 31 = .ok (.aload_n 0, 1) := by decide +kernel
theorem dX11_as_32 : decode cX11_as 32 = .ok (.getfield 28, 3) := by decide +kernel
theorem dX11_as_35 : decode cX11_as 35 = .ok (.iload_n 1, 1) := by decide +kernel
theorem dX11_as_36 : decode cX11_as 36 = .ok (.iaload, 1) := by decide +kernel
theorem dX11_as_37 : decode cX11_as 37 = .ok (.if_icmp .eq 18, 3) := by decide +kernel
theorem dX11_as_40 : decode cX11_as 40 = .ok (.iload_n 2, 1) := by decide +kernel
theorem dX11_as_41 : decode cX11_as 41 = .ok (.iconst 1, 1) := by decide +kernel
theorem dX11_as_42 : decode cX11_as 42 = .ok (.if_icmp .ne 17, 3) := by decide +kernel
theorem dX11_as_45 : decode cX11_as 45 = .ok (.aload_n 0, 1) := by decide +kernel
theorem dX11_as_46 : decode cX11_as 46 = .ok (.getfield 28, 3) := by decide +kernel
theorem dX11_as_49 : decode cX11_as 49 = .ok (.iload_n 1, 1) := by decide +kernel
theorem dX11_as_50 : decode cX11_as 50 = .ok (.iaload, 1) := by decide +kernel
theorem dX11_as_51 : decode cX11_as 51 = .ok (.iconst 4, 1) := by decide +kernel
theorem dX11_as_52 : decode cX11_as 52 = .ok (.if_icmp .ne 7, 3) := by decide +kernel
theorem dX11_as_55 : decode cX11_as 55 = .ok (.iconst 1, 1) := by decide +kernel
theorem dX11_as_56 : decode cX11_as 56 = .ok (.goto 4, 3) := by decide +kernel
theorem dX11_as_59 : decode cX11_as 59 = .ok (.iconst 0, 1) := by decide +kernel
theorem dX11_as_60 : decode cX11_as 60 = .ok (.istore_n 3, 1) := by decide +kernel
theorem dX11_as_61 : decode cX11_as 61 = .ok (.iload_n 3, 1) := by decide +kernel
theorem dX11_as_62 : decode cX11_as 62 = .ok (.ifCond .eq 7, 3) := by decide +kernel
theorem dX11_as_65 : decode cX11_as 65 = .ok (.iload_n 1, 1) := by decide +kernel
theorem dX11_as_66 : decode cX11_as 66 = .ok (.goto 4, 3) := by decide +kernel
theorem dX11_as_69 : decode cX11_as 69 = .ok (.iconst (-1), 1) := by decide +kernel
theorem dX11_as_70 : decode cX11_as 70 = .ok (.ireturn, 1) := by decide +kernel
set_option maxRecDepth 20000 in
theorem ggX11_ways_X11_isOne : GoodIn wsX11_ways wsX11_isOne := goodIn_r _ [8, 9, 10, 11, 7, 12, 13, 14, 15, 16, 23, 24, 25, 26, 27, 28, 29, 30, 31, 32, 33, 34, 35, 36, 37, 38, 39, 40, 41, 42, 43, 44, 45, 46, 47, 48, 49, 50] (by decide +kernel) (by decide +kernel)
set_option maxRecDepth 20000 in
theorem gX11_ways_X11_isOne : GoodIn wsX11_ways (wsV RX11 133 RX11 yX11_isOne wsX11_isOne) := goodIn_app (goodIn_of _ (by decide +kernel)) ggX11_ways_X11_isOne
set_option maxRecDepth 20000 in
theorem ggX11_ways_X11_in : GoodIn wsX11_ways wsX11_in := goodIn_r _ [16] (by decide +kernel) (by decide +kernel)
set_option maxRecDepth 20000 in
theorem gX11_ways_X11_in : GoodIn wsX11_ways (va_wsS RX11 67 yX11_in wsX11_in) := goodIn_app (goodIn_of _ (by decide +kernel)) ggX11_ways_X11_in
set_option maxRecDepth 20000 in
theorem ggX11_ways_X11_waysOf : GoodIn wsX11_ways wsX11_waysOf := goodIn_r _ [20, 21, 22, 23, 24, 25, 26, 27, 28, 29, 30, 31, 32, 33, 34, 35, 36, 37, 38, 39, 40, 41, 42, 43, 44, 45, 46, 47, 48, 49, 50] (by decide +kernel) (by decide +kernel)
set_option maxRecDepth 20000 in
theorem gX11_ways_X11_waysOf : GoodIn wsX11_ways (wsV RX11 61 RX11 yX11_waysOf wsX11_waysOf) := goodIn_app (goodIn_of _ (by decide +kernel)) ggX11_ways_X11_waysOf
theorem dX11_ways_0 : decode cX11_ways 0 = .ok (.aload_n 0, 1) := by decide +kernel
theorem dX11_ways_1 : decode cX11_ways 1 = .ok (.iload_n 1, 1) := by decide +kernel
theorem dX11_ways_2 : decode cX11_ways 2 = .ok (.invokevirtual 133, 3) := by decide +kernel
theorem dX11_ways_5 : decode cX11_ways 5 = .ok (.ifCond .ne 6, 3) := by decide +kernel
theorem dX11_ways_8 : decode cX11_ways 8 = .ok (.bipush (-101), 2) := by decide +kernel
theorem dX11_ways_10 : decode cX11_ways 10 = .ok (.ireturn, 1) := by decide +kernel
theorem dX11_ways_11 : decode cX11_ways 11 = .ok (.iload_n 2, 1) := by decide +kernel
theorem dX11_ways_12 : decode cX11_ways 12 = .ok (.i2l, 1) := by decide +kernel
theorem dX11_ways_13 : decode cX11_ways 13 = .ok (.ldc2_w 141, 3) := by decide +kernel
theorem dX11_ways_16 : decode cX11_ways 16 = .ok (.ldc2_w 143, 3) := by decide +kernel
theorem dX11_ways_19 : decode cX11_ways 19 = .ok (.invokestatic 67, 3) := by decide +kernel
theorem dX11_ways_22 : decode cX11_ways 22 = .ok (.ifCond .eq 17, 3) := by decide +kernel
theorem dX11_ways_25 : decode cX11_ways 25 = .ok (.aload_n 0, 1) := by decide +kernel
theorem dX11_ways_26 : decode cX11_ways 26 = .ok (.aload_n 0, 1) := by decide +kernel
theorem dX11_ways_27 : decode cX11_ways 27 = .ok (.getfield 28, 3) := by decide +kernel
theorem dX11_ways_30 : decode cX11_ways 30 = .ok (.iload_n 1, 1) := by decide +kernel
theorem dX11_ways_31 : decode cX11_ways 31 = .ok (.iaload, 1) := by decide +kernel
theorem dX11_ways_32 : decode cX11_ways 32 = .ok (.iload_n 2, 1) := by decide +kernel
theorem dX11_ways_33 : decode cX11_ways 33 = .ok (.invokevirtual 61, 3) := by decide +kernel
theorem dX11_ways_36 : decode cX11_ways 36 = .ok (.goto 5, 3) := by decide +kernel
theorem dX11_ways_39 : decode cX11_ways 39 = .ok (.bipush (-102), 2) := by decide +kernel
theorem dX11_ways_41 : decode cX11_ways 41 = .ok (.ireturn, 1) := by decide +kernel
set_option maxRecDepth 20000 in
theorem ggX11_isRightNow_X11_isKings : GoodIn wsX11_isRightNow wsX11_isKings := goodIn_r _ [7, 2, 8, 9, 10, 11, 12, 13, 14, 15, 16, 17, 18, 19, 20, 21, 22, 23, 24, 25, 26, 27, 28, 29, 30, 31, 32, 33, 34, 35] (by decide +kernel) (by decide +kernel)
set_option maxRecDepth 20000 in
theorem gX11_isRightNow_X11_isKings : GoodIn wsX11_isRightNow (wsV RX11 145 RX11 yX11_isKings wsX11_isKings) := goodIn_app (goodIn_of _ (by decide +kernel)) ggX11_isRightNow_X11_isKings
theorem dX11_isRightNow_0 : decode cX11_isRightNow 0 = .ok (.iconst 1, 1) := by decide +kernel
theorem dX11_isRightNow_1 : decode cX11_isRightNow 1 = .ok (.istore_n 1, 1) := by decide +kernel
theorem dX11_isRightNow_2 : decode cX11_isRightNow 2 = .ok (.iconst 0, 1) := by decide +kernel
theorem dX11_isRightNow_3 : decode cX11_isRightNow 3 = .ok (.istore_n 2, 1) := by decide +kernel
theorem dX11_isRightNow_4 : decode cX11_isRightNow 4 = .ok (.iload_n 2, 1) := by decide +kernel
theorem dX11_isRightNow_5 : decode cX11_isRightNow 5 = .ok (.aload_n 0, 1) := by decide +kernel
theorem dX11_isRightNow_6 : decode cX11_isRightNow 6 = .ok (.getfield 102, 3) := by decide +kernel
theorem dX11_isRightNow_9 : decode cX11_isRightNow 9 = .ok (.if_icmp .ge 40, 3) := by decide +kernel
theorem dX11_isRightNow_12 : decode cX11_isRightNow 12 = .ok (.iload_n 1, 1) := by decide +kernel
theorem dX11_isRightNow_13 : decode cX11_isRightNow 13 = .ok (.ifCond .eq 28, 3) := by decide +kernel
theorem dX11_isRightNow_16 : decode cX11_isRightNow 16 = .ok (.aload_n 0, 1) := by decide +kernel
theorem dX11_isRightNow_17 : decode cX11_isRightNow 17 = .ok (.getfield 25, 3) := by decide +kernel
theorem dX11_isRightNow_20 : decode cX11_isRightNow 20 = .ok (.bipush 6, 2) := by decide +kernel
theorem dX11_isRightNow_22 : decode cX11_isRightNow 22 = .ok (.iload_n 2, 1) := by decide +kernel
theorem dX11_isRightNow_23 : decode cX11_isRightNow 23 = .ok (.imul, 1) := by decide +kernel
theorem dX11_isRightNow_24 : decode cX11_isRightNow 24 = .ok (.iaload, 1) := by decide +kernel
theorem dX11_isRightNow_25 : decode cX11_isRightNow 25 = .ok (.iconst 2, 1) := by decide +kernel
theorem dX11_isRightNow_26 : decode cX11_isRightNow 26 = .ok (.if_icmp .ne 11, 3) := by decide +kernel
theorem dX11_isRightNow_29 : decode cX11_isRightNow 29 = .ok (.aload_n 0, 1) := by decide +kernel
theorem dX11_isRightNow_30 : decode cX11_isRightNow 30 = .ok (.iload_n 2, 1) := by decide +kernel
theorem dX11_isRightNow_31 : decode cX11_isRightNow 31 = .ok (.invokevirtual 145, 3) := by decide +kernel
theorem dX11_isRightNow_34 : decode cX11_isRightNow 34 = .ok (.ifCond .eq 7, 3) := by decide +kernel
theorem dX11_isRightNow_37 : decode cX11_isRightNow 37 = .ok (.iconst 1, 1) := by decide +kernel
theorem dX11_isRightNow_38 : decode cX11_isRightNow 38 = .ok (.goto 4, 3) := by decide +kernel
theorem dX11_isRightNow_41 : decode cX11_isRightNow 41 = .ok (.iconst 0, 1) := by decide +kernel
theorem dX11_isRightNow_42 : decode cX11_isRightNow 42 = .ok (.istore_n 1, 1) := by decide +kernel
theorem dX11_isRightNow_43 : decode cX11_isRightNow 43 = .ok (.iinc 2 1, 3) := by decide +kernel
theorem dX11_isRightNow_46 : decode cX11_isRightNow 46 = .ok (.goto (-42), 3) := by decide +kernel
theorem dX11_isRightNow_49 : decode cX11_isRightNow 49 = .ok (.iload_n 1, 1) := by decide +kernel
theorem dX11_isRightNow_50 : decode cX11_isRightNow 50 = .ok (.ireturn, 1) := by decide +kernel
theorem dX11_goesOver_0 : decode cX11_goesOver 0 = .ok (.aload_n 0, 1) := by decide +kernel
theorem dX11_goesOver_1 : decode cX11_goesOver 1 = .ok (.getfield 25, 3) := by decide +kernel
theorem dX11_goesOver_4 : decode cX11_goesOver 4 = .ok (.bipush 6, 2) := by decide +kernel
theorem dX11_goesOver_6 : decode cX11_goesOver 6 = .ok (.iload_n 1, 1) := by decide +kernel
theorem dX11_goesOver_7 : decode cX11_goesOver 7 = .ok (.imul, 1) := by decide +kernel
theorem dX11_goesOver_8 : decode cX11_goesOver 8 = .ok (.iconst 2, 1) := by decide +kernel
theorem dX11_goesOver_9 : decode cX11_goesOver 9 = .ok (.iadd, 1) := by decide +kernel
theorem dX11_goesOver_10 : decode cX11_goesOver 10 = .ok (.iload_n 2, 1) := by decide +kernel
theorem dX11_goesOver_11 : decode cX11_goesOver 11 = .ok (.iastore, 1) := by decide +kernel
theorem dX11_goesOver_12 : decode cX11_goesOver 12 = .ok (.aload_n 0, 1) := by decide +kernel
theorem dX11_goesOver_13 : decode cX11_goesOver 13 = .ok (.getfield 25, 3) := by decide +kernel
theorem dX11_goesOver_16 : decode cX11_goesOver 16 = .ok (.bipush 6, 2) := by decide +kernel
theorem dX11_goesOver_18 : decode cX11_goesOver 18 = .ok (.iload_n 1, 1) := by decide +kernel
theorem dX11_goesOver_19 : decode cX11_goesOver 19 = .ok (.imul, 1) := by decide +kernel
theorem dX11_goesOver_20 : decode cX11_goesOver 20 = .ok (.iconst 5, 1) := by decide +kernel
theorem dX11_goesOver_21 : decode cX11_goesOver 21 = .ok (.iadd, 1) := by decide +kernel
theorem dX11_goesOver_22 : decode cX11_goesOver 22 = .ok (.dup2, 1) := by decide +kernel
theorem dX11_goesOver_23 : decode cX11_goesOver 23 = .ok (.iaload, 1) := by decide +kernel
theorem dX11_goesOver_24 : decode cX11_goesOver 24 = .ok (.iconst 1, 1) := by decide +kernel
theorem dX11_goesOver_25 : decode cX11_goesOver 25 = .ok (.iadd, 1) := by decide +kernel
theorem dX11_goesOver_26 : decode cX11_goesOver 26 = .ok (.iastore, 1) := by decide +kernel
theorem dX11_goesOver_27 : decode cX11_goesOver 27 = .ok (.return_, 1) := by decide +kernel
set_option maxRecDepth 20000 in
theorem ggX11_loses_X11_isRightNow : GoodIn wsX11_loses wsX11_isRightNow := goodIn_r _ [7, 8, 1, 9, 10, 11, 6, 12, 17, 18, 19, 20, 21, 22, 23, 24, 25, 26, 27, 28, 29, 30, 31, 32, 33, 34, 35, 36, 37, 38, 39, 40, 41, 42, 43, 44] (by decide +kernel) (by decide +kernel)
set_option maxRecDepth 20000 in
theorem gX11_loses_X11_isRightNow : GoodIn wsX11_loses (wsV RX11 148 RX11 yX11_isRightNow wsX11_isRightNow) := goodIn_app (goodIn_of _ (by decide +kernel)) ggX11_loses_X11_isRightNow
set_option maxRecDepth 20000 in
theorem ggX11_loses_X11_goesOver : GoodIn wsX11_loses wsX11_goesOver := goodIn_r _ [16, 1, 17, 18, 19, 20, 21, 22, 23, 24, 25, 26, 27, 28, 29, 30, 31, 32, 33, 34, 35, 36, 37, 38, 39, 40, 41, 42, 43, 44] (by decide +kernel) (by decide +kernel)
set_option maxRecDepth 20000 in
theorem gX11_loses_X11_goesOver : GoodIn wsX11_loses (wsV RX11 151 RX11 yX11_goesOver wsX11_goesOver) := goodIn_app (goodIn_of _ (by decide +kernel)) ggX11_loses_X11_goesOver
theorem dX11_loses_0 : decode cX11_loses 0 = .ok (.aload_n 0, 1) := by decide +kernel
theorem dX11_loses_1 : decode cX11_loses 1 = .ok (.getfield 25, 3) := by decide +kernel
theorem dX11_loses_4 : decode cX11_loses 4 = .ok (.bipush 6, 2) := by decide +kernel
theorem dX11_loses_6 : decode cX11_loses 6 = .ok (.iload_n 1, 1) := by decide +kernel
theorem dX11_loses_7 : decode cX11_loses 7 = .ok (.imul, 1) := by decide +kernel
theorem dX11_loses_8 : decode cX11_loses 8 = .ok (.iconst 4, 1) := by decide +kernel
theorem dX11_loses_9 : decode cX11_loses 9 = .ok (.iadd, 1) := by decide +kernel
theorem dX11_loses_10 : decode cX11_loses 10 = .ok (.aload_n 0, 1) := by decide +kernel
theorem dX11_loses_11 : decode cX11_loses 11 = .ok (.invokevirtual 148, 3) := by decide +kernel
theorem dX11_loses_14 : decode cX11_loses 14 = .ok (.ifCond .eq 7, 3) := by decide +kernel
theorem dX11_loses_17 : decode cX11_loses 17 = .ok (.iconst 1, 1) := by decide +kernel
theorem dX11_loses_18 : decode cX11_loses 18 = .ok (.goto 4, 3) := by decide +kernel
theorem dX11_loses_21 : decode cX11_loses 21 = .ok (.iconst 0, 1) := by decide +kernel
theorem dX11_loses_22 : decode cX11_loses 22 = .ok (.iastore, 1) := by decide +kernel
theorem dX11_loses_23 : decode cX11_loses 23 = .ok (.aload_n 0, 1) := by decide +kernel
theorem dX11_loses_24 : decode cX11_loses 24 = .ok (.getfield 25, 3) := by decide +kernel
theorem dX11_loses_27 : decode cX11_loses 27 = .ok (.bipush 6, 2) := by decide +kernel
theorem dX11_loses_29 : decode cX11_loses 29 = .ok (.iload_n 1, 1) := by decide +kernel
theorem dX11_loses_30 : decode cX11_loses 30 = .ok (.imul, 1) := by decide +kernel
theorem dX11_loses_31 : decode cX11_loses 31 = .ok (.iconst 3, 1) := by decide +kernel
theorem dX11_loses_32 : decode cX11_loses 32 = .ok (.iadd, 1) := by decide +kernel
theorem dX11_loses_33 : decode cX11_loses 33 = .ok (.aload_n 0, 1) := by decide +kernel
theorem dX11_loses_34 : decode cX11_loses 34 = .ok (.getfield 112, 3) := by decide +kernel
theorem dX11_loses_37 : decode cX11_loses 37 = .ok (.iastore, 1) := by decide +kernel
theorem dX11_loses_38 : decode cX11_loses 38 = .ok (.aload_n 0, 1) := by decide +kernel
theorem dX11_loses_39 : decode cX11_loses 39 = .ok (.iload_n 1, 1) := by decide +kernel
theorem dX11_loses_40 : decode cX11_loses 40 = .ok (.iconst 1, 1) := by decide +kernel
theorem dX11_loses_41 : decode cX11_loses 41 = .ok (.invokevirtual 151, 3) := by decide +kernel
theorem dX11_loses_44 : decode cX11_loses 44 = .ok (.return_, 1) := by decide +kernel
set_option maxRecDepth 20000 in
theorem ggX11_play_X11_isThing : GoodIn wsX11_play wsX11_isThing := goodIn_r _ [11, 12, 13, 14, 10, 15, 38, 39, 40, 41, 42, 43, 44, 45, 46, 47, 48, 49, 50, 51, 52, 53, 54, 55, 56, 57, 58, 59, 60, 61, 62, 63, 64, 65] (by decide +kernel) (by decide +kernel)
set_option maxRecDepth 20000 in
theorem gX11_play_X11_isThing : GoodIn wsX11_play (wsV RX11 125 RX11 yX11_isThing wsX11_isThing) := goodIn_app (goodIn_of _ (by decide +kernel)) ggX11_play_X11_isThing
set_option maxRecDepth 20000 in
theorem ggX11_play_X11_in : GoodIn wsX11_play wsX11_in := goodIn_r _ [15] (by decide +kernel) (by decide +kernel)
set_option maxRecDepth 20000 in
theorem gX11_play_X11_in : GoodIn wsX11_play (va_wsS RX11 67 yX11_in wsX11_in) := goodIn_app (goodIn_of _ (by decide +kernel)) ggX11_play_X11_in
set_option maxRecDepth 20000 in
theorem ggX11_play_X11_waysOf : GoodIn wsX11_play wsX11_waysOf := goodIn_r _ [19, 20, 21, 38, 39, 40, 41, 42, 43, 44, 45, 46, 47, 48, 49, 50, 51, 52, 53, 54, 55, 56, 57, 58, 59, 60, 61, 62, 63, 64, 65] (by decide +kernel) (by decide +kernel)
set_option maxRecDepth 20000 in
theorem gX11_play_X11_waysOf : GoodIn wsX11_play (wsV RX11 61 RX11 yX11_waysOf wsX11_waysOf) := goodIn_app (goodIn_of _ (by decide +kernel)) ggX11_play_X11_waysOf
set_option maxRecDepth 20000 in
theorem ggX11_play_X11_isKings : GoodIn wsX11_play wsX11_isKings := goodIn_r _ [25, 4, 38, 39, 40, 41, 42, 43, 44, 45, 46, 47, 48, 49, 50, 51, 52, 53, 54, 55, 56, 57, 58, 59, 60, 61, 62, 63, 64, 65] (by decide +kernel) (by decide +kernel)
set_option maxRecDepth 20000 in
theorem gX11_play_X11_isKings : GoodIn wsX11_play (wsV RX11 145 RX11 yX11_isKings wsX11_isKings) := goodIn_app (goodIn_of _ (by decide +kernel)) ggX11_play_X11_isKings
set_option maxRecDepth 20000 in
theorem ggX11_play_X11_loses : GoodIn wsX11_play wsX11_loses := goodIn_r _ [29, 4, 5, 30, 31, 32, 10, 33, 12, 22, 23, 24, 25, 34, 35, 36, 37, 38, 39, 40, 41, 42, 43, 44, 45, 46, 47, 48, 49, 50, 51, 52, 53, 54, 55, 56, 57, 58, 59, 60, 61, 62, 63, 64, 65] (by decide +kernel) (by decide +kernel)
set_option maxRecDepth 20000 in
theorem gX11_play_X11_loses : GoodIn wsX11_play (wsV RX11 155 RX11 yX11_loses wsX11_loses) := goodIn_app (goodIn_of _ (by decide +kernel)) ggX11_play_X11_loses
set_option maxRecDepth 20000 in
theorem ggX11_play_X11_goesOver : GoodIn wsX11_play wsX11_goesOver := goodIn_r _ [37, 4, 38, 39, 40, 41, 42, 43, 44, 45, 46, 47, 48, 49, 50, 51, 52, 53, 54, 55, 56, 57, 58, 59, 60, 61, 62, 63, 64, 65] (by decide +kernel) (by decide +kernel)
set_option maxRecDepth 20000 in
theorem gX11_play_X11_goesOver : GoodIn wsX11_play (wsV RX11 151 RX11 yX11_goesOver wsX11_goesOver) := goodIn_app (goodIn_of _ (by decide +kernel)) ggX11_play_X11_goesOver
theorem dX11_play_0 : decode cX11_play 0 = .ok (.aload_n 0, 1) := by decide +kernel
theorem dX11_play_1 : decode cX11_play 1 = .ok (.iload_n 1, 1) := by decide +kernel
theorem dX11_play_2 : decode cX11_play 2 = .ok (.invokevirtual 125, 3) := by decide +kernel
theorem dX11_play_5 : decode cX11_play 5 = .ok (.ifCond .eq 16, 3) := by decide +kernel
theorem dX11_play_8 : decode cX11_play 8 = .ok (.iload_n 2, 1) := by decide +kernel
theorem dX11_play_9 : decode cX11_play 9 = .ok (.iconst (-1), 1) := by decide +kernel
theorem dX11_play_10 : decode cX11_play 10 = .ok (.if_icmp .eq 14, 3) := by decide +kernel
theorem dX11_play_13 : decode cX11_play 13 = .ok (.aload_n 0, 1) := by decide +kernel
theorem dX11_play_14 : decode cX11_play 14 = .ok (.iload_n 2, 1) := by decide +kernel
theorem dX11_play_15 : decode cX11_play 15 = .ok (.invokevirtual 125, 3) := by decide +kernel
theorem dX11_play_18 : decode cX11_play 18 = .ok (.ifCond .ne 6, 3) := by decide +kernel
theorem dX11_play_21 : decode cX11_play 21 = .ok (.bipush (-101), 2) := by decide +kernel
theorem dX11_play_23 : decode cX11_play 23 = .ok (.ireturn, 1) := by decide +kernel
theorem dX11_play_24 : decode cX11_play 24 = .ok (.iload_n 3, 1) := by decide +kernel
theorem dX11_play_25 : decode cX11_play 25 = .ok (.i2l, 1) := by decide +kernel
theorem dX11_play_26 : decode cX11_play 26 = .ok (.ldc2_w 141, 3) := by decide +kernel
theorem dX11_play_29 : decode cX11_play 29 = .ok (.ldc2_w 143, 3) := by decide +kernel
theorem dX11_play_32 : decode cX11_play 32 = .ok (.invokestatic 67, 3) := by decide +kernel
theorem dX11_play_35 : decode cX11_play 35 = .ok (.ifCond .eq 47, 3) := by decide +kernel
theorem dX11_play_38 : decode cX11_play 38 = .ok (.iload 4, 2) := by decide +kernel
theorem dX11_play_40 : decode cX11_play 40 = .ok (.i2l, 1) := by decide +kernel
theorem dX11_play_41 : decode cX11_play 41 = .ok (.ldc2_w 141, 3) := by decide +kernel
theorem dX11_play_44 : decode cX11_play 44 = .ok (.ldc2_w 143, 3) := by decide +kernel
theorem dX11_play_47 : decode cX11_play 47 = .ok (.invokestatic 67, 3) := by decide +kernel
theorem dX11_play_50 : decode cX11_play 50 = .ok (.ifCond .eq 32, 3) := by decide +kernel
theorem dX11_play_53 : decode cX11_play 53 = .ok (.aload_n 0, 1) := by decide +kernel
theorem dX11_play_54 : decode cX11_play 54 = .ok (.aload_n 0, 1) := by decide +kernel
theorem dX11_play_55 : decode cX11_play 55 = .ok (.getfield 28, 3) := by decide +kernel
theorem dX11_play_58 : decode cX11_play 58 = .ok (.iconst 0, 1) := by decide +kernel
theorem dX11_play_59 : decode cX11_play 59 = .ok (.iaload, 1) := by decide +kernel
theorem dX11_play_60 : decode cX11_play 60 = .ok (.iload_n 3, 1) := by decide +kernel
theorem dX11_play_61 : decode cX11_play 61 = .ok (.invokevirtual 61, 3) := by decide +kernel
theorem dX11_play_64 : decode cX11_play 64 = .ok (.ifCond .eq 18, 3) := by decide +kernel
theorem dX11_play_67 : decode cX11_play 67 = .ok (.aload_n 0, 1) := by decide +kernel
theorem dX11_play_68 : decode cX11_play 68 = .ok (.aload_n 0, 1) := by decide +kernel
theorem dX11_play_69 : decode cX11_play 69 = .ok (.getfield 28, 3) := by decide +kernel
theorem dX11_play_72 : decode cX11_play 72 = .ok (.iconst 1, 1) := by decide +kernel
theorem dX11_play_73 : decode cX11_play 73 = .ok (.iaload, 1) := by decide +kernel
theorem dX11_play_74 : decode cX11_play 74 = .ok (.iload 4, 2) := by decide +kernel
theorem dX11_play_76 : decode cX11_play 76 = .ok (.invokevirtual 61, 3) := by decide +kernel
theorem dX11_play_79 : decode cX11_play 79 = .ok (.ifCond .ne 6, 3) := by decide +kernel
theorem dX11_play_82 : decode cX11_play 82 = .ok (.bipush (-102), 2) := by decide +kernel
theorem dX11_play_84 : decode cX11_play 84 = .ok (.ireturn, 1) := by decide +kernel
theorem dX11_play_85 : decode cX11_play 85 = .ok (.aload_n 0, 1) := by decide +kernel
theorem dX11_play_86 : decode cX11_play 86 = .ok (.iload_n 1, 1) := by decide +kernel
theorem dX11_play_87 : decode cX11_play 87 = .ok (.invokevirtual 145, 3) := by decide +kernel
theorem dX11_play_90 : decode cX11_play 90 = .ok (.ifCond .eq 41, 3) := by decide +kernel
theorem dX11_play_93 : decode cX11_play 93 = .ok (.iload_n 2, 1) := by decide +kernel
theorem dX11_play_94 : decode cX11_play 94 = .ok (.iconst (-1), 1) := by decide +kernel
theorem dX11_play_95 : decode cX11_play 95 = .ok (.if_icmp .eq 39, 3) := by decide +kernel
theorem dX11_play_98 : decode cX11_play 98 = .ok (.aload_n 0, 1) := by decide +kernel
theorem dX11_play_99 : decode cX11_play 99 = .ok (.iload_n 2, 1) := by decide +kernel
theorem dX11_play_100 : decode cX11_play 100 = .ok (.invokevirtual 145, 3) := by decide +kernel
theorem dX11_play_103 : decode cX11_play 103 = .ok (.ifCond .ne 28, 3) := by decide +kernel
theorem dX11_play_106 : decode cX11_play 106 = .ok (.aload_n 0, 1) := by decide +kernel
theorem dX11_play_107 : decode cX11_play 107 = .ok (.getfield 25, 3) := by decide +kernel
theorem dX11_play_110 : decode cX11_play 110 = .ok (.bipush 6, 2) := by decide +kernel
theorem dX11_play_112 : decode cX11_play 112 = .ok (.iload_n 2, 1) := by decide +kernel
theorem dX11_play_113 : decode cX11_play 113 = .ok (.imul, 1) := by decide +kernel
theorem dX11_play_114 : decode cX11_play 114 = .ok (.iconst 1, 1) := by decide +kernel
theorem dX11_play_115 : decode cX11_play 115 = .ok (.iadd, 1) := by decide +kernel
theorem dX11_play_116 : decode cX11_play 116 = .ok (.iaload, 1) := by decide +kernel
theorem dX11_play_117 : decode cX11_play 117 = .ok (.aload_n 0, 1) := by decide +kernel
theorem dX11_play_118 : decode cX11_play 118 = .ok (.getfield 25, 3) := by decide +kernel
theorem dX11_play_121 : decode cX11_play 121 = .ok (.bipush 6, 2) := by decide +kernel
theorem dX11_play_123 : decode cX11_play 123 = .ok (.iload_n 1, 1) := by decide +kernel
theorem dX11_play_124 : decode cX11_play 124 = .ok (.imul, 1) := by decide +kernel
theorem dX11_play_125 : decode cX11_play 125 = .ok (.iconst 1, 1) := by decide +kernel
theorem dX11_play_126 : decode cX11_play 126 = .ok (.iadd, 1) := by decide +kernel
theorem dX11_play_127 : decode cX11_play 127 = .ok (.iaload, 1) := by decide +kernel
theorem dX11_play_128 : decode cX11_play 128 = .ok (.if_icmp .le 6, 3) := by decide +kernel
theorem dX11_play_131 : decode cX11_play 131 = .ok (.bipush (-103), 2) := by decide +kernel
theorem dX11_play_133 : decode cX11_play 133 = .ok (.ireturn, 1) := by decide +kernel
theorem dX11_play_134 : decode cX11_play 134 = .ok (.aload_n 0, 1) := by decide +kernel
theorem dX11_play_135 : decode cX11_play 135 = .ok (.getfield 112, 3) := by decide +kernel
theorem dX11_play_138 : decode cX11_play 138 = .ok (.bipush 30, 2) := by decide +kernel
theorem dX11_play_140 : decode cX11_play 140 = .ok (.if_icmp .ne 6, 3) := by decide +kernel
theorem dX11_play_143 : decode cX11_play 143 = .ok (.bipush (-104), 2) := by decide +kernel
theorem dX11_play_145 : decode cX11_play 145 = .ok (.ireturn, 1) := by decide +kernel
theorem dX11_play_146 : decode cX11_play 146 = .ok (.aload_n 0, 1) := by decide +kernel
theorem dX11_play_147 : decode cX11_play 147 = .ok (.dup, 1) := by decide +kernel
theorem dX11_play_148 : decode cX11_play 148 = .ok (.getfield 112, 3) := by decide +kernel
theorem dX11_play_151 : decode cX11_play 151 = .ok (.iconst 1, 1) := by decide +kernel
theorem dX11_play_152 : decode cX11_play 152 = .ok (.iadd, 1) := by decide +kernel
theorem dX11_play_153 : decode cX11_play 153 = .ok (.putfield 112, 3) := by decide +kernel
theorem dX11_play_156 : decode cX11_play 156 = .ok (.iload_n 3, 1) := by decide +kernel
theorem dX11_play_157 : decode cX11_play 157 = .ok (.iload 4, 2) := by decide +kernel
theorem dX11_play_159 : decode cX11_play 159 = .ok (.if_icmp .ge 8, 3) := by decide +kernel
theorem dX11_play_162 : decode cX11_play 162 = .ok (.aload_n 0, 1) := by decide +kernel
theorem dX11_play_163 : decode cX11_play 163 = .ok (.iload_n 1, 1) := by decide +kernel
theorem dX11_play_164 : decode cX11_play 164 = .ok (.invokevirtual 155, 3) := by decide +kernel
theorem dX11_play_167 : decode cX11_play 167 = .ok (.iload_n 3, 1) := by decide +kernel
theorem dX11_play_168 : decode cX11_play 168 = .ok (.iload 4, 2) := by decide +kernel
theorem dX11_play_170 : decode cX11_play 170 = .ok (.if_icmp .le 28, 3) := by decide +kernel
theorem dX11_play_173 : decode cX11_play 173 = .ok (.iload_n 2, 1) := by decide +kernel
theorem dX11_play_174 : decode cX11_play 174 = .ok (.iconst (-1), 1) := by decide +kernel
theorem dX11_play_175 : decode cX11_play 175 = .ok (.if_icmp .ne 23, 3) := by decide +kernel
theorem dX11_play_178 : decode cX11_play 178 = .ok (.aload_n 0, 1) := by decide +kernel
theorem dX11_play_179 : decode cX11_play 179 = .ok (.dup, 1) := by decide +kernel
theorem dX11_play_180 : decode cX11_play 180 = .ok (.getfield 109, 3) := by decide +kernel
theorem dX11_play_183 : decode cX11_play 183 = .ok (.aload_n 0, 1) := by decide +kernel
theorem dX11_play_184 : decode cX11_play 184 = .ok (.getfield 25, 3) := by decide +kernel
theorem dX11_play_187 : decode cX11_play 187 = .ok (.bipush 6, 2) := by decide +kernel
theorem dX11_play_189 : decode cX11_play 189 = .ok (.iload_n 1, 1) := by decide +kernel
theorem dX11_play_190 : decode cX11_play 190 = .ok (.imul, 1) := by decide +kernel
theorem dX11_play_191 : decode cX11_play 191 = .ok (.iconst 1, 1) := by decide +kernel
theorem dX11_play_192 : decode cX11_play 192 = .ok (.iadd, 1) := by decide +kernel
theorem dX11_play_193 : decode cX11_play 193 = .ok (.iaload, 1) := by decide +kernel
theorem dX11_play_194 : decode cX11_play 194 = .ok (.iadd, 1) := by decide +kernel
theorem dX11_play_195 : decode cX11_play 195 = .ok (.putfield 109, 3) := by decide +kernel
theorem dX11_play_198 : decode cX11_play 198 = .ok (.iload_n 3, 1) := by decide +kernel
theorem dX11_play_199 : decode cX11_play 199 = .ok (.iload 4, 2) := by decide +kernel
theorem dX11_play_201 : decode cX11_play 201 = .ok (.if_icmp .le 14, 3) := by decide +kernel
theorem dX11_play_204 : decode cX11_play 204 = .ok (.iload_n 2, 1) := by decide +kernel
theorem dX11_play_205 : decode cX11_play 205 = .ok (.iconst (-1), 1) := by decide +kernel
theorem dX11_play_206 : decode cX11_play 206 = .ok (.if_icmp .eq 9, 3) := by decide +kernel
theorem dX11_play_209 : decode cX11_play 209 = .ok (.aload_n 0, 1) := by decide +kernel
theorem dX11_play_210 : decode cX11_play 210 = .ok (.iload_n 2, 1) := by decide +kernel
theorem dX11_play_211 : decode cX11_play 211 = .ok (.iconst 0, 1) := by decide +kernel
theorem dX11_play_212 : decode cX11_play 212 = .ok (.invokevirtual 151, 3) := by decide +kernel
theorem dX11_play_215 : decode cX11_play 215 = .ok (.iload_n 3, 1) := by decide +kernel
theorem dX11_play_216 : decode cX11_play 216 = .ok (.iload 4, 2) := by decide +kernel
theorem dX11_play_218 : decode cX11_play 218 = .ok (.if_icmp .le 7, 3) := by decide +kernel
theorem dX11_play_221 : decode cX11_play 221 = .ok (.iconst 0, 1) := by decide +kernel
theorem dX11_play_222 : decode cX11_play 222 = .ok (.goto 14, 3) := by decide +kernel
theorem dX11_play_225 : decode cX11_play 225 = .ok (.iload_n 3, 1) := by decide +kernel
theorem dX11_play_226 : decode cX11_play 226 = .ok (.iload 4, 2) := by decide +kernel
theorem dX11_play_228 : decode cX11_play 228 = .ok (.if_icmp .ge 7, 3) := by decide +kernel
theorem dX11_play_231 : decode cX11_play 231 = .ok (.iconst 1, 1) := by decide +kernel
theorem dX11_play_232 : decode cX11_play 232 = .ok (.goto 4, 3) := by decide +kernel
theorem dX11_play_235 : decode cX11_play 235 = .ok (.iconst (-1), 1) := by decide +kernel
theorem dX11_play_236 : decode cX11_play 236 = .ok (.ireturn, 1) := by decide +kernel
set_option maxRecDepth 20000 in
theorem ggX11_waysBy_X11_waysOf : GoodIn wsX11_waysBy wsX11_waysOf := goodIn_r _ [6, 7, 8, 9, 10, 11, 12, 13, 14, 15, 16, 17, 18, 19, 20, 21, 22, 23, 24, 25, 26, 27, 28, 29, 30, 31, 32, 33, 34, 35, 36] (by decide +kernel) (by decide +kernel)
set_option maxRecDepth 20000 in
theorem gX11_waysBy_X11_waysOf : GoodIn wsX11_waysBy (wsV RX11 61 RX11 yX11_waysOf wsX11_waysOf) := goodIn_app (goodIn_of _ (by decide +kernel)) ggX11_waysBy_X11_waysOf
theorem dX11_waysBy_0 : decode cX11_waysBy 0 = .ok (.lconst 0, 1) := by decide +kernel
theorem dX11_waysBy_1 : decode cX11_waysBy 1 = .ok (.lstore_n 2, 1) := by decide +kernel
theorem dX11_waysBy_2 : decode cX11_waysBy 2 = .ok (.iconst 2, 1) := by decide +kernel
theorem dX11_waysBy_3 : decode cX11_waysBy 3 = .ok (.istore 4, 2) := by decide +kernel
theorem dX11_waysBy_5 : decode cX11_waysBy 5 = .ok (.iload 4, 2) := by decide +kernel
theorem dX11_waysBy_7 : decode cX11_waysBy 7 = .ok (.bipush 13, 2) := by decide +kernel
theorem dX11_waysBy_9 : decode cX11_waysBy 9 = .ok (.if_icmp .ge 116, 3) := by decide +kernel
theorem dX11_waysBy_12 : decode cX11_waysBy 12 = .ok (.iconst 2, 1) := by decide +kernel
theorem dX11_waysBy_13 : decode cX11_waysBy 13 = .ok (.istore 5, 2) := by decide +kernel
theorem dX11_waysBy_15 : decode cX11_waysBy 15 = .ok (.iload 5, 2) := by decide +kernel
theorem dX11_waysBy_17 : decode cX11_waysBy 17 = .ok (.bipush 13, 2) := by decide +kernel
theorem dX11_waysBy_19 : decode cX11_waysBy 19 = .ok (.if_icmp .ge 100, 3) := by decide +kernel
theorem dX11_waysBy_22 : decode cX11_waysBy 22 = .ok (.iload_n 1, 1) := by decide +kernel
theorem dX11_waysBy_23 : decode cX11_waysBy 23 = .ok (.ifCond .ne 18, 3) := by decide +kernel
theorem dX11_waysBy_26 : decode cX11_waysBy 26 = .ok (.iload 4, 2) := by decide +kernel
theorem dX11_waysBy_28 : decode cX11_waysBy 28 = .ok (.iload 5, 2) := by decide +kernel
theorem dX11_waysBy_30 : decode cX11_waysBy 30 = .ok (.if_icmp .le 7, 3) := by decide +kernel
theorem dX11_waysBy_33 : decode cX11_waysBy 33 = .ok (.iconst 1, 1) := by decide +kernel
theorem dX11_waysBy_34 : decode cX11_waysBy 34 = .ok (.goto 39, 3) := by decide +kernel
theorem dX11_waysBy_37 : decode cX11_waysBy 37 = .ok (.iconst 0, 1) := by decide +kernel
theorem dX11_waysBy_38 : decode cX11_waysBy 38 = .ok (.goto 35, 3) := by decide +kernel
theorem dX11_waysBy_41 : decode cX11_waysBy 41 = .ok (.iload_n 1, 1) := by decide +kernel
theorem dX11_waysBy_42 : decode cX11_waysBy 42 = .ok (.iconst 1, 1) := by decide +kernel
theorem dX11_waysBy_43 : decode cX11_waysBy 43 = .ok (.if_icmp .ne 18, 3) := by decide +kernel
theorem dX11_waysBy_46 : decode cX11_waysBy 46 = .ok (.iload 4, 2) := by decide +kernel
theorem dX11_waysBy_48 : decode cX11_waysBy 48 = .ok (.iload 5, 2) := by decide +kernel
theorem dX11_waysBy_50 : decode cX11_waysBy 50 = .ok (.if_icmp .ge 7, 3) := by decide +kernel
theorem dX11_waysBy_53 : decode cX11_waysBy 53 = .ok (.iconst 1, 1) := by decide +kernel
theorem dX11_waysBy_54 : decode cX11_waysBy 54 = .ok (.goto 19, 3) := by decide +kernel
theorem dX11_waysBy_57 : decode cX11_waysBy 57 = .ok (.iconst 0, 1) := by decide +kernel
theorem dX11_waysBy_58 : decode cX11_waysBy 58 = .ok (.goto 15, 3) := by decide +kernel
theorem dX11_waysBy_61 : decode cX11_waysBy 61 = .ok (.iload 4, 2) := by decide +kernel
theorem dX11_waysBy_63 : decode cX11_waysBy 63 = .ok (.iload 5, 2) := by decide +kernel
theorem dX11_waysBy_65 : decode cX11_waysBy 65 = .ok (.if_icmp .ne 7, 3) := by decide +kernel
theorem dX11_waysBy_68 : decode cX11_waysBy 68 = .ok (.iconst 1, 1) := by decide +kernel
theorem dX11_waysBy_69 : decode cX11_waysBy 69 = .ok (.goto 4, 3) := by decide +kernel
theorem dX11_waysBy_72 : decode cX11_waysBy 72 = .ok (.iconst 0, 1) := by decide +kernel
theorem dX11_waysBy_73 : decode cX11_waysBy 73 = .ok (.istore 6, 2) := by decide +kernel
theorem dX11_waysBy_75 : decode cX11_waysBy 75 = .ok (.lload_n 2, 1) := by decide +kernel
theorem dX11_waysBy_76 : decode cX11_waysBy 76 = .ok (.iload 6, 2) := by decide +kernel
theorem dX11_waysBy_78 : decode cX11_waysBy 78 = .ok (.ifCond .eq 32, 3) := by decide +kernel
theorem dX11_waysBy_81 : decode cX11_waysBy 81 = .ok (.aload_n 0, 1) := by decide +kernel
theorem dX11_waysBy_82 : decode cX11_waysBy 82 = .ok (.aload_n 0, 1) := by decide +kernel
theorem dX11_waysBy_83 : decode cX11_waysBy 83 = .ok (.getfield 28, 3) := by decide +kernel
theorem dX11_waysBy_86 : decode cX11_waysBy 86 = .ok (.iconst 0, 1) := by decide +kernel
theorem dX11_waysBy_87 : decode cX11_waysBy 87 = .ok (.iaload, 1) := by decide +kernel
theorem dX11_waysBy_88 : decode cX11_waysBy 88 = .ok (.iload 4, 2) := by decide +kernel
theorem dX11_waysBy_90 : decode cX11_waysBy 90 = .ok (.invokevirtual 61, 3) := by decide +kernel
theorem dX11_waysBy_93 : decode cX11_waysBy 93 = .ok (.aload_n 0, 1) := by decide +kernel
theorem dX11_waysBy_94 : decode cX11_waysBy 94 = .ok (.aload_n 0, 1) := by decide +kernel
theorem dX11_waysBy_95 : decode cX11_waysBy 95 = .ok (.getfield 28, 3) := by decide +kernel
theorem dX11_waysBy_98 : decode cX11_waysBy 98 = .ok (.iconst 1, 1) := by decide +kernel
theorem dX11_waysBy_99 : decode cX11_waysBy 99 = .ok (.iaload, 1) := by decide +kernel
theorem dX11_waysBy_100 : decode cX11_waysBy 100 = .ok (.iload 5, 2) := by decide +kernel
theorem dX11_waysBy_102 : decode cX11_waysBy 102 = .ok (.invokevirtual 61, 3) := by decide +kernel
theorem dX11_waysBy_105 : decode cX11_waysBy 105 = .ok (.imul, 1) := by decide +kernel
theorem dX11_waysBy_106 : decode cX11_waysBy 106 = .ok (.i2l, 1) := by decide +kernel
theorem dX11_waysBy_107 : decode cX11_waysBy 107 = .ok (.goto 4, 3) := by decide +kernel
theorem dX11_waysBy_110 : decode cX11_waysBy 110 = .ok (.lconst 0, 1) := by decide +kernel
theorem dX11_waysBy_111 : decode cX11_waysBy 111 = .ok (.ladd, 1) := by decide +kernel
theorem dX11_waysBy_112 : decode cX11_waysBy 112 = .ok (.lstore_n 2, 1) := by decide +kernel
theorem dX11_waysBy_113 : decode cX11_waysBy 113 = .ok (.iinc 5 1, 3) := by decide +kernel
theorem dX11_waysBy_116 : decode cX11_waysBy 116 = .ok (.goto (-101), 3) := by decide +kernel
theorem dX11_waysBy_119 : decode cX11_waysBy 119 = .ok (.iinc 4 1, 3) := by decide +kernel
theorem dX11_waysBy_122 : decode cX11_waysBy 122 = .ok (.goto (-117), 3) := by decide +kernel
theorem dX11_waysBy_125 : decode cX11_waysBy 125 = .ok (.lload_n 2, 1) := by decide +kernel
theorem dX11_waysBy_126 : decode cX11_waysBy 126 = .ok (.lreturn, 1) := by decide +kernel
set_option maxRecDepth 20000 in
theorem ggX11_waysOfBoth_X11_allWays : GoodIn wsX11_waysOfBoth wsX11_allWays := goodIn_r _ [6, 7, 8, 9, 5, 10, 11, 12, 13, 14, 15, 16, 17, 18, 19, 20, 21, 22, 23, 24, 25, 26, 27, 28, 29, 30, 31, 32, 33, 34, 35, 36, 37, 38, 39, 40] (by decide +kernel) (by decide +kernel)
set_option maxRecDepth 20000 in
theorem gX11_waysOfBoth_X11_allWays : GoodIn wsX11_waysOfBoth (wsV RX11 130 RX11 yX11_allWays wsX11_allWays) := goodIn_app (goodIn_of _ (by decide +kernel)) ggX11_waysOfBoth_X11_allWays
theorem dX11_waysOfBoth_0 : decode cX11_waysOfBoth 0 = .ok (.aload_n 0, 1) := by decide +kernel
theorem dX11_waysOfBoth_1 : decode cX11_waysOfBoth 1 = .ok (.aload_n 0, 1) := by decide +kernel
theorem dX11_waysOfBoth_2 : decode cX11_waysOfBoth 2 = .ok (.getfield 28, 3) := by decide +kernel
theorem dX11_waysOfBoth_5 : decode cX11_waysOfBoth 5 = .ok (.iconst 0, 1) := by decide +kernel
theorem dX11_waysOfBoth_6 : decode cX11_waysOfBoth 6 = .ok (.iaload, 1) := by decide +kernel
theorem dX11_waysOfBoth_7 : decode cX11_waysOfBoth 7 = .ok (.invokevirtual 130, 3) := by decide +kernel
theorem dX11_waysOfBoth_10 : decode cX11_waysOfBoth 10 = .ok (.aload_n 0, 1) := by decide +kernel
theorem dX11_waysOfBoth_11 : decode cX11_waysOfBoth 11 = .ok (.aload_n 0, 1) := by decide +kernel
theorem dX11_waysOfBoth_12 : decode cX11_waysOfBoth 12 = .ok (.getfield 28, 3) := by decide +kernel
theorem dX11_waysOfBoth_15 : decode cX11_waysOfBoth 15 = .ok (.iconst 1, 1) := by decide +kernel
theorem dX11_waysOfBoth_16 : decode cX11_waysOfBoth 16 = .ok (.iaload, 1) := by decide +kernel
theorem dX11_waysOfBoth_17 : decode cX11_waysOfBoth 17 = .ok (.invokevirtual 130, 3) := by decide +kernel
theorem dX11_waysOfBoth_20 : decode cX11_waysOfBoth 20 = .ok (.imul, 1) := by decide +kernel
theorem dX11_waysOfBoth_21 : decode cX11_waysOfBoth 21 = .ok (.i2l, 1) := by decide +kernel
theorem dX11_waysOfBoth_22 : decode cX11_waysOfBoth 22 = .ok (.lreturn, 1) := by decide +kernel
set_option maxRecDepth 20000 in
theorem ggX11_oddsOf_X11_waysBy : GoodIn wsX11_oddsOf wsX11_waysBy := goodIn_r _ [5, 6, 7, 8, 9, 4, 10, 11, 12, 24, 25, 26, 27, 28, 29, 30, 31, 32, 33, 34, 35, 36, 37, 38, 39, 40, 41, 42, 43, 44, 45, 46, 47, 48, 49, 50, 51] (by decide +kernel) (by decide +kernel)
set_option maxRecDepth 20000 in
theorem gX11_oddsOf_X11_waysBy : GoodIn wsX11_oddsOf (wsV RX11 159 RX11 yX11_waysBy wsX11_waysBy) := goodIn_app (goodIn_of _ (by decide +kernel)) ggX11_oddsOf_X11_waysBy
set_option maxRecDepth 20000 in
theorem ggX11_oddsOf_X11_waysOfBoth : GoodIn wsX11_oddsOf wsX11_waysOfBoth := goodIn_r _ [16, 6, 17, 18, 19, 4, 20, 7, 8, 9, 10, 11, 12, 24, 25, 26, 27, 28, 29, 30, 31, 32, 33, 34, 35, 36, 37, 38, 39, 40, 41, 42, 43, 44, 45, 46, 47, 48, 49, 50, 51] (by decide +kernel) (by decide +kernel)
set_option maxRecDepth 20000 in
theorem gX11_oddsOf_X11_waysOfBoth : GoodIn wsX11_oddsOf (wsV RX11 163 RX11 yX11_waysOfBoth wsX11_waysOfBoth) := goodIn_app (goodIn_of _ (by decide +kernel)) ggX11_oddsOf_X11_waysOfBoth
set_option maxRecDepth 20000 in
theorem ggX11_oddsOf_X11_common : GoodIn wsX11_oddsOf wsX11_common := goodIn_r _ [23] (by decide +kernel) (by decide +kernel)
set_option maxRecDepth 20000 in
theorem gX11_oddsOf_X11_common : GoodIn wsX11_oddsOf (va_wsS RX11 167 yX11_common wsX11_common) := goodIn_app (goodIn_of _ (by decide +kernel)) ggX11_oddsOf_X11_common
theorem dX11_oddsOf_0 : decode cX11_oddsOf 0 = .ok (.aload_n 0, 1) := by decide +kernel
theorem dX11_oddsOf_1 : decode cX11_oddsOf 1 = .ok (.iload_n 1, 1) := by decide +kernel
theorem dX11_oddsOf_2 : decode cX11_oddsOf 2 = .ok (.iconst 2, 1) := by decide +kernel
theorem dX11_oddsOf_3 : decode cX11_oddsOf 3 = .ok (.idiv, 1) := by decide +kernel
theorem dX11_oddsOf_4 : decode cX11_oddsOf 4 = .ok (.invokevirtual 159, 3) := by decide +kernel
theorem dX11_oddsOf_7 : decode cX11_oddsOf 7 = .ok (.lstore_n 2, 1) := by decide +kernel
theorem dX11_oddsOf_8 : decode cX11_oddsOf 8 = .ok (.aload_n 0, 1) := by decide +kernel
theorem dX11_oddsOf_9 : decode cX11_oddsOf 9 = .ok (.invokevirtual 163, 3) := by decide +kernel
theorem dX11_oddsOf_12 : decode cX11_oddsOf 12 = .ok (.lload_n 2, 1) := by decide +kernel
theorem dX11_oddsOf_13 : decode cX11_oddsOf 13 = .ok (.invokestatic 167, 3) := by decide +kernel
theorem dX11_oddsOf_16 : decode cX11_oddsOf 16 = .ok (.lstore 4, 2) := by decide +kernel
theorem dX11_oddsOf_18 : decode cX11_oddsOf 18 = .ok (.iload_n 1, 1) := by decide +kernel
theorem dX11_oddsOf_19 : decode cX11_oddsOf 19 = .ok (.iconst 2, 1) := by decide +kernel
theorem dX11_oddsOf_20 : decode cX11_oddsOf 20 = .ok (.irem, 1) := by decide +kernel
theorem dX11_oddsOf_21 : decode cX11_oddsOf 21 = .ok (.ifCond .ne 10, 3) := by decide +kernel
theorem dX11_oddsOf_24 : decode cX11_oddsOf 24 = .ok (.lload_n 2, 1) := by decide +kernel
theorem dX11_oddsOf_25 : decode cX11_oddsOf 25 = .ok (.lload 4, 2) := by decide +kernel
theorem dX11_oddsOf_27 : decode cX11_oddsOf 27 = .ok (.ldiv, 1) := by decide +kernel
theorem dX11_oddsOf_28 : decode cX11_oddsOf 28 = .ok (.goto 10, 3) := by decide +kernel
theorem dX11_oddsOf_31 : decode cX11_oddsOf 31 = .ok (.aload_n 0, 1) := by decide +kernel
theorem dX11_oddsOf_32 : decode cX11_oddsOf 32 = .ok (.invokevirtual 163, 3) := by decide +kernel
theorem dX11_oddsOf_35 : decode cX11_oddsOf 35 = .ok (.lload 4, 2) := by decide +kernel
theorem dX11_oddsOf_37 : decode cX11_oddsOf 37 = .ok (.ldiv, 1) := by decide +kernel
theorem dX11_oddsOf_38 : decode cX11_oddsOf 38 = .ok (.l2i, 1) := by decide +kernel
theorem dX11_oddsOf_39 : decode cX11_oddsOf 39 = .ok (.ireturn, 1) := by decide +kernel
set_option maxRecDepth 20000 in
theorem ggX11_odds_X11_in : GoodIn wsX11_odds wsX11_in := goodIn_r _ [5] (by decide +kernel) (by decide +kernel)
set_option maxRecDepth 20000 in
theorem gX11_odds_X11_in : GoodIn wsX11_odds (va_wsS RX11 67 yX11_in wsX11_in) := goodIn_app (goodIn_of _ (by decide +kernel)) ggX11_odds_X11_in
set_option maxRecDepth 20000 in
theorem ggX11_odds_X11_lacks : GoodIn wsX11_odds wsX11_lacks := goodIn_r _ [9, 10, 37, 38, 39, 40, 41, 42, 43, 44, 45, 46, 47, 48, 49, 50, 51, 52, 53, 54, 55, 56, 57, 58, 59, 60, 61, 62, 63, 64] (by decide +kernel) (by decide +kernel)
set_option maxRecDepth 20000 in
theorem gX11_odds_X11_lacks : GoodIn wsX11_odds (wsV RX11 121 RX11 yX11_lacks wsX11_lacks) := goodIn_app (goodIn_of _ (by decide +kernel)) ggX11_odds_X11_lacks
set_option maxRecDepth 20000 in
theorem ggX11_odds_X11_oddsOf : GoodIn wsX11_odds wsX11_oddsOf := goodIn_r _ [14, 15, 16, 17, 4, 18, 19, 20, 21, 22, 23, 24, 25, 26, 27, 28, 29, 30, 31, 32, 33, 34, 35, 36, 37, 38, 39, 40, 41, 42, 43, 44, 45, 46, 47, 48, 49, 50, 51, 52, 53, 54, 55, 56, 57, 58, 59, 60, 61, 62, 63, 64] (by decide +kernel) (by decide +kernel)
set_option maxRecDepth 20000 in
theorem gX11_odds_X11_oddsOf : GoodIn wsX11_odds (wsV RX11 171 RX11 yX11_oddsOf wsX11_oddsOf) := goodIn_app (goodIn_of _ (by decide +kernel)) ggX11_odds_X11_oddsOf
theorem dX11_odds_0 : decode cX11_odds 0 = .ok (.iload_n 1, 1) := by decide +kernel
theorem dX11_odds_1 : decode cX11_odds 1 = .ok (.i2l, 1) := by decide +kernel
theorem dX11_odds_2 : decode cX11_odds 2 = .ok (.lconst 0, 1) := by decide +kernel
theorem dX11_odds_3 : decode cX11_odds 3 = .ok (.ldc2_w 128, 3) := by decide +kernel
theorem dX11_odds_6 : decode cX11_odds 6 = .ok (.invokestatic 67, 3) := by decide +kernel
theorem dX11_odds_9 : decode cX11_odds 9 = .ok (.ifCond .ne 6, 3) := by decide +kernel
theorem dX11_odds_12 : decode cX11_odds 12 = .ok (.bipush (-102), 2) := by decide +kernel
theorem dX11_odds_14 : decode cX11_odds 14 = .ok (.ireturn, 1) := by decide +kernel
theorem dX11_odds_15 : decode cX11_odds 15 = .ok (.aload_n 0, 1) := by decide +kernel
theorem dX11_odds_16 : decode cX11_odds 16 = .ok (.invokevirtual 121, 3) := by decide +kernel
theorem dX11_odds_19 : decode cX11_odds 19 = .ok (.ifCond .eq 8, 3) := by decide +kernel
theorem dX11_odds_22 : decode cX11_odds 22 = .ok (.bipush (-103), 2) := by decide +kernel
theorem dX11_odds_24 : decode cX11_odds 24 = .ok (.goto 8, 3) := by decide +kernel
theorem dX11_odds_27 : decode cX11_odds 27 = .ok (.aload_n 0, 1) := by decide +kernel
theorem dX11_odds_28 : decode cX11_odds 28 = .ok (.iload_n 1, 1) := by decide +kernel
theorem dX11_odds_29 : decode cX11_odds 29 = .ok (.invokevirtual 171, 3) := by decide +kernel
theorem dX11_odds_32 : decode cX11_odds 32 = .ok (.ireturn, 1) := by decide +kernel
set_option maxRecDepth 20000 in
theorem ggX11_backOf_X11_isKings : GoodIn wsX11_backOf wsX11_isKings := goodIn_r _ [9, 2, 32, 33, 34, 35, 36, 37, 38, 39, 40, 41, 42, 43, 44, 45, 46, 47, 48, 49, 50, 51, 52, 53, 54, 55, 56, 57, 58, 59] (by decide +kernel) (by decide +kernel)
set_option maxRecDepth 20000 in
theorem gX11_backOf_X11_isKings : GoodIn wsX11_backOf (wsV RX11 145 RX11 yX11_isKings wsX11_isKings) := goodIn_app (goodIn_of _ (by decide +kernel)) ggX11_backOf_X11_isKings
set_option maxRecDepth 20000 in
theorem ggX11_backOf_X11_waysBy : GoodIn wsX11_backOf wsX11_waysBy := goodIn_r _ [13, 14, 15, 16, 17, 8, 18, 19, 20, 32, 33, 34, 35, 36, 37, 38, 39, 40, 41, 42, 43, 44, 45, 46, 47, 48, 49, 50, 51, 52, 53, 54, 55, 56, 57, 58, 59] (by decide +kernel) (by decide +kernel)
set_option maxRecDepth 20000 in
theorem gX11_backOf_X11_waysBy : GoodIn wsX11_backOf (wsV RX11 159 RX11 yX11_waysBy wsX11_waysBy) := goodIn_app (goodIn_of _ (by decide +kernel)) ggX11_backOf_X11_waysBy
set_option maxRecDepth 20000 in
theorem ggX11_backOf_X11_waysOfBoth : GoodIn wsX11_backOf wsX11_waysOfBoth := goodIn_r _ [24, 14, 25, 26, 27, 8, 28, 15, 16, 17, 18, 19, 20, 32, 33, 34, 35, 36, 37, 38, 39, 40, 41, 42, 43, 44, 45, 46, 47, 48, 49, 50, 51, 52, 53, 54, 55, 56, 57, 58, 59] (by decide +kernel) (by decide +kernel)
set_option maxRecDepth 20000 in
theorem gX11_backOf_X11_waysOfBoth : GoodIn wsX11_backOf (wsV RX11 163 RX11 yX11_waysOfBoth wsX11_waysOfBoth) := goodIn_app (goodIn_of _ (by decide +kernel)) ggX11_backOf_X11_waysOfBoth
set_option maxRecDepth 20000 in
theorem ggX11_backOf_X11_common : GoodIn wsX11_backOf wsX11_common := goodIn_r _ [31] (by decide +kernel) (by decide +kernel)
set_option maxRecDepth 20000 in
theorem gX11_backOf_X11_common : GoodIn wsX11_backOf (va_wsS RX11 167 yX11_common wsX11_common) := goodIn_app (goodIn_of _ (by decide +kernel)) ggX11_backOf_X11_common
theorem dX11_backOf_0 : decode cX11_backOf 0 = .ok (.iconst 0, 1) := by decide +kernel
theorem dX11_backOf_1 : decode cX11_backOf 1 = .ok (.istore 4, 2) := by decide +kernel
theorem dX11_backOf_3 : decode cX11_backOf 3 = .ok (.iconst 0, 1) := by decide +kernel
theorem dX11_backOf_4 : decode cX11_backOf 4 = .ok (.istore 5, 2) := by decide +kernel
theorem dX11_backOf_6 : decode cX11_backOf 6 = .ok (.iload 5, 2) := by decide +kernel
theorem dX11_backOf_8 : decode cX11_backOf 8 = .ok (.aload_n 0, 1) := by decide +kernel
theorem dX11_backOf_9 : decode cX11_backOf 9 = .ok (.getfield 102, 3) := by decide +kernel
theorem dX11_backOf_12 : decode cX11_backOf 12 = .ok (.if_icmp .ge 54, 3) := by decide +kernel
theorem dX11_backOf_15 : decode cX11_backOf 15 = .ok (.iload 4, 2) := by decide +kernel
theorem dX11_backOf_17 : decode cX11_backOf 17 = .ok (.aload_n 0, 1) := by decide +kernel
theorem dX11_backOf_18 : decode cX11_backOf 18 = .ok (.iload 5, 2) := by decide +kernel
theorem dX11_backOf_20 : decode cX11_backOf 20 = .ok (.invokevirtual 145, 3) := by decide +kernel
theorem dX11_backOf_23 : decode cX11_backOf 23 = .ok (.ifCond .eq 33, 3) := by decide +kernel
theorem dX11_backOf_26 : decode cX11_backOf 26 = .ok (.aload_n 0, 1) := by decide +kernel
theorem dX11_backOf_27 : decode cX11_backOf 27 = .ok (.getfield 25, 3) := by decide +kernel
theorem dX11_backOf_30 : decode cX11_backOf 30 = .ok (.bipush 6, 2) := by decide +kernel
theorem dX11_backOf_32 : decode cX11_backOf 32 = .ok (.iload 5, 2) := by decide +kernel
theorem dX11_backOf_34 : decode cX11_backOf 34 = .ok (.imul, 1) := by decide +kernel
theorem dX11_backOf_35 : decode cX11_backOf 35 = .ok (.iconst 1, 1) := by decide +kernel
theorem dX11_backOf_36 : decode cX11_backOf 36 = .ok (.iadd, 1) := by decide +kernel
theorem dX11_backOf_37 : decode cX11_backOf 37 = .ok (.iaload, 1) := by decide +kernel
theorem dX11_backOf_38 : decode cX11_backOf 38 = .ok (.aload_n 0, 1) := by decide +kernel
theorem dX11_backOf_39 : decode cX11_backOf 39 = .ok (.getfield 25, 3) := by decide +kernel
theorem dX11_backOf_42 : decode cX11_backOf 42 = .ok (.bipush 6, 2) := by decide +kernel
theorem dX11_backOf_44 : decode cX11_backOf 44 = .ok (.iload_n 1, 1) := by decide +kernel
theorem dX11_backOf_45 : decode cX11_backOf 45 = .ok (.imul, 1) := by decide +kernel
theorem dX11_backOf_46 : decode cX11_backOf 46 = .ok (.iconst 1, 1) := by decide +kernel
theorem dX11_backOf_47 : decode cX11_backOf 47 = .ok (.iadd, 1) := by decide +kernel
theorem dX11_backOf_48 : decode cX11_backOf 48 = .ok (.iaload, 1) := by decide +kernel
theorem dX11_backOf_49 : decode cX11_backOf 49 = .ok (.if_icmp .lt 7, 3) := by decide +kernel
theorem dX11_backOf_52 : decode cX11_backOf 52 = .ok (.iconst 1, 1) := by decide +kernel
theorem dX11_backOf_53 : decode cX11_backOf 53 = .ok (.goto 4, 3) := by decide +kernel
theorem dX11_backOf_56 : decode cX11_backOf 56 = .ok (.iconst 0, 1) := by decide +kernel
theorem dX11_backOf_57 : decode cX11_backOf 57 = .ok (.iadd, 1) := by decide +kernel
theorem dX11_backOf_58 : decode cX11_backOf 58 = .ok (.istore 4, 2) := by decide +kernel
theorem dX11_backOf_60 : decode cX11_backOf 60 = .ok (.iinc 5 1, 3) := by decide +kernel
theorem dX11_backOf_63 : decode cX11_backOf 63 = .ok (.goto (-57), 3) := by decide +kernel
theorem dX11_backOf_66 : decode cX11_backOf 66 = .ok (.lconst 1, 1) := by decide +kernel
theorem dX11_backOf_67 : decode cX11_backOf 67 = .ok (.lstore 5, 2) := by decide +kernel
theorem dX11_backOf_69 : decode cX11_backOf 69 = .ok (.iconst 0, 1) := by decide +kernel
theorem dX11_backOf_70 : decode cX11_backOf 70 = .ok (.istore 7, 2) := by decide +kernel
theorem dX11_backOf_72 : decode cX11_backOf 72 = .ok (.iload 7, 2) := by decide +kernel
theorem dX11_backOf_74 : decode cX11_backOf 74 = .ok (.bipush 7, 2) := by decide +kernel
theorem dX11_backOf_76 : decode cX11_backOf 76 = .ok (.if_icmp .ge 17, 3) := by decide +kernel
theorem dX11_backOf_79 : decode cX11_backOf 79 = .ok (.aload_n 0, 1) := by decide +kernel
theorem dX11_backOf_80 : decode cX11_backOf 80 = .ok (.getfield 31, 3) := by decide +kernel
theorem dX11_backOf_83 : decode cX11_backOf 83 = .ok (.iload 7, 2) := by decide +kernel
theorem dX11_backOf_85 : decode cX11_backOf 85 = .ok (.lconst 0, 1) := by decide +kernel
theorem dX11_backOf_86 : decode cX11_backOf 86 = .ok (.lastore, 1) := by decide +kernel
theorem dX11_backOf_87 : decode cX11_backOf 87 = .ok (.iinc 7 1, 3) := by decide +kernel
theorem dX11_backOf_90 : decode cX11_backOf 90 = .ok (.goto (-18), 3) := by decide +kernel
theorem dX11_backOf_93 : decode cX11_backOf 93 = .ok (.iconst 0, 1) := by decide +kernel
theorem dX11_backOf_94 : decode cX11_backOf 94 = .ok (.istore 7, 2) := by decide +kernel
theorem dX11_backOf_96 : decode cX11_backOf 96 = .ok (.iload 7, 2) := by decide +kernel
theorem dX11_backOf_98 : decode cX11_backOf 98 = .ok (.iload_n 2, 1) := by decide +kernel
theorem dX11_backOf_99 : decode cX11_backOf 99 = .ok (.if_icmp .ge 116, 3) := by decide +kernel
theorem dX11_backOf_102 : decode cX11_backOf 102 = .ok (.aload_n 0, 1) := by decide +kernel
theorem dX11_backOf_103 : decode cX11_backOf 103 = .ok (.getfield 35, 3) := by decide +kernel
theorem dX11_backOf_106 : decode cX11_backOf 106 = .ok (.iconst 0, 1) := by decide +kernel
theorem dX11_backOf_107 : decode cX11_backOf 107 = .ok (.lconst 0, 1) := by decide +kernel
theorem dX11_backOf_108 : decode cX11_backOf 108 = .ok (.lastore, 1) := by decide +kernel
theorem dX11_backOf_109 : decode cX11_backOf 109 = .ok (.iconst 1, 1) := by decide +kernel
theorem dX11_backOf_110 : decode cX11_backOf 110 = .ok (.istore 8, 2) := by decide +kernel
theorem dX11_backOf_112 : decode cX11_backOf 112 = .ok (.iload 8, 2) := by decide +kernel
theorem dX11_backOf_114 : decode cX11_backOf 114 = .ok (.bipush 7, 2) := by decide +kernel
theorem dX11_backOf_116 : decode cX11_backOf 116 = .ok (.if_icmp .ge 54, 3) := by decide +kernel
theorem dX11_backOf_119 : decode cX11_backOf 119 = .ok (.aload_n 0, 1) := by decide +kernel
theorem dX11_backOf_120 : decode cX11_backOf 120 = .ok (.getfield 35, 3) := by decide +kernel
theorem dX11_backOf_123 : decode cX11_backOf 123 = .ok (.iload 8, 2) := by decide +kernel
theorem dX11_backOf_125 : decode cX11_backOf 125 = .ok (.aload_n 0, 1) := by decide +kernel
theorem dX11_backOf_126 : decode cX11_backOf 126 = .ok (.iconst 0, 1) := by decide +kernel
theorem dX11_backOf_127 : decode cX11_backOf 127 = .ok (.invokevirtual 159, 3) := by decide +kernel
theorem dX11_backOf_130 : decode cX11_backOf 130 = .ok (.lload 5, 2) := by decide +kernel
theorem dX11_backOf_132 : decode cX11_backOf 132 = .ok (.lmul, 1) := by decide +kernel
theorem dX11_backOf_133 : decode cX11_backOf 133 = .ok (.aload_n 0, 1) := by decide +kernel
theorem dX11_backOf_134 : decode cX11_backOf 134 = .ok (.iconst 2, 1) := by decide +kernel
theorem dX11_backOf_135 : decode cX11_backOf 135 = .ok (.invokevirtual 159, 3) := by decide +kernel
theorem dX11_backOf_138 : decode cX11_backOf 138 = .ok (.aload_n 0, 1) := by decide +kernel
theorem dX11_backOf_139 : decode cX11_backOf 139 = .ok (.getfield 31, 3) := by decide +kernel
theorem dX11_backOf_142 : decode cX11_backOf 142 = .ok (.iload 8, 2) := by decide +kernel
theorem dX11_backOf_144 : decode cX11_backOf 144 = .ok (.laload, 1) := by decide +kernel
theorem dX11_backOf_145 : decode cX11_backOf 145 = .ok (.lmul, 1) := by decide +kernel
theorem dX11_backOf_146 : decode cX11_backOf 146 = .ok (.ladd, 1) := by decide +kernel
theorem dX11_backOf_147 : decode cX11_backOf 147 = .ok (.aload_n 0, 1) := by decide +kernel
theorem dX11_backOf_148 : decode cX11_backOf 148 = .ok (.iconst 1, 1) := by decide +kernel
theorem dX11_backOf_149 : decode cX11_backOf 149 = .ok (.invokevirtual 159, 3) := by decide +kernel
theorem dX11_backOf_152 : decode cX11_backOf 152 = .ok (.aload_n 0, 1) := by decide +kernel
theorem dX11_backOf_153 : decode cX11_backOf 153 = .ok (.getfield 31, 3) := by decide +kernel
theorem dX11_backOf_156 : decode cX11_backOf 156 = .ok (.iload 8, 2) := by decide +kernel
theorem dX11_backOf_158 : decode cX11_backOf 158 = .ok (.iconst 1, 1) := by decide +kernel
theorem dX11_backOf_159 : decode cX11_backOf 159 = .ok (.isub, 1) := by decide +kernel
theorem dX11_backOf_160 : decode cX11_backOf 160 = .ok (.laload, 1) := by decide +kernel
theorem dX11_backOf_161 : decode cX11_backOf 161 = .ok (.lmul, 1) := by decide +kernel
theorem dX11_backOf_162 : decode cX11_backOf 162 = .ok (.ladd, 1) := by decide +kernel
theorem dX11_backOf_163 : decode cX11_backOf 163 = .ok (.lastore, 1) := by decide +kernel
theorem dX11_backOf_164 : decode cX11_backOf 164 = .ok (.iinc 8 1, 3) := by decide +kernel
theorem dX11_backOf_167 : decode cX11_backOf 167 = .ok (.goto (-55), 3) := by decide +kernel
theorem dX11_backOf_170 : decode cX11_backOf 170 = .ok (.iconst 0, 1) := by decide +kernel
theorem dX11_backOf_171 : decode cX11_backOf 171 = .ok (.istore 8, 2) := by decide +kernel
theorem dX11_backOf_173 : decode cX11_backOf 173 = .ok (.iload 8, 2) := by decide +kernel
theorem dX11_backOf_175 : decode cX11_backOf 175 = .ok (.bipush 7, 2) := by decide +kernel
theorem dX11_backOf_177 : decode cX11_backOf 177 = .ok (.if_icmp .ge 23, 3) := by decide +kernel
theorem dX11_backOf_180 : decode cX11_backOf 180 = .ok (.aload_n 0, 1) := by decide +kernel
theorem dX11_backOf_181 : decode cX11_backOf 181 = .ok (.getfield 31, 3) := by decide +kernel
theorem dX11_backOf_184 : decode cX11_backOf 184 = .ok (.iload 8, 2) := by decide +kernel
theorem dX11_backOf_186 : decode cX11_backOf 186 = .ok (.aload_n 0, 1) := by decide +kernel
theorem dX11_backOf_187 : decode cX11_backOf 187 = .ok (.getfield 35, 3) := by decide +kernel
theorem dX11_backOf_190 : decode cX11_backOf 190 = .ok (.iload 8, 2) := by decide +kernel
theorem dX11_backOf_192 : decode cX11_backOf 192 = .ok (.laload, 1) := by decide +kernel
theorem dX11_backOf_193 : decode cX11_backOf 193 = .ok (.lastore, 1) := by decide +kernel
theorem dX11_backOf_194 : decode cX11_backOf 194 = .ok (.iinc 8 1, 3) := by decide +kernel
theorem dX11_backOf_197 : decode cX11_backOf 197 = .ok (.goto (-24), 3) := by decide +kernel
theorem dX11_backOf_200 : decode cX11_backOf 200 = .ok (.lload 5, 2) := by decide +kernel
theorem dX11_backOf_202 : decode cX11_backOf 202 = .ok (.aload_n 0, 1) := by decide +kernel
theorem dX11_backOf_203 : decode cX11_backOf 203 = .ok (.invokevirtual 163, 3) := by decide +kernel
theorem dX11_backOf_206 : decode cX11_backOf 206 = .ok (.lmul, 1) := by decide +kernel
theorem dX11_backOf_207 : decode cX11_backOf 207 = .ok (.lstore 5, 2) := by decide +kernel
theorem dX11_backOf_209 : decode cX11_backOf 209 = .ok (.iinc 7 1, 3) := by decide +kernel
theorem dX11_backOf_212 : decode cX11_backOf 212 = .ok (.goto (-116), 3) := by decide +kernel
theorem dX11_backOf_215 : decode cX11_backOf 215 = .ok (.lload 5, 2) := by decide +kernel
theorem dX11_backOf_217 : decode cX11_backOf 217 = .ok (.aload_n 0, 1) := by decide +kernel
theorem dX11_backOf_218 : decode cX11_backOf 218 = .ok (.getfield 31, 3) := by decide +kernel
theorem dX11_backOf_221 : decode cX11_backOf 221 = .ok (.iload 4, 2) := by decide +kernel
theorem dX11_backOf_223 : decode cX11_backOf 223 = .ok (.laload, 1) := by decide +kernel
theorem dX11_backOf_224 : decode cX11_backOf 224 = .ok (.invokestatic 167, 3) := by decide +kernel
theorem dX11_backOf_227 : decode cX11_backOf 227 = .ok (.lstore 7, 2) := by decide +kernel
theorem dX11_backOf_229 : decode cX11_backOf 229 = .ok (.iload_n 3, 1) := by decide +kernel
theorem dX11_backOf_230 : decode cX11_backOf 230 = .ok (.ifCond .ne 16, 3) := by decide +kernel
theorem dX11_backOf_233 : decode cX11_backOf 233 = .ok (.aload_n 0, 1) := by decide +kernel
theorem dX11_backOf_234 : decode cX11_backOf 234 = .ok (.getfield 31, 3) := by decide +kernel
theorem dX11_backOf_237 : decode cX11_backOf 237 = .ok (.iload 4, 2) := by decide +kernel
theorem dX11_backOf_239 : decode cX11_backOf 239 = .ok (.laload, 1) := by decide +kernel
theorem dX11_backOf_240 : decode cX11_backOf 240 = .ok (.lload 7, 2) := by decide +kernel
theorem dX11_backOf_242 : decode cX11_backOf 242 = .ok (.ldiv, 1) := by decide +kernel
theorem dX11_backOf_243 : decode cX11_backOf 243 = .ok (.goto 8, 3) := by decide +kernel
theorem dX11_backOf_246 : decode cX11_backOf 246 = .ok (.lload 5, 2) := by decide +kernel
theorem dX11_backOf_248 : decode cX11_backOf 248 = .ok (.lload 7, 2) := by decide +kernel
theorem dX11_backOf_250 : decode cX11_backOf 250 = .ok (.ldiv, 1) := by decide +kernel
theorem dX11_backOf_251 : decode cX11_backOf 251 = .ok (.lreturn, 1) := by decide +kernel
set_option maxRecDepth 20000 in
theorem ggX11_back_X11_isThing : GoodIn wsX11_back wsX11_isThing := goodIn_r _ [9, 10, 11, 12, 8, 13, 47, 48, 49, 50, 51, 52, 53, 54, 55, 56, 57, 58, 59, 60, 61, 62, 63, 64, 65, 66, 67, 68, 69, 70, 71, 72, 73, 74] (by decide +kernel) (by decide +kernel)
set_option maxRecDepth 20000 in
theorem gX11_back_X11_isThing : GoodIn wsX11_back (wsV RX11 125 RX11 yX11_isThing wsX11_isThing) := goodIn_app (goodIn_of _ (by decide +kernel)) ggX11_back_X11_isThing
set_option maxRecDepth 20000 in
theorem ggX11_back_X11_in : GoodIn wsX11_back wsX11_in := goodIn_r _ [13] (by decide +kernel) (by decide +kernel)
set_option maxRecDepth 20000 in
theorem gX11_back_X11_in : GoodIn wsX11_back (va_wsS RX11 67 yX11_in wsX11_in) := goodIn_app (goodIn_of _ (by decide +kernel)) ggX11_back_X11_in
set_option maxRecDepth 20000 in
theorem ggX11_back_X11_isKings : GoodIn wsX11_back wsX11_isKings := goodIn_r _ [17, 18, 47, 48, 49, 50, 51, 52, 53, 54, 55, 56, 57, 58, 59, 60, 61, 62, 63, 64, 65, 66, 67, 68, 69, 70, 71, 72, 73, 74] (by decide +kernel) (by decide +kernel)
set_option maxRecDepth 20000 in
theorem gX11_back_X11_isKings : GoodIn wsX11_back (wsV RX11 145 RX11 yX11_isKings wsX11_isKings) := goodIn_app (goodIn_of _ (by decide +kernel)) ggX11_back_X11_isKings
set_option maxRecDepth 20000 in
theorem ggX11_back_X11_backOf : GoodIn wsX11_back wsX11_backOf := goodIn_r _ [22, 10, 18, 23, 24, 14, 15, 16, 8, 17, 25, 26, 27, 28, 29, 30, 31, 32, 33, 34, 35, 36, 37, 38, 39, 40, 41, 42, 43, 44, 45, 46, 47, 48, 49, 50, 51, 52, 53, 54, 55, 56, 57, 58, 59, 60, 61, 62, 63, 64, 65, 66, 67, 68, 69, 70, 71, 72, 73, 74] (by decide +kernel) (by decide +kernel)
set_option maxRecDepth 20000 in
theorem gX11_back_X11_backOf : GoodIn wsX11_back (wsV RX11 180 RX11 yX11_backOf wsX11_backOf) := goodIn_app (goodIn_of _ (by decide +kernel)) ggX11_back_X11_backOf
theorem dX11_back_0 : decode cX11_back 0 = .ok (.aload_n 0, 1) := by decide +kernel
theorem dX11_back_1 : decode cX11_back 1 = .ok (.iload_n 1, 1) := by decide +kernel
theorem dX11_back_2 : decode cX11_back 2 = .ok (.invokevirtual 125, 3) := by decide +kernel
theorem dX11_back_5 : decode cX11_back 5 = .ok (.ifCond .ne 7, 3) := by decide +kernel
theorem dX11_back_8 : decode cX11_back 8 = .ok (.ldc2_w 174, 3) := by decide +kernel
theorem dX11_back_11 : decode cX11_back 11 = .ok (.lreturn, 1) := by decide +kernel
theorem dX11_back_12 : decode cX11_back 12 = .ok (.iload_n 2, 1) := by decide +kernel
theorem dX11_back_13 : decode cX11_back 13 = .ok (.i2l, 1) := by decide +kernel
theorem dX11_back_14 : decode cX11_back 14 = .ok (.lconst 1, 1) := by decide +kernel
theorem dX11_back_15 : decode cX11_back 15 = .ok (.ldc2_w 128, 3) := by decide +kernel
theorem dX11_back_18 : decode cX11_back 18 = .ok (.invokestatic 67, 3) := by decide +kernel
theorem dX11_back_21 : decode cX11_back 21 = .ok (.ifCond .eq 13, 3) := by decide +kernel
theorem dX11_back_24 : decode cX11_back 24 = .ok (.iload_n 3, 1) := by decide +kernel
theorem dX11_back_25 : decode cX11_back 25 = .ok (.i2l, 1) := by decide +kernel
theorem dX11_back_26 : decode cX11_back 26 = .ok (.lconst 0, 1) := by decide +kernel
theorem dX11_back_27 : decode cX11_back 27 = .ok (.lconst 1, 1) := by decide +kernel
theorem dX11_back_28 : decode cX11_back 28 = .ok (.invokestatic 67, 3) := by decide +kernel
theorem dX11_back_31 : decode cX11_back 31 = .ok (.ifCond .ne 7, 3) := by decide +kernel
theorem dX11_back_34 : decode cX11_back 34 = .ok (.ldc2_w 176, 3) := by decide +kernel
theorem dX11_back_37 : decode cX11_back 37 = .ok (.lreturn, 1) := by decide +kernel
theorem dX11_back_38 : decode cX11_back 38 = .ok (.aload_n 0, 1) := by decide +kernel
theorem dX11_back_39 : decode cX11_back 39 = .ok (.iload_n 1, 1) := by decide +kernel
theorem dX11_back_40 : decode cX11_back 40 = .ok (.invokevirtual 145, 3) := by decide +kernel
theorem dX11_back_43 : decode cX11_back 43 = .ok (.ifCond .eq 9, 3) := by decide +kernel
theorem dX11_back_46 : decode cX11_back 46 = .ok (.ldc2_w 178, 3) := by decide +kernel
theorem dX11_back_49 : decode cX11_back 49 = .ok (.goto 10, 3) := by decide +kernel
theorem dX11_back_52 : decode cX11_back 52 = .ok (.aload_n 0, 1) := by decide +kernel
theorem dX11_back_53 : decode cX11_back 53 = .ok (.iload_n 1, 1) := by decide +kernel
theorem dX11_back_54 : decode cX11_back 54 = .ok (.iload_n 2, 1) := by decide +kernel
theorem dX11_back_55 : decode cX11_back 55 = .ok (.iload_n 3, 1) := by decide +kernel
theorem dX11_back_56 : decode cX11_back 56 = .ok (.invokevirtual 180, 3) := by decide +kernel
theorem dX11_back_59 : decode cX11_back 59 = .ok (.lreturn, 1) := by decide +kernel
set_option maxRecDepth 20000 in
theorem ggX11_isByLaw_X11_isKings : GoodIn wsX11_isByLaw wsX11_isKings := goodIn_r _ [6, 1, 7, 8, 9, 10, 11, 12, 13, 14, 15, 16, 17, 18, 19, 20, 21, 22, 23, 24, 25, 26, 27, 28, 29, 30, 31, 32, 33, 34] (by decide +kernel) (by decide +kernel)
set_option maxRecDepth 20000 in
theorem gX11_isByLaw_X11_isKings : GoodIn wsX11_isByLaw (wsV RX11 145 RX11 yX11_isKings wsX11_isKings) := goodIn_app (goodIn_of _ (by decide +kernel)) ggX11_isByLaw_X11_isKings
theorem dX11_isByLaw_0 : decode cX11_isByLaw 0 = .ok (.aload_n 0, 1) := by decide +kernel
theorem dX11_isByLaw_1 : decode cX11_isByLaw 1 = .ok (.getfield 25, 3) := by decide +kernel
theorem dX11_isByLaw_4 : decode cX11_isByLaw 4 = .ok (.bipush 6, 2) := by decide +kernel
theorem dX11_isByLaw_6 : decode cX11_isByLaw 6 = .ok (.iload_n 1, 1) := by decide +kernel
theorem dX11_isByLaw_7 : decode cX11_isByLaw 7 = .ok (.imul, 1) := by decide +kernel
theorem dX11_isByLaw_8 : decode cX11_isByLaw 8 = .ok (.iconst 4, 1) := by decide +kernel
theorem dX11_isByLaw_9 : decode cX11_isByLaw 9 = .ok (.iadd, 1) := by decide +kernel
theorem dX11_isByLaw_10 : decode cX11_isByLaw 10 = .ok (.iaload, 1) := by decide +kernel
theorem dX11_isByLaw_11 : decode cX11_isByLaw 11 = .ok (.ifCond .ne 14, 3) := by decide +kernel
theorem dX11_isByLaw_14 : decode cX11_isByLaw 14 = .ok (.iload_n 2, 1) := by decide +kernel
theorem dX11_isByLaw_15 : decode cX11_isByLaw 15 = .ok (.iconst 2, 1) := by decide +kernel
theorem dX11_isByLaw_16 : decode cX11_isByLaw 16 = .ok (.irem, 1) := by decide +kernel
theorem dX11_isByLaw_17 : decode cX11_isByLaw 17 = .ok (.iconst 1, 1) := by decide +kernel
theorem dX11_isByLaw_18 : decode cX11_isByLaw 18 = .ok (.if_icmp .ne 7, 3) := by decide +kernel
theorem dX11_isByLaw_21 : decode cX11_isByLaw 21 = .ok (.iconst 1, 1) := by decide +kernel
theorem dX11_isByLaw_22 : decode cX11_isByLaw 22 = .ok (.goto 4, 3) := by decide +kernel
theorem dX11_isByLaw_25 : decode cX11_isByLaw 25 = .ok (.iconst 0, 1) := by decide +kernel
theorem dX11_isByLaw_26 : decode cX11_isByLaw 26 = .ok (.istore_n 3, 1) := by decide +kernel
theorem dX11_isByLaw_27 : decode cX11_isByLaw 27 = .ok (.aload_n 0, 1) := by decide +kernel
theorem dX11_isByLaw_28 : decode cX11_isByLaw 28 = .ok (.getfield 25, 3) := by decide +kernel
theorem dX11_isByLaw_31 : decode cX11_isByLaw 31 = .ok (.bipush 6, 2) := by decide +kernel
theorem dX11_isByLaw_33 : decode cX11_isByLaw 33 = .ok (.iload_n 1, 1) := by decide +kernel
theorem dX11_isByLaw_34 : decode cX11_isByLaw 34 = .ok (.imul, 1) := by decide +kernel
theorem dX11_isByLaw_35 : decode cX11_isByLaw 35 = .ok (.iaload, 1) := by decide +kernel
theorem dX11_isByLaw_36 : decode cX11_isByLaw 36 = .ok (.iconst 1, 1) := by decide +kernel
theorem dX11_isByLaw_37 : decode cX11_isByLaw 37 = .ok (.if_icmp .ne 12, 3) := by decide +kernel
theorem dX11_isByLaw_40 : decode cX11_isByLaw 40 = .ok (.iload_n 2, 1) := by decide +kernel
theorem dX11_isByLaw_41 : decode cX11_isByLaw 41 = .ok (.iconst 1, 1) := by decide +kernel
theorem dX11_isByLaw_42 : decode cX11_isByLaw 42 = .ok (.if_icmp .le 7, 3) := by decide +kernel
theorem dX11_isByLaw_45 : decode cX11_isByLaw 45 = .ok (.iconst 1, 1) := by decide +kernel
theorem dX11_isByLaw_46 : decode cX11_isByLaw 46 = .ok (.goto 4, 3) := by decide +kernel
theorem dX11_isByLaw_49 : decode cX11_isByLaw 49 = .ok (.iconst 0, 1) := by decide +kernel
theorem dX11_isByLaw_50 : decode cX11_isByLaw 50 = .ok (.istore 4, 2) := by decide +kernel
theorem dX11_isByLaw_52 : decode cX11_isByLaw 52 = .ok (.aload_n 0, 1) := by decide +kernel
theorem dX11_isByLaw_53 : decode cX11_isByLaw 53 = .ok (.iload_n 1, 1) := by decide +kernel
theorem dX11_isByLaw_54 : decode cX11_isByLaw 54 = .ok (.invokevirtual 145, 3) := by decide +kernel
theorem dX11_isByLaw_57 : decode cX11_isByLaw 57 = .ok (.ifCond .ne 12, 3) := by decide +kernel
theorem dX11_isByLaw_60 : decode cX11_isByLaw 60 = .ok (.iload_n 3, 1) := by decide +kernel
theorem dX11_isByLaw_61 : decode cX11_isByLaw 61 = .ok (.ifCond .ne 8, 3) := by decide +kernel
theorem dX11_isByLaw_64 : decode cX11_isByLaw 64 = .ok (.iload 4, 2) := by decide +kernel
theorem dX11_isByLaw_66 : decode cX11_isByLaw 66 = .ok (.ifCond .eq 7, 3) := by decide +kernel
theorem dX11_isByLaw_69 : decode cX11_isByLaw 69 = .ok (.iconst 1, 1) := by decide +kernel
theorem dX11_isByLaw_70 : decode cX11_isByLaw 70 = .ok (.goto 4, 3) := by decide +kernel
theorem dX11_isByLaw_73 : decode cX11_isByLaw 73 = .ok (.iconst 0, 1) := by decide +kernel
theorem dX11_isByLaw_74 : decode cX11_isByLaw 74 = .ok (.ireturn, 1) := by decide +kernel
set_option maxRecDepth 20000 in
theorem ggX11_lawOf_X11_isByLaw : GoodIn wsX11_lawOf wsX11_isByLaw := goodIn_r _ [7, 2, 8, 9, 10, 6, 11, 12, 13, 14, 15, 16, 17, 18, 19, 20, 21, 22, 23, 24, 25, 26, 27, 28, 29, 30, 31, 32, 33, 34, 35, 36, 37, 38, 39] (by decide +kernel) (by decide +kernel)
set_option maxRecDepth 20000 in
theorem gX11_lawOf_X11_isByLaw : GoodIn wsX11_lawOf (wsV RX11 184 RX11 yX11_isByLaw wsX11_isByLaw) := goodIn_app (goodIn_of _ (by decide +kernel)) ggX11_lawOf_X11_isByLaw
theorem dX11_lawOf_0 : decode cX11_lawOf 0 = .ok (.iconst 0, 1) := by decide +kernel
theorem dX11_lawOf_1 : decode cX11_lawOf 1 = .ok (.istore_n 3, 1) := by decide +kernel
theorem dX11_lawOf_2 : decode cX11_lawOf 2 = .ok (.iconst 0, 1) := by decide +kernel
theorem dX11_lawOf_3 : decode cX11_lawOf 3 = .ok (.istore 4, 2) := by decide +kernel
theorem dX11_lawOf_5 : decode cX11_lawOf 5 = .ok (.iconst 0, 1) := by decide +kernel
theorem dX11_lawOf_6 : decode cX11_lawOf 6 = .ok (.istore 5, 2) := by decide +kernel
theorem dX11_lawOf_8 : decode cX11_lawOf 8 = .ok (.iload 5, 2) := by decide +kernel
theorem dX11_lawOf_10 : decode cX11_lawOf 10 = .ok (.aload_n 0, 1) := by decide +kernel
theorem dX11_lawOf_11 : decode cX11_lawOf 11 = .ok (.getfield 102, 3) := by decide +kernel
theorem dX11_lawOf_14 : decode cX11_lawOf 14 = .ok (.if_icmp .ge 60, 3) := by decide +kernel
theorem dX11_lawOf_17 : decode cX11_lawOf 17 = .ok (.aload_n 0, 1) := by decide +kernel
theorem dX11_lawOf_18 : decode cX11_lawOf 18 = .ok (.iload 5, 2) := by decide +kernel
theorem dX11_lawOf_20 : decode cX11_lawOf 20 = .ok (.iload_n 1, 1) := by decide +kernel
theorem dX11_lawOf_21 : decode cX11_lawOf 21 = .ok (.invokevirtual 184, 3) := by decide +kernel
theorem dX11_lawOf_24 : decode cX11_lawOf 24 = .ok (.istore 6, 2) := by decide +kernel
theorem dX11_lawOf_26 : decode cX11_lawOf 26 = .ok (.iload_n 3, 1) := by decide +kernel
theorem dX11_lawOf_27 : decode cX11_lawOf 27 = .ok (.iload 6, 2) := by decide +kernel
theorem dX11_lawOf_29 : decode cX11_lawOf 29 = .ok (.ifCond .eq 10, 3) := by decide +kernel
theorem dX11_lawOf_32 : decode cX11_lawOf 32 = .ok (.iconst 1, 1) := by decide +kernel
theorem dX11_lawOf_33 : decode cX11_lawOf 33 = .ok (.iload 5, 2) := by decide +kernel
theorem dX11_lawOf_35 : decode cX11_lawOf 35 = .ok (.ishl, 1) := by decide +kernel
theorem dX11_lawOf_36 : decode cX11_lawOf 36 = .ok (.goto 4, 3) := by decide +kernel
theorem dX11_lawOf_39 : decode cX11_lawOf 39 = .ok (.iconst 0, 1) := by decide +kernel
theorem dX11_lawOf_40 : decode cX11_lawOf 40 = .ok (.ior, 1) := by decide +kernel
theorem dX11_lawOf_41 : decode cX11_lawOf 41 = .ok (.istore_n 3, 1) := by decide +kernel
theorem dX11_lawOf_42 : decode cX11_lawOf 42 = .ok (.iload 4, 2) := by decide +kernel
theorem dX11_lawOf_44 : decode cX11_lawOf 44 = .ok (.iload 6, 2) := by decide +kernel
theorem dX11_lawOf_46 : decode cX11_lawOf 46 = .ok (.ifCond .eq 18, 3) := by decide +kernel
theorem dX11_lawOf_49 : decode cX11_lawOf 49 = .ok (.aload_n 0, 1) := by decide +kernel
theorem dX11_lawOf_50 : decode cX11_lawOf 50 = .ok (.getfield 25, 3) := by decide +kernel
theorem dX11_lawOf_53 : decode cX11_lawOf 53 = .ok (.bipush 6, 2) := by decide +kernel
theorem dX11_lawOf_55 : decode cX11_lawOf 55 = .ok (.iload 5, 2) := by decide +kernel
theorem dX11_lawOf_57 : decode cX11_lawOf 57 = .ok (.imul, 1) := by decide +kernel
theorem dX11_lawOf_58 : decode cX11_lawOf 58 = .ok (.iconst 1, 1) := by decide +kernel
theorem dX11_lawOf_59 : decode cX11_lawOf 59 = .ok (.iadd, 1) := by decide +kernel
theorem dX11_lawOf_60 : decode cX11_lawOf 60 = .ok (.iaload, 1) := by decide +kernel
theorem dX11_lawOf_61 : decode cX11_lawOf 61 = .ok (.goto 4, 3) := by decide +kernel
theorem dX11_lawOf_64 : decode cX11_lawOf 64 = .ok (.iconst 0, 1) := by decide +kernel
theorem dX11_lawOf_65 : decode cX11_lawOf 65 = .ok (.iadd, 1) := by decide +kernel
theorem dX11_lawOf_66 : decode cX11_lawOf 66 = .ok (.istore 4, 2) := by decide +kernel
theorem dX11_lawOf_68 : decode cX11_lawOf 68 = .ok (.iinc 5 1, 3) := by decide +kernel
theorem dX11_lawOf_71 : decode cX11_lawOf 71 = .ok (.goto (-63), 3) := by decide +kernel
theorem dX11_lawOf_74 : decode cX11_lawOf 74 = .ok (.iload_n 2, 1) := by decide +kernel
theorem dX11_lawOf_75 : decode cX11_lawOf 75 = .ok (.ifCond .ne 7, 3) := by decide +kernel
theorem dX11_lawOf_78 : decode cX11_lawOf 78 = .ok (.iload_n 3, 1) := by decide +kernel
theorem dX11_lawOf_79 : decode cX11_lawOf 79 = .ok (.goto 5, 3) := by decide +kernel
theorem dX11_lawOf_82 : decode cX11_lawOf 82 = .ok (.iload 4, 2) := by decide +kernel
theorem dX11_lawOf_84 : decode cX11_lawOf 84 = .ok (.ireturn, 1) := by decide +kernel
set_option maxRecDepth 20000 in
theorem ggX11_laws_X11_in : GoodIn wsX11_laws wsX11_in := goodIn_r _ [5] (by decide +kernel) (by decide +kernel)
set_option maxRecDepth 20000 in
theorem gX11_laws_X11_in : GoodIn wsX11_laws (va_wsS RX11 67 yX11_in wsX11_in) := goodIn_app (goodIn_of _ (by decide +kernel)) ggX11_laws_X11_in
set_option maxRecDepth 20000 in
theorem ggX11_laws_X11_lacks : GoodIn wsX11_laws wsX11_lacks := goodIn_r _ [9, 10, 24, 25, 26, 27, 28, 29, 30, 31, 32, 33, 34, 35, 36, 37, 38, 39, 40, 41, 42, 43, 44, 45, 46, 47, 48, 49, 50, 51] (by decide +kernel) (by decide +kernel)
set_option maxRecDepth 20000 in
theorem gX11_laws_X11_lacks : GoodIn wsX11_laws (wsV RX11 121 RX11 yX11_lacks wsX11_lacks) := goodIn_app (goodIn_of _ (by decide +kernel)) ggX11_laws_X11_lacks
set_option maxRecDepth 20000 in
theorem ggX11_laws_X11_lawOf : GoodIn wsX11_laws wsX11_lawOf := goodIn_r _ [14, 10, 15, 16, 17, 18, 4, 19, 20, 21, 22, 23, 24, 25, 26, 27, 28, 29, 30, 31, 32, 33, 34, 35, 36, 37, 38, 39, 40, 41, 42, 43, 44, 45, 46, 47, 48, 49, 50, 51] (by decide +kernel) (by decide +kernel)
set_option maxRecDepth 20000 in
theorem gX11_laws_X11_lawOf : GoodIn wsX11_laws (wsV RX11 190 RX11 yX11_lawOf wsX11_lawOf) := goodIn_app (goodIn_of _ (by decide +kernel)) ggX11_laws_X11_lawOf
theorem dX11_laws_0 : decode cX11_laws 0 = .ok (.iload_n 1, 1) := by decide +kernel
theorem dX11_laws_1 : decode cX11_laws 1 = .ok (.i2l, 1) := by decide +kernel
theorem dX11_laws_2 : decode cX11_laws 2 = .ok (.lconst 0, 1) := by decide +kernel
theorem dX11_laws_3 : decode cX11_laws 3 = .ok (.ldc2_w 188, 3) := by decide +kernel
theorem dX11_laws_6 : decode cX11_laws 6 = .ok (.invokestatic 67, 3) := by decide +kernel
theorem dX11_laws_9 : decode cX11_laws 9 = .ok (.ifCond .eq 13, 3) := by decide +kernel
theorem dX11_laws_12 : decode cX11_laws 12 = .ok (.iload_n 2, 1) := by decide +kernel
theorem dX11_laws_13 : decode cX11_laws 13 = .ok (.i2l, 1) := by decide +kernel
theorem dX11_laws_14 : decode cX11_laws 14 = .ok (.lconst 0, 1) := by decide +kernel
theorem dX11_laws_15 : decode cX11_laws 15 = .ok (.lconst 1, 1) := by decide +kernel
theorem dX11_laws_16 : decode cX11_laws 16 = .ok (.invokestatic 67, 3) := by decide +kernel
theorem dX11_laws_19 : decode cX11_laws 19 = .ok (.ifCond .ne 6, 3) := by decide +kernel
theorem dX11_laws_22 : decode cX11_laws 22 = .ok (.bipush (-102), 2) := by decide +kernel
theorem dX11_laws_24 : decode cX11_laws 24 = .ok (.ireturn, 1) := by decide +kernel
theorem dX11_laws_25 : decode cX11_laws 25 = .ok (.aload_n 0, 1) := by decide +kernel
theorem dX11_laws_26 : decode cX11_laws 26 = .ok (.invokevirtual 121, 3) := by decide +kernel
theorem dX11_laws_29 : decode cX11_laws 29 = .ok (.ifCond .eq 8, 3) := by decide +kernel
theorem dX11_laws_32 : decode cX11_laws 32 = .ok (.bipush (-103), 2) := by decide +kernel
theorem dX11_laws_34 : decode cX11_laws 34 = .ok (.goto 9, 3) := by decide +kernel
theorem dX11_laws_37 : decode cX11_laws 37 = .ok (.aload_n 0, 1) := by decide +kernel
theorem dX11_laws_38 : decode cX11_laws 38 = .ok (.iload_n 1, 1) := by decide +kernel
theorem dX11_laws_39 : decode cX11_laws 39 = .ok (.iload_n 2, 1) := by decide +kernel
theorem dX11_laws_40 : decode cX11_laws 40 = .ok (.invokevirtual 190, 3) := by decide +kernel
theorem dX11_laws_43 : decode cX11_laws 43 = .ok (.ireturn, 1) := by decide +kernel
set_option maxRecDepth 20000 in
theorem ggX11_see_X11_in : GoodIn wsX11_see wsX11_in := goodIn_r _ [8] (by decide +kernel) (by decide +kernel)
set_option maxRecDepth 20000 in
theorem gX11_see_X11_in : GoodIn wsX11_see (va_wsS RX11 67 yX11_in wsX11_in) := goodIn_app (goodIn_of _ (by decide +kernel)) ggX11_see_X11_in
theorem dX11_see_0 : decode cX11_see 0 = .ok (.iload_n 1, 1) := by decide +kernel
theorem dX11_see_1 : decode cX11_see 1 = .ok (.i2l, 1) := by decide +kernel
theorem dX11_see_2 : decode cX11_see 2 = .ok (.ldc2_w 141, 3) := by decide +kernel
theorem dX11_see_5 : decode cX11_see 5 = .ok (.ldc2_w 143, 3) := by decide +kernel
theorem dX11_see_8 : decode cX11_see 8 = .ok (.invokestatic 67, 3) := by decide +kernel
theorem dX11_see_11 : decode cX11_see 11 = .ok (.ifCond .ne 6, 3) := by decide +kernel
theorem dX11_see_14 : decode cX11_see 14 = .ok (.bipush (-102), 2) := by decide +kernel
theorem dX11_see_16 : decode cX11_see 16 = .ok (.ireturn, 1) := by decide +kernel
theorem dX11_see_17 : decode cX11_see 17 = .ok (.aload_n 0, 1) := by decide +kernel
theorem dX11_see_18 : decode cX11_see 18 = .ok (.getfield 115, 3) := by decide +kernel
theorem dX11_see_21 : decode cX11_see 21 = .ok (.bipush 8, 2) := by decide +kernel
theorem dX11_see_23 : decode cX11_see 23 = .ok (.if_icmp .ne 6, 3) := by decide +kernel
theorem dX11_see_26 : decode cX11_see 26 = .ok (.bipush (-104), 2) := by decide +kernel
theorem dX11_see_28 : decode cX11_see 28 = .ok (.ireturn, 1) := by decide +kernel
theorem dX11_see_29 : decode cX11_see 29 = .ok (.aload_n 0, 1) := by decide +kernel
theorem dX11_see_30 : decode cX11_see 30 = .ok (.getfield 38, 3) := by decide +kernel
theorem dX11_see_33 : decode cX11_see 33 = .ok (.aload_n 0, 1) := by decide +kernel
theorem dX11_see_34 : decode cX11_see 34 = .ok (.getfield 115, 3) := by decide +kernel
theorem dX11_see_37 : decode cX11_see 37 = .ok (.iload_n 1, 1) := by decide +kernel
theorem dX11_see_38 : decode cX11_see 38 = .ok (.iastore, 1) := by decide +kernel
theorem dX11_see_39 : decode cX11_see 39 = .ok (.aload_n 0, 1) := by decide +kernel
theorem dX11_see_40 : decode cX11_see 40 = .ok (.dup, 1) := by decide +kernel
theorem dX11_see_41 : decode cX11_see 41 = .ok (.getfield 115, 3) := by decide +kernel
theorem dX11_see_44 : decode cX11_see 44 = .ok (.iconst 1, 1) := by decide +kernel
theorem dX11_see_45 : decode cX11_see 45 = .ok (.iadd, 1) := by decide +kernel
theorem dX11_see_46 : decode cX11_see 46 = .ok (.putfield 115, 3) := by decide +kernel
theorem dX11_see_49 : decode cX11_see 49 = .ok (.aload_n 0, 1) := by decide +kernel
theorem dX11_see_50 : decode cX11_see 50 = .ok (.getfield 115, 3) := by decide +kernel
theorem dX11_see_53 : decode cX11_see 53 = .ok (.ireturn, 1) := by decide +kernel
theorem dX11_forget_0 : decode cX11_forget 0 = .ok (.aload_n 0, 1) := by decide +kernel
theorem dX11_forget_1 : decode cX11_forget 1 = .ok (.getfield 115, 3) := by decide +kernel
theorem dX11_forget_4 : decode cX11_forget 4 = .ok (.istore_n 1, 1) := by decide +kernel
theorem dX11_forget_5 : decode cX11_forget 5 = .ok (.aload_n 0, 1) := by decide +kernel
theorem dX11_forget_6 : decode cX11_forget 6 = .ok (.iconst 0, 1) := by decide +kernel
theorem dX11_forget_7 : decode cX11_forget 7 = .ok (.putfield 115, 3) := by decide +kernel
theorem dX11_forget_10 : decode cX11_forget 10 = .ok (.iload_n 1, 1) := by decide +kernel
theorem dX11_forget_11 : decode cX11_forget 11 = .ok (.ireturn, 1) := by decide +kernel
set_option maxRecDepth 20000 in
theorem ggX11_productOf_X11_waysOf : GoodIn wsX11_productOf wsX11_waysOf := goodIn_r _ [7, 8, 9, 10, 11, 12, 13, 14, 15, 16, 17, 18, 19, 20, 21, 22, 23, 24, 25, 26, 27, 28, 29, 30, 31, 32, 33, 34, 35, 36, 37] (by decide +kernel) (by decide +kernel)
set_option maxRecDepth 20000 in
theorem gX11_productOf_X11_waysOf : GoodIn wsX11_productOf (wsV RX11 61 RX11 yX11_waysOf wsX11_waysOf) := goodIn_app (goodIn_of _ (by decide +kernel)) ggX11_productOf_X11_waysOf
theorem dX11_productOf_0 : decode cX11_productOf 0 = .ok (.lconst 1, 1) := by decide +kernel
theorem dX11_productOf_1 : decode cX11_productOf 1 = .ok (.lstore_n 2, 1) := by decide +kernel
theorem dX11_productOf_2 : decode cX11_productOf 2 = .ok (.iconst 0, 1) := by decide +kernel
theorem dX11_productOf_3 : decode cX11_productOf 3 = .ok (.istore 4, 2) := by decide +kernel
theorem dX11_productOf_5 : decode cX11_productOf 5 = .ok (.iload 4, 2) := by decide +kernel
theorem dX11_productOf_7 : decode cX11_productOf 7 = .ok (.aload_n 0, 1) := by decide +kernel
theorem dX11_productOf_8 : decode cX11_productOf 8 = .ok (.getfield 115, 3) := by decide +kernel
theorem dX11_productOf_11 : decode cX11_productOf 11 = .ok (.if_icmp .ge 25, 3) := by decide +kernel
theorem dX11_productOf_14 : decode cX11_productOf 14 = .ok (.lload_n 2, 1) := by decide +kernel
theorem dX11_productOf_15 : decode cX11_productOf 15 = .ok (.aload_n 0, 1) := by decide +kernel
theorem dX11_productOf_16 : decode cX11_productOf 16 = .ok (.iload_n 1, 1) := by decide +kernel
theorem dX11_productOf_17 : decode cX11_productOf 17 = .ok (.aload_n 0, 1) := by decide +kernel
theorem dX11_productOf_18 : decode cX11_productOf 18 = .ok (.getfield 38, 3) := by decide +kernel
theorem dX11_productOf_21 : decode cX11_productOf 21 = .ok (.iload 4, 2) := by decide +kernel
theorem dX11_productOf_23 : decode cX11_productOf 23 = .ok (.iaload, 1) := by decide +kernel
theorem dX11_productOf_24 : decode cX11_productOf 24 = .ok (.invokevirtual 61, 3) := by decide +kernel
theorem dX11_productOf_27 : decode cX11_productOf 27 = .ok (.i2l, 1) := by decide +kernel
theorem dX11_productOf_28 : decode cX11_productOf 28 = .ok (.lmul, 1) := by decide +kernel
theorem dX11_productOf_29 : decode cX11_productOf 29 = .ok (.lstore_n 2, 1) := by decide +kernel
theorem dX11_productOf_30 : decode cX11_productOf 30 = .ok (.iinc 4 1, 3) := by decide +kernel
theorem dX11_productOf_33 : decode cX11_productOf 33 = .ok (.goto (-28), 3) := by decide +kernel
theorem dX11_productOf_36 : decode cX11_productOf 36 = .ok (.lload_n 2, 1) := by decide +kernel
theorem dX11_productOf_37 : decode cX11_productOf 37 = .ok (.lreturn, 1) := by decide +kernel
set_option maxRecDepth 20000 in
theorem ggX11_allOf_X11_allWays : GoodIn wsX11_allOf wsX11_allWays := goodIn_r _ [6, 7, 8, 9, 5, 10, 11, 12, 13, 14, 15, 16, 17, 18, 19, 20, 21, 22, 23, 24, 25, 26, 27, 28, 29, 30, 31, 32, 33, 34, 35, 36, 37, 38, 39, 40] (by decide +kernel) (by decide +kernel)
set_option maxRecDepth 20000 in
theorem gX11_allOf_X11_allWays : GoodIn wsX11_allOf (wsV RX11 130 RX11 yX11_allWays wsX11_allWays) := goodIn_app (goodIn_of _ (by decide +kernel)) ggX11_allOf_X11_allWays
theorem dX11_allOf_0 : decode cX11_allOf 0 = .ok (.lconst 1, 1) := by decide +kernel
theorem dX11_allOf_1 : decode cX11_allOf 1 = .ok (.lstore_n 2, 1) := by decide +kernel
theorem dX11_allOf_2 : decode cX11_allOf 2 = .ok (.iconst 0, 1) := by decide +kernel
theorem dX11_allOf_3 : decode cX11_allOf 3 = .ok (.istore 4, 2) := by decide +kernel
theorem dX11_allOf_5 : decode cX11_allOf 5 = .ok (.iload 4, 2) := by decide +kernel
theorem dX11_allOf_7 : decode cX11_allOf 7 = .ok (.aload_n 0, 1) := by decide +kernel
theorem dX11_allOf_8 : decode cX11_allOf 8 = .ok (.getfield 115, 3) := by decide +kernel
theorem dX11_allOf_11 : decode cX11_allOf 11 = .ok (.if_icmp .ge 18, 3) := by decide +kernel
theorem dX11_allOf_14 : decode cX11_allOf 14 = .ok (.lload_n 2, 1) := by decide +kernel
theorem dX11_allOf_15 : decode cX11_allOf 15 = .ok (.aload_n 0, 1) := by decide +kernel
theorem dX11_allOf_16 : decode cX11_allOf 16 = .ok (.iload_n 1, 1) := by decide +kernel
theorem dX11_allOf_17 : decode cX11_allOf 17 = .ok (.invokevirtual 130, 3) := by decide +kernel
theorem dX11_allOf_20 : decode cX11_allOf 20 = .ok (.i2l, 1) := by decide +kernel
theorem dX11_allOf_21 : decode cX11_allOf 21 = .ok (.lmul, 1) := by decide +kernel
theorem dX11_allOf_22 : decode cX11_allOf 22 = .ok (.lstore_n 2, 1) := by decide +kernel
theorem dX11_allOf_23 : decode cX11_allOf 23 = .ok (.iinc 4 1, 3) := by decide +kernel
theorem dX11_allOf_26 : decode cX11_allOf 26 = .ok (.goto (-21), 3) := by decide +kernel
theorem dX11_allOf_29 : decode cX11_allOf 29 = .ok (.lload_n 2, 1) := by decide +kernel
theorem dX11_allOf_30 : decode cX11_allOf 30 = .ok (.lreturn, 1) := by decide +kernel
set_option maxRecDepth 20000 in
theorem ggX11_whichOf_X11_productOf : GoodIn wsX11_whichOf wsX11_productOf := goodIn_r _ [5, 6, 7, 8, 9, 10, 4, 11, 12, 13, 14, 15, 16, 17, 18, 19, 20, 21, 22, 23, 24, 25, 26, 27, 28, 29, 30, 31, 32, 33, 34, 35, 36, 37, 38, 39, 40, 41] (by decide +kernel) (by decide +kernel)
set_option maxRecDepth 20000 in
theorem gX11_whichOf_X11_productOf : GoodIn wsX11_whichOf (wsV RX11 193 RX11 yX11_productOf wsX11_productOf) := goodIn_app (goodIn_of _ (by decide +kernel)) ggX11_whichOf_X11_productOf
theorem dX11_whichOf_0 : decode cX11_whichOf 0 = .ok (.iconst 0, 1) := by decide +kernel
theorem dX11_whichOf_1 : decode cX11_whichOf 1 = .ok (.istore_n 1, 1) := by decide +kernel
theorem dX11_whichOf_2 : decode cX11_whichOf 2 = .ok (.iconst 0, 1) := by decide +kernel
theorem dX11_whichOf_3 : decode cX11_whichOf 3 = .ok (.istore_n 2, 1) := by decide +kernel
theorem dX11_whichOf_4 : decode cX11_whichOf 4 = .ok (.iload_n 2, 1) := by decide +kernel
theorem dX11_whichOf_5 : decode cX11_whichOf 5 = .ok (.iconst 5, 1) := by decide +kernel
theorem dX11_whichOf_6 : decode cX11_whichOf 6 = .ok (.if_icmp .ge 29, 3) := by decide +kernel
theorem dX11_whichOf_9 : decode cX11_whichOf 9 = .ok (.iload_n 1, 1) := by decide +kernel
theorem dX11_whichOf_10 : decode cX11_whichOf 10 = .ok (.aload_n 0, 1) := by decide +kernel
theorem dX11_whichOf_11 : decode cX11_whichOf 11 = .ok (.iload_n 2, 1) := by decide +kernel
theorem dX11_whichOf_12 : decode cX11_whichOf 12 = .ok (.invokevirtual 193, 3) := by decide +kernel
theorem dX11_whichOf_15 : decode cX11_whichOf 15 = .ok (.lconst 0, 1) := by decide +kernel
theorem dX11_whichOf_16 : decode cX11_whichOf 16 = .ok (.lcmp, 1) := by decide +kernel
theorem dX11_whichOf_17 : decode cX11_whichOf 17 = .ok (.ifCond .le 9, 3) := by decide +kernel
theorem dX11_whichOf_20 : decode cX11_whichOf 20 = .ok (.iconst 1, 1) := by decide +kernel
theorem dX11_whichOf_21 : decode cX11_whichOf 21 = .ok (.iload_n 2, 1) := by decide +kernel
theorem dX11_whichOf_22 : decode cX11_whichOf 22 = .ok (.ishl, 1) := by decide +kernel
theorem dX11_whichOf_23 : decode cX11_whichOf 23 = .ok (.goto 4, 3) := by decide +kernel
theorem dX11_whichOf_26 : decode cX11_whichOf 26 = .ok (.iconst 0, 1) := by decide +kernel
theorem dX11_whichOf_27 : decode cX11_whichOf 27 = .ok (.ior, 1) := by decide +kernel
theorem dX11_whichOf_28 : decode cX11_whichOf 28 = .ok (.istore_n 1, 1) := by decide +kernel
theorem dX11_whichOf_29 : decode cX11_whichOf 29 = .ok (.iinc 2 1, 3) := by decide +kernel
theorem dX11_whichOf_32 : decode cX11_whichOf 32 = .ok (.goto (-28), 3) := by decide +kernel
theorem dX11_whichOf_35 : decode cX11_whichOf 35 = .ok (.iload_n 1, 1) := by decide +kernel
theorem dX11_whichOf_36 : decode cX11_whichOf 36 = .ok (.ireturn, 1) := by decide +kernel
set_option maxRecDepth 20000 in
theorem ggX11_which_X11_whichOf : GoodIn wsX11_which wsX11_whichOf := goodIn_r _ [5, 6, 7, 8, 4, 9, 10, 11, 12, 13, 14, 15, 16, 17, 18, 19, 20, 21, 22, 23, 24, 25, 26, 27, 28, 29, 30, 31, 32, 33, 34, 35, 36, 37, 38, 39, 40, 41, 42, 43, 44, 45] (by decide +kernel) (by decide +kernel)
set_option maxRecDepth 20000 in
theorem gX11_which_X11_whichOf : GoodIn wsX11_which (wsV RX11 196 RX11 yX11_whichOf wsX11_whichOf) := goodIn_app (goodIn_of _ (by decide +kernel)) ggX11_which_X11_whichOf
theorem dX11_which_0 : decode cX11_which 0 = .ok (.aload_n 0, 1) := by decide +kernel
theorem dX11_which_1 : decode cX11_which 1 = .ok (.invokevirtual 196, 3) := by decide +kernel
theorem dX11_which_4 : decode cX11_which 4 = .ok (.ireturn, 1) := by decide +kernel
set_option maxRecDepth 20000 in
theorem ggX11_likelyOf_X11_productOf : GoodIn wsX11_likelyOf wsX11_productOf := goodIn_r _ [5, 6, 7, 8, 9, 10, 4, 11, 12, 13, 22, 23, 24, 25, 26, 27, 28, 29, 30, 31, 32, 33, 34, 35, 36, 37, 38, 39, 40, 41, 42, 43, 44, 45, 46, 47, 48, 49] (by decide +kernel) (by decide +kernel)
set_option maxRecDepth 20000 in
theorem gX11_likelyOf_X11_productOf : GoodIn wsX11_likelyOf (wsV RX11 193 RX11 yX11_productOf wsX11_productOf) := goodIn_app (goodIn_of _ (by decide +kernel)) ggX11_likelyOf_X11_productOf
set_option maxRecDepth 20000 in
theorem ggX11_likelyOf_X11_allOf : GoodIn wsX11_likelyOf wsX11_allOf := goodIn_r _ [17, 6, 18, 19, 20, 4, 21, 8, 9, 10, 11, 12, 13, 22, 23, 24, 25, 26, 27, 28, 29, 30, 31, 32, 33, 34, 35, 36, 37, 38, 39, 40, 41, 42, 43, 44, 45, 46, 47, 48, 49] (by decide +kernel) (by decide +kernel)
set_option maxRecDepth 20000 in
theorem gX11_likelyOf_X11_allOf : GoodIn wsX11_likelyOf (wsV RX11 199 RX11 yX11_allOf wsX11_allOf) := goodIn_app (goodIn_of _ (by decide +kernel)) ggX11_likelyOf_X11_allOf
theorem dX11_likelyOf_0 : decode cX11_likelyOf 0 = .ok (.iconst (-1), 1) := by decide +kernel
theorem dX11_likelyOf_1 : decode cX11_likelyOf 1 = .ok (.istore_n 1, 1) := by decide +kernel
theorem dX11_likelyOf_2 : decode cX11_likelyOf 2 = .ok (.iconst 0, 1) := by decide +kernel
theorem dX11_likelyOf_3 : decode cX11_likelyOf 3 = .ok (.istore_n 2, 1) := by decide +kernel
theorem dX11_likelyOf_4 : decode cX11_likelyOf 4 = .ok (.iload_n 2, 1) := by decide +kernel
theorem dX11_likelyOf_5 : decode cX11_likelyOf 5 = .ok (.iconst 5, 1) := by decide +kernel
theorem dX11_likelyOf_6 : decode cX11_likelyOf 6 = .ok (.if_icmp .ge 66, 3) := by decide +kernel
theorem dX11_likelyOf_9 : decode cX11_likelyOf 9 = .ok (.aload_n 0, 1) := by decide +kernel
theorem dX11_likelyOf_10 : decode cX11_likelyOf 10 = .ok (.iload_n 2, 1) := by decide +kernel
theorem dX11_likelyOf_11 : decode cX11_likelyOf 11 = .ok (.invokevirtual 193, 3) := by decide +kernel
theorem dX11_likelyOf_14 : decode cX11_likelyOf 14 = .ok (.lconst 0, 1) := by decide +kernel
theorem dX11_likelyOf_15 : decode cX11_likelyOf 15 = .ok (.lcmp, 1) := by decide +kernel
theorem dX11_likelyOf_16 : decode cX11_likelyOf 16 = .ok (.ifCond .le 7, 3) := by decide +kernel
theorem dX11_likelyOf_19 : decode cX11_likelyOf 19 = .ok (.iconst 1, 1) := by decide +kernel
theorem dX11_likelyOf_20 : decode cX11_likelyOf 20 = .ok (.goto 4, 3) := by decide +kernel
theorem dX11_likelyOf_23 : decode cX11_likelyOf 23 = .ok (.iconst 0, 1) := by decide +kernel
theorem dX11_likelyOf_24 : decode cX11_likelyOf 24 = .ok (.istore_n 3, 1) := by decide +kernel
theorem dX11_likelyOf_25 : decode cX11_likelyOf 25 = .ok (.iload_n 3, 1) := by decide +kernel
theorem dX11_likelyOf_26 : decode cX11_likelyOf 26 = .ok (.ifCond .eq 38, 3) := by decide +kernel
theorem dX11_likelyOf_29 : decode cX11_likelyOf 29 = .ok (.iload_n 1, 1) := by decide +kernel
theorem dX11_likelyOf_30 : decode cX11_likelyOf 30 = .ok (.iconst (-1), 1) := by decide +kernel
theorem dX11_likelyOf_31 : decode cX11_likelyOf 31 = .ok (.if_icmp .eq 29, 3) := by decide +kernel
theorem dX11_likelyOf_34 : decode cX11_likelyOf 34 = .ok (.aload_n 0, 1) := by decide +kernel
theorem dX11_likelyOf_35 : decode cX11_likelyOf 35 = .ok (.iload_n 2, 1) := by decide +kernel
theorem dX11_likelyOf_36 : decode cX11_likelyOf 36 = .ok (.invokevirtual 193, 3) := by decide +kernel
theorem dX11_likelyOf_39 : decode cX11_likelyOf 39 = .ok (.aload_n 0, 1) := by decide +kernel
theorem dX11_likelyOf_40 : decode cX11_likelyOf 40 = .ok (.iload_n 1, 1) := by decide +kernel
theorem dX11_likelyOf_41 : decode cX11_likelyOf 41 = .ok (.invokevirtual 199, 3) := by decide +kernel
theorem dX11_likelyOf_44 : decode cX11_likelyOf 44 = .ok (.lmul, 1) := by decide +kernel
theorem dX11_likelyOf_45 : decode cX11_likelyOf 45 = .ok (.aload_n 0, 1) := by decide +kernel
theorem dX11_likelyOf_46 : decode cX11_likelyOf 46 = .ok (.iload_n 1, 1) := by decide +kernel
theorem dX11_likelyOf_47 : decode cX11_likelyOf 47 = .ok (.invokevirtual 193, 3) := by decide +kernel
theorem dX11_likelyOf_50 : decode cX11_likelyOf 50 = .ok (.aload_n 0, 1) := by decide +kernel
theorem dX11_likelyOf_51 : decode cX11_likelyOf 51 = .ok (.iload_n 2, 1) := by decide +kernel
theorem dX11_likelyOf_52 : decode cX11_likelyOf 52 = .ok (.invokevirtual 199, 3) := by decide +kernel
theorem dX11_likelyOf_55 : decode cX11_likelyOf 55 = .ok (.lmul, 1) := by decide +kernel
theorem dX11_likelyOf_56 : decode cX11_likelyOf 56 = .ok (.lcmp, 1) := by decide +kernel
theorem dX11_likelyOf_57 : decode cX11_likelyOf 57 = .ok (.ifCond .le 7, 3) := by decide +kernel
theorem dX11_likelyOf_60 : decode cX11_likelyOf 60 = .ok (.iload_n 2, 1) := by decide +kernel
theorem dX11_likelyOf_61 : decode cX11_likelyOf 61 = .ok (.goto 4, 3) := by decide +kernel
theorem dX11_likelyOf_64 : decode cX11_likelyOf 64 = .ok (.iload_n 1, 1) := by decide +kernel
theorem dX11_likelyOf_65 : decode cX11_likelyOf 65 = .ok (.istore_n 1, 1) := by decide +kernel
theorem dX11_likelyOf_66 : decode cX11_likelyOf 66 = .ok (.iinc 2 1, 3) := by decide +kernel
theorem dX11_likelyOf_69 : decode cX11_likelyOf 69 = .ok (.goto (-65), 3) := by decide +kernel
theorem dX11_likelyOf_72 : decode cX11_likelyOf 72 = .ok (.iload_n 1, 1) := by decide +kernel
theorem dX11_likelyOf_73 : decode cX11_likelyOf 73 = .ok (.ireturn, 1) := by decide +kernel
set_option maxRecDepth 20000 in
theorem ggX11_likely_X11_likelyOf : GoodIn wsX11_likely wsX11_likelyOf := goodIn_r _ [5, 6, 7, 8, 4, 9, 10, 11, 12, 13, 14, 15, 16, 17, 18, 19, 20, 21, 22, 23, 24, 25, 26, 27, 28, 29, 30, 31, 32, 33, 34, 35, 36, 37, 38, 39, 40, 41, 42, 43, 44, 45, 46, 47, 48, 49, 50, 51, 52, 53] (by decide +kernel) (by decide +kernel)
set_option maxRecDepth 20000 in
theorem gX11_likely_X11_likelyOf : GoodIn wsX11_likely (wsV RX11 202 RX11 yX11_likelyOf wsX11_likelyOf) := goodIn_app (goodIn_of _ (by decide +kernel)) ggX11_likely_X11_likelyOf
theorem dX11_likely_0 : decode cX11_likely 0 = .ok (.aload_n 0, 1) := by decide +kernel
theorem dX11_likely_1 : decode cX11_likely 1 = .ok (.invokevirtual 202, 3) := by decide +kernel
theorem dX11_likely_4 : decode cX11_likely 4 = .ok (.ireturn, 1) := by decide +kernel
theorem dX11_draw_0 : decode cX11_draw 0 = .ok (.aload_n 0, 1) := by decide +kernel
theorem dX11_draw_1 : decode cX11_draw 1 = .ok (.ldc2_w 205, 3) := by decide +kernel
theorem dX11_draw_4 : decode cX11_draw 4 = .ok (.aload_n 0, 1) := by decide +kernel
theorem dX11_draw_5 : decode cX11_draw 5 = .ok (.getfield 207, 3) := by decide +kernel
theorem dX11_draw_8 : decode cX11_draw 8 = .ok (.i2l, 1) := by decide +kernel
theorem dX11_draw_9 : decode cX11_draw 9 = .ok (.lmul, 1) := by decide +kernel
theorem dX11_draw_10 : decode cX11_draw 10 = .ok (.ldc2_w 210, 3) := by decide +kernel
theorem dX11_draw_13 : decode cX11_draw 13 = .ok (.ladd, 1) := by decide +kernel
theorem dX11_draw_14 : decode cX11_draw 14 = .ok (.ldc2_w 212, 3) := by decide +kernel
theorem dX11_draw_17 : decode cX11_draw 17 = .ok (.land, 1) := by decide +kernel
theorem dX11_draw_18 : decode cX11_draw 18 = .ok (.l2i, 1) := by decide +kernel
theorem dX11_draw_19 : decode cX11_draw 19 = .ok (.putfield 207, 3) := by decide +kernel
theorem dX11_draw_22 : decode cX11_draw 22 = .ok (.aload_n 0, 1) := by decide +kernel
theorem dX11_draw_23 : decode cX11_draw 23 = .ok (.getfield 207, 3) := by decide +kernel
theorem dX11_draw_26 : decode cX11_draw 26 = .ok (.ldc 214, 2) := by decide +kernel
theorem dX11_draw_28 : decode cX11_draw 28 = .ok (.idiv, 1) := by decide +kernel
theorem dX11_draw_29 : decode cX11_draw 29 = .ok (.iload_n 1, 1) := by decide +kernel
theorem dX11_draw_30 : decode cX11_draw 30 = .ok (.irem, 1) := by decide +kernel
theorem dX11_draw_31 : decode cX11_draw 31 = .ok (.ireturn, 1) := by decide +kernel
set_option maxRecDepth 20000 in
theorem ggX11_falls_X11_mostOf : GoodIn wsX11_falls wsX11_mostOf := goodIn_r _ [4] (by decide +kernel) (by decide +kernel)
set_option maxRecDepth 20000 in
theorem gX11_falls_X11_mostOf : GoodIn wsX11_falls (va_wsS RX11 58 yX11_mostOf wsX11_mostOf) := goodIn_app (goodIn_of _ (by decide +kernel)) ggX11_falls_X11_mostOf
set_option maxRecDepth 20000 in
theorem ggX11_falls_X11_leastOf : GoodIn wsX11_falls wsX11_leastOf := goodIn_r _ [7] (by decide +kernel) (by decide +kernel)
set_option maxRecDepth 20000 in
theorem gX11_falls_X11_leastOf : GoodIn wsX11_falls (va_wsS RX11 54 yX11_leastOf wsX11_leastOf) := goodIn_app (goodIn_of _ (by decide +kernel)) ggX11_falls_X11_leastOf
set_option maxRecDepth 20000 in
theorem ggX11_falls_X11_draw : GoodIn wsX11_falls wsX11_draw := goodIn_r _ [11, 12, 13, 14, 15, 16, 17, 18, 19, 20, 21, 22, 23, 24, 25, 26, 27, 28, 29, 30, 31, 32, 33, 34, 35, 36, 37, 38, 39, 40, 41, 42, 43, 44] (by decide +kernel) (by decide +kernel)
set_option maxRecDepth 20000 in
theorem gX11_falls_X11_draw : GoodIn wsX11_falls (wsV RX11 215 RX11 yX11_draw wsX11_draw) := goodIn_app (goodIn_of _ (by decide +kernel)) ggX11_falls_X11_draw
theorem dX11_falls_0 : decode cX11_falls 0 = .ok (.iload_n 1, 1) := by decide +kernel
theorem dX11_falls_1 : decode cX11_falls 1 = .ok (.invokestatic 58, 3) := by decide +kernel
theorem dX11_falls_4 : decode cX11_falls 4 = .ok (.iload_n 1, 1) := by decide +kernel
theorem dX11_falls_5 : decode cX11_falls 5 = .ok (.invokestatic 54, 3) := by decide +kernel
theorem dX11_falls_8 : decode cX11_falls 8 = .ok (.isub, 1) := by decide +kernel
theorem dX11_falls_9 : decode cX11_falls 9 = .ok (.iconst 1, 1) := by decide +kernel
theorem dX11_falls_10 : decode cX11_falls 10 = .ok (.iadd, 1) := by decide +kernel
theorem dX11_falls_11 : decode cX11_falls 11 = .ok (.istore_n 2, 1) := by decide +kernel
theorem dX11_falls_12 : decode cX11_falls 12 = .ok (.iload_n 1, 1) := by decide +kernel
theorem dX11_falls_13 : decode cX11_falls 13 = .ok (.invokestatic 54, 3) := by decide +kernel
theorem dX11_falls_16 : decode cX11_falls 16 = .ok (.aload_n 0, 1) := by decide +kernel
theorem dX11_falls_17 : decode cX11_falls 17 = .ok (.iload_n 2, 1) := by decide +kernel
theorem dX11_falls_18 : decode cX11_falls 18 = .ok (.invokevirtual 215, 3) := by decide +kernel
theorem dX11_falls_21 : decode cX11_falls 21 = .ok (.iadd, 1) := by decide +kernel
theorem dX11_falls_22 : decode cX11_falls 22 = .ok (.istore_n 3, 1) := by decide +kernel
theorem dX11_falls_23 : decode cX11_falls 23 = .ok (.iload_n 1, 1) := by decide +kernel
theorem dX11_falls_24 : decode cX11_falls 24 = .ok (.iconst 2, 1) := by decide +kernel
theorem dX11_falls_25 : decode cX11_falls 25 = .ok (.if_icmp .ne 9, 3) := by decide +kernel
theorem dX11_falls_28 : decode cX11_falls 28 = .ok (.iconst 2, 1) := by decide +kernel
theorem dX11_falls_29 : decode cX11_falls 29 = .ok (.iload_n 3, 1) := by decide +kernel
theorem dX11_falls_30 : decode cX11_falls 30 = .ok (.imul, 1) := by decide +kernel
theorem dX11_falls_31 : decode cX11_falls 31 = .ok (.goto 15, 3) := by decide +kernel
theorem dX11_falls_34 : decode cX11_falls 34 = .ok (.iload_n 3, 1) := by decide +kernel
theorem dX11_falls_35 : decode cX11_falls 35 = .ok (.iload_n 1, 1) := by decide +kernel
theorem dX11_falls_36 : decode cX11_falls 36 = .ok (.invokestatic 54, 3) := by decide +kernel
theorem dX11_falls_39 : decode cX11_falls 39 = .ok (.iadd, 1) := by decide +kernel
theorem dX11_falls_40 : decode cX11_falls 40 = .ok (.aload_n 0, 1) := by decide +kernel
theorem dX11_falls_41 : decode cX11_falls 41 = .ok (.iload_n 2, 1) := by decide +kernel
theorem dX11_falls_42 : decode cX11_falls 42 = .ok (.invokevirtual 215, 3) := by decide +kernel
theorem dX11_falls_45 : decode cX11_falls 45 = .ok (.iadd, 1) := by decide +kernel
theorem dX11_falls_46 : decode cX11_falls 46 = .ok (.ireturn, 1) := by decide +kernel
set_option maxRecDepth 20000 in
theorem ggX11_leastKings_X11_isKings : GoodIn wsX11_leastKings wsX11_isKings := goodIn_r _ [6, 7, 8, 9, 10, 11, 12, 13, 14, 15, 16, 17, 18, 19, 20, 21, 22, 23, 24, 25, 26, 27, 28, 29, 30, 31, 32, 33, 34, 35] (by decide +kernel) (by decide +kernel)
set_option maxRecDepth 20000 in
theorem gX11_leastKings_X11_isKings : GoodIn wsX11_leastKings (wsV RX11 145 RX11 yX11_isKings wsX11_isKings) := goodIn_app (goodIn_of _ (by decide +kernel)) ggX11_leastKings_X11_isKings
theorem dX11_leastKings_0 : decode cX11_leastKings 0 = .ok (.iconst (-1), 1) := by decide +kernel
theorem dX11_leastKings_1 : decode cX11_leastKings 1 = .ok (.istore_n 1, 1) := by decide +kernel
theorem dX11_leastKings_2 : decode cX11_leastKings 2 = .ok (.aload_n 0, 1) := by decide +kernel
theorem dX11_leastKings_3 : decode cX11_leastKings 3 = .ok (.getfield 102, 3) := by decide +kernel
theorem dX11_leastKings_6 : decode cX11_leastKings 6 = .ok (.iconst 1, 1) := by decide +kernel
theorem dX11_leastKings_7 : decode cX11_leastKings 7 = .ok (.isub, 1) := by decide +kernel
theorem dX11_leastKings_8 : decode cX11_leastKings 8 = .ok (.istore_n 2, 1) := by decide +kernel
theorem dX11_leastKings_9 : decode cX11_leastKings 9 = .ok (.iload_n 2, 1) := by decide +kernel
theorem dX11_leastKings_10 : decode cX11_leastKings 10 = .ok (.ifCond .lt 23, 3) := by decide +kernel
theorem dX11_leastKings_13 : decode cX11_leastKings 13 = .ok (.aload_n 0, 1) := by decide +kernel
theorem dX11_leastKings_14 : decode cX11_leastKings 14 = .ok (.iload_n 2, 1) := by decide +kernel
theorem dX11_leastKings_15 : decode cX11_leastKings 15 = .ok (.invokevirtual 145, 3) := by decide +kernel
theorem dX11_leastKings_18 : decode cX11_leastKings 18 = .ok (.ifCond .eq 7, 3) := by decide +kernel
theorem dX11_leastKings_21 : decode cX11_leastKings 21 = .ok (.iload_n 2, 1) := by decide +kernel
theorem dX11_leastKings_22 : decode cX11_leastKings 22 = .ok (.goto 4, 3) := by decide +kernel
theorem dX11_leastKings_25 : decode cX11_leastKings 25 = .ok (.iload_n 1, 1) := by decide +kernel
theorem dX11_leastKings_26 : decode cX11_leastKings 26 = .ok (.istore_n 1, 1) := by decide +kernel
theorem dX11_leastKings_27 : decode cX11_leastKings 27 = .ok (.iinc 2 (-1), 3) := by decide +kernel
theorem dX11_leastKings_30 : decode cX11_leastKings 30 = .ok (.goto (-21), 3) := by decide +kernel
theorem dX11_leastKings_33 : decode cX11_leastKings 33 = .ok (.iload_n 1, 1) := by decide +kernel
theorem dX11_leastKings_34 : decode cX11_leastKings 34 = .ok (.ireturn, 1) := by decide +kernel
set_option maxRecDepth 20000 in
theorem ggX11_kingsMany_X11_isKings : GoodIn wsX11_kingsMany wsX11_isKings := goodIn_r _ [6, 7, 8, 9, 10, 11, 12, 13, 14, 15, 16, 17, 18, 19, 20, 21, 22, 23, 24, 25, 26, 27, 28, 29, 30, 31, 32, 33, 34, 35] (by decide +kernel) (by decide +kernel)
set_option maxRecDepth 20000 in
theorem gX11_kingsMany_X11_isKings : GoodIn wsX11_kingsMany (wsV RX11 145 RX11 yX11_isKings wsX11_isKings) := goodIn_app (goodIn_of _ (by decide +kernel)) ggX11_kingsMany_X11_isKings
theorem dX11_kingsMany_0 : decode cX11_kingsMany 0 = .ok (.iconst 0, 1) := by decide +kernel
theorem dX11_kingsMany_1 : decode cX11_kingsMany 1 = .ok (.istore_n 1, 1) := by decide +kernel
theorem dX11_kingsMany_2 : decode cX11_kingsMany 2 = .ok (.iconst 0, 1) := by decide +kernel
theorem dX11_kingsMany_3 : decode cX11_kingsMany 3 = .ok (.istore_n 2, 1) := by decide +kernel
theorem dX11_kingsMany_4 : decode cX11_kingsMany 4 = .ok (.iload_n 2, 1) := by decide +kernel
theorem dX11_kingsMany_5 : decode cX11_kingsMany 5 = .ok (.aload_n 0, 1) := by decide +kernel
theorem dX11_kingsMany_6 : decode cX11_kingsMany 6 = .ok (.getfield 102, 3) := by decide +kernel
theorem dX11_kingsMany_9 : decode cX11_kingsMany 9 = .ok (.if_icmp .ge 25, 3) := by decide +kernel
theorem dX11_kingsMany_12 : decode cX11_kingsMany 12 = .ok (.iload_n 1, 1) := by decide +kernel
theorem dX11_kingsMany_13 : decode cX11_kingsMany 13 = .ok (.aload_n 0, 1) := by decide +kernel
theorem dX11_kingsMany_14 : decode cX11_kingsMany 14 = .ok (.iload_n 2, 1) := by decide +kernel
theorem dX11_kingsMany_15 : decode cX11_kingsMany 15 = .ok (.invokevirtual 145, 3) := by decide +kernel
theorem dX11_kingsMany_18 : decode cX11_kingsMany 18 = .ok (.ifCond .eq 7, 3) := by decide +kernel
theorem dX11_kingsMany_21 : decode cX11_kingsMany 21 = .ok (.iconst 1, 1) := by decide +kernel
theorem dX11_kingsMany_22 : decode cX11_kingsMany 22 = .ok (.goto 4, 3) := by decide +kernel
theorem dX11_kingsMany_25 : decode cX11_kingsMany 25 = .ok (.iconst 0, 1) := by decide +kernel
theorem dX11_kingsMany_26 : decode cX11_kingsMany 26 = .ok (.iadd, 1) := by decide +kernel
theorem dX11_kingsMany_27 : decode cX11_kingsMany 27 = .ok (.istore_n 1, 1) := by decide +kernel
theorem dX11_kingsMany_28 : decode cX11_kingsMany 28 = .ok (.iinc 2 1, 3) := by decide +kernel
theorem dX11_kingsMany_31 : decode cX11_kingsMany 31 = .ok (.goto (-27), 3) := by decide +kernel
theorem dX11_kingsMany_34 : decode cX11_kingsMany 34 = .ok (.iload_n 1, 1) := by decide +kernel
theorem dX11_kingsMany_35 : decode cX11_kingsMany 35 = .ok (.ireturn, 1) := by decide +kernel
set_option maxRecDepth 20000 in
theorem ggX11_halls_X11_in : GoodIn wsX11_halls wsX11_in := goodIn_r _ [11] (by decide +kernel) (by decide +kernel)
set_option maxRecDepth 20000 in
theorem gX11_halls_X11_in : GoodIn wsX11_halls (va_wsS RX11 67 yX11_in wsX11_in) := goodIn_app (goodIn_of _ (by decide +kernel)) ggX11_halls_X11_in
set_option maxRecDepth 20000 in
theorem ggX11_halls_X11_lacks : GoodIn wsX11_halls wsX11_lacks := goodIn_r _ [15, 16, 50, 51, 52, 53, 54, 55, 56, 57, 58, 59, 60, 61, 62, 63, 64, 65, 66, 67, 68, 69, 70, 71, 72, 73, 74, 75, 76, 77] (by decide +kernel) (by decide +kernel)
set_option maxRecDepth 20000 in
theorem gX11_halls_X11_lacks : GoodIn wsX11_halls (wsV RX11 121 RX11 yX11_lacks wsX11_lacks) := goodIn_app (goodIn_of _ (by decide +kernel)) ggX11_halls_X11_lacks
set_option maxRecDepth 20000 in
theorem ggX11_halls_X11_copy : GoodIn wsX11_halls wsX11_copy := goodIn_r _ [19] (by decide +kernel) (by decide +kernel)
set_option maxRecDepth 20000 in
theorem gX11_halls_X11_copy : GoodIn wsX11_halls (va_wsS RX11 105 yX11_copy wsX11_copy) := goodIn_app (goodIn_of _ (by decide +kernel)) ggX11_halls_X11_copy
set_option maxRecDepth 20000 in
theorem ggX11_halls_X11_kingsMany : GoodIn wsX11_halls wsX11_kingsMany := goodIn_r _ [23, 16, 24, 25, 26, 10, 27, 3, 50, 51, 52, 53, 54, 55, 56, 57, 58, 59, 60, 61, 62, 63, 64, 65, 66, 67, 68, 69, 70, 71, 72, 73, 74, 75, 76, 77] (by decide +kernel) (by decide +kernel)
set_option maxRecDepth 20000 in
theorem gX11_halls_X11_kingsMany : GoodIn wsX11_halls (wsV RX11 220 RX11 yX11_kingsMany wsX11_kingsMany) := goodIn_app (goodIn_of _ (by decide +kernel)) ggX11_halls_X11_kingsMany
set_option maxRecDepth 20000 in
theorem ggX11_halls_X11_leastKings : GoodIn wsX11_halls wsX11_leastKings := goodIn_r _ [31, 16, 24, 25, 26, 10, 27, 3, 50, 51, 52, 53, 54, 55, 56, 57, 58, 59, 60, 61, 62, 63, 64, 65, 66, 67, 68, 69, 70, 71, 72, 73, 74, 75, 76, 77] (by decide +kernel) (by decide +kernel)
set_option maxRecDepth 20000 in
theorem gX11_halls_X11_leastKings : GoodIn wsX11_halls (wsV RX11 223 RX11 yX11_leastKings wsX11_leastKings) := goodIn_app (goodIn_of _ (by decide +kernel)) ggX11_halls_X11_leastKings
set_option maxRecDepth 20000 in
theorem ggX11_halls_X11_falls : GoodIn wsX11_halls wsX11_falls := goodIn_r _ [35, 36, 37, 10, 38, 39, 40, 41, 42, 43, 44, 45, 46, 5, 47, 48, 49, 50, 51, 52, 53, 54, 55, 56, 57, 58, 59, 60, 61, 62, 63, 64, 65, 66, 67, 68, 69, 70, 71, 72, 73, 74, 75, 76, 77] (by decide +kernel) (by decide +kernel)
set_option maxRecDepth 20000 in
theorem gX11_halls_X11_falls : GoodIn wsX11_halls (wsV RX11 226 RX11 yX11_falls wsX11_falls) := goodIn_app (goodIn_of _ (by decide +kernel)) ggX11_halls_X11_falls
theorem dX11_halls_0 : decode cX11_halls 0 = .ok (.iload_n 1, 1) := by decide +kernel
theorem dX11_halls_1 : decode cX11_halls 1 = .ok (.i2l, 1) := by decide +kernel
theorem dX11_halls_2 : decode cX11_halls 2 = .ok (.lconst 1, 1) := by decide +kernel
theorem dX11_halls_3 : decode cX11_halls 3 = .ok (.ldc2_w 218, 3) := by decide +kernel
theorem dX11_halls_6 : decode cX11_halls 6 = .ok (.invokestatic 67, 3) := by decide +kernel
theorem dX11_halls_9 : decode cX11_halls 9 = .ok (.ifCond .eq 19, 3) := by decide +kernel
theorem dX11_halls_12 : decode cX11_halls 12 = .ok (.iload_n 2, 1) := by decide +kernel
theorem dX11_halls_13 : decode cX11_halls 13 = .ok (.ifCond .lt 15, 3) := by decide +kernel
theorem dX11_halls_16 : decode cX11_halls 16 = .ok (.iload_n 3, 1) := by decide +kernel
theorem dX11_halls_17 : decode cX11_halls 17 = .ok (.i2l, 1) := by decide +kernel
theorem dX11_halls_18 : decode cX11_halls 18 = .ok (.lconst 0, 1) := by decide +kernel
theorem dX11_halls_19 : decode cX11_halls 19 = .ok (.ldc2_w 141, 3) := by decide +kernel
theorem dX11_halls_22 : decode cX11_halls 22 = .ok (.invokestatic 67, 3) := by decide +kernel
theorem dX11_halls_25 : decode cX11_halls 25 = .ok (.ifCond .ne 6, 3) := by decide +kernel
theorem dX11_halls_28 : decode cX11_halls 28 = .ok (.bipush (-102), 2) := by decide +kernel
theorem dX11_halls_30 : decode cX11_halls 30 = .ok (.ireturn, 1) := by decide +kernel
theorem dX11_halls_31 : decode cX11_halls 31 = .ok (.aload_n 0, 1) := by decide +kernel
theorem dX11_halls_32 : decode cX11_halls 32 = .ok (.invokevirtual 121, 3) := by decide +kernel
theorem dX11_halls_35 : decode cX11_halls 35 = .ok (.ifCond .eq 6, 3) := by decide +kernel
theorem dX11_halls_38 : decode cX11_halls 38 = .ok (.bipush (-103), 2) := by decide +kernel
theorem dX11_halls_40 : decode cX11_halls 40 = .ok (.ireturn, 1) := by decide +kernel
theorem dX11_halls_41 : decode cX11_halls 41 = .ok (.aload_n 0, 1) := by decide +kernel
theorem dX11_halls_42 : decode cX11_halls 42 = .ok (.getfield 25, 3) := by decide +kernel
theorem dX11_halls_45 : decode cX11_halls 45 = .ok (.aload_n 0, 1) := by decide +kernel
theorem dX11_halls_46 : decode cX11_halls 46 = .ok (.getfield 41, 3) := by decide +kernel
theorem dX11_halls_49 : decode cX11_halls 49 = .ok (.invokestatic 105, 3) := by decide +kernel
theorem dX11_halls_52 : decode cX11_halls 52 = .ok (.aload_n 0, 1) := by decide +kernel
theorem dX11_halls_53 : decode cX11_halls 53 = .ok (.iload_n 2, 1) := by decide +kernel
theorem dX11_halls_54 : decode cX11_halls 54 = .ok (.putfield 207, 3) := by decide +kernel
theorem dX11_halls_57 : decode cX11_halls 57 = .ok (.aload_n 0, 1) := by decide +kernel
theorem dX11_halls_58 : decode cX11_halls 58 = .ok (.getfield 109, 3) := by decide +kernel
theorem dX11_halls_61 : decode cX11_halls 61 = .ok (.istore 4, 2) := by decide +kernel
theorem dX11_halls_63 : decode cX11_halls 63 = .ok (.iconst 0, 1) := by decide +kernel
theorem dX11_halls_64 : decode cX11_halls 64 = .ok (.istore 5, 2) := by decide +kernel
theorem dX11_halls_66 : decode cX11_halls 66 = .ok (.iload 5, 2) := by decide +kernel
theorem dX11_halls_68 : decode cX11_halls 68 = .ok (.iload_n 1, 1) := by decide +kernel
theorem dX11_halls_69 : decode cX11_halls 69 = .ok (.if_icmp .ge 98, 3) := by decide +kernel
theorem dX11_halls_72 : decode cX11_halls 72 = .ok (.aload_n 0, 1) := by decide +kernel
theorem dX11_halls_73 : decode cX11_halls 73 = .ok (.invokevirtual 220, 3) := by decide +kernel
theorem dX11_halls_76 : decode cX11_halls 76 = .ok (.ifCond .le 91, 3) := by decide +kernel
theorem dX11_halls_79 : decode cX11_halls 79 = .ok (.aload_n 0, 1) := by decide +kernel
theorem dX11_halls_80 : decode cX11_halls 80 = .ok (.invokevirtual 223, 3) := by decide +kernel
theorem dX11_halls_83 : decode cX11_halls 83 = .ok (.istore 6, 2) := by decide +kernel
theorem dX11_halls_85 : decode cX11_halls 85 = .ok (.aload_n 0, 1) := by decide +kernel
theorem dX11_halls_86 : decode cX11_halls 86 = .ok (.aload_n 0, 1) := by decide +kernel
theorem dX11_halls_87 : decode cX11_halls 87 = .ok (.getfield 28, 3) := by decide +kernel
theorem dX11_halls_90 : decode cX11_halls 90 = .ok (.iconst 0, 1) := by decide +kernel
theorem dX11_halls_91 : decode cX11_halls 91 = .ok (.iaload, 1) := by decide +kernel
theorem dX11_halls_92 : decode cX11_halls 92 = .ok (.invokevirtual 226, 3) := by decide +kernel
theorem dX11_halls_95 : decode cX11_halls 95 = .ok (.istore 7, 2) := by decide +kernel
theorem dX11_halls_97 : decode cX11_halls 97 = .ok (.aload_n 0, 1) := by decide +kernel
theorem dX11_halls_98 : decode cX11_halls 98 = .ok (.aload_n 0, 1) := by decide +kernel
theorem dX11_halls_99 : decode cX11_halls 99 = .ok (.getfield 28, 3) := by decide +kernel
theorem dX11_halls_102 : decode cX11_halls 102 = .ok (.iconst 1, 1) := by decide +kernel
theorem dX11_halls_103 : decode cX11_halls 103 = .ok (.iaload, 1) := by decide +kernel
theorem dX11_halls_104 : decode cX11_halls 104 = .ok (.invokevirtual 226, 3) := by decide +kernel
theorem dX11_halls_107 : decode cX11_halls 107 = .ok (.istore 8, 2) := by decide +kernel
theorem dX11_halls_109 : decode cX11_halls 109 = .ok (.iload 4, 2) := by decide +kernel
theorem dX11_halls_111 : decode cX11_halls 111 = .ok (.iload 7, 2) := by decide +kernel
theorem dX11_halls_113 : decode cX11_halls 113 = .ok (.iload 8, 2) := by decide +kernel
theorem dX11_halls_115 : decode cX11_halls 115 = .ok (.if_icmp .le 18, 3) := by decide +kernel
theorem dX11_halls_118 : decode cX11_halls 118 = .ok (.aload_n 0, 1) := by decide +kernel
theorem dX11_halls_119 : decode cX11_halls 119 = .ok (.getfield 25, 3) := by decide +kernel
theorem dX11_halls_122 : decode cX11_halls 122 = .ok (.bipush 6, 2) := by decide +kernel
theorem dX11_halls_124 : decode cX11_halls 124 = .ok (.iload 6, 2) := by decide +kernel
theorem dX11_halls_126 : decode cX11_halls 126 = .ok (.imul, 1) := by decide +kernel
theorem dX11_halls_127 : decode cX11_halls 127 = .ok (.iconst 1, 1) := by decide +kernel
theorem dX11_halls_128 : decode cX11_halls 128 = .ok (.iadd, 1) := by decide +kernel
theorem dX11_halls_129 : decode cX11_halls 129 = .ok (.iaload, 1) := by decide +kernel
theorem dX11_halls_130 : decode cX11_halls 130 = .ok (.goto 4, 3) := by decide +kernel
theorem dX11_halls_133 : decode cX11_halls 133 = .ok (.iconst 0, 1) := by decide +kernel
theorem dX11_halls_134 : decode cX11_halls 134 = .ok (.iadd, 1) := by decide +kernel
theorem dX11_halls_135 : decode cX11_halls 135 = .ok (.istore 4, 2) := by decide +kernel
theorem dX11_halls_137 : decode cX11_halls 137 = .ok (.aload_n 0, 1) := by decide +kernel
theorem dX11_halls_138 : decode cX11_halls 138 = .ok (.getfield 25, 3) := by decide +kernel
theorem dX11_halls_141 : decode cX11_halls 141 = .ok (.bipush 6, 2) := by decide +kernel
theorem dX11_halls_143 : decode cX11_halls 143 = .ok (.iload 6, 2) := by decide +kernel
theorem dX11_halls_145 : decode cX11_halls 145 = .ok (.imul, 1) := by decide +kernel
theorem dX11_halls_146 : decode cX11_halls 146 = .ok (.iconst 2, 1) := by decide +kernel
theorem dX11_halls_147 : decode cX11_halls 147 = .ok (.iadd, 1) := by decide +kernel
theorem dX11_halls_148 : decode cX11_halls 148 = .ok (.iload 7, 2) := by decide +kernel
theorem dX11_halls_150 : decode cX11_halls 150 = .ok (.iload 8, 2) := by decide +kernel
theorem dX11_halls_152 : decode cX11_halls 152 = .ok (.if_icmp .ge 7, 3) := by decide +kernel
theorem dX11_halls_155 : decode cX11_halls 155 = .ok (.iconst 1, 1) := by decide +kernel
theorem dX11_halls_156 : decode cX11_halls 156 = .ok (.goto 4, 3) := by decide +kernel
theorem dX11_halls_159 : decode cX11_halls 159 = .ok (.iconst 0, 1) := by decide +kernel
theorem dX11_halls_160 : decode cX11_halls 160 = .ok (.iastore, 1) := by decide +kernel
theorem dX11_halls_161 : decode cX11_halls 161 = .ok (.iinc 5 1, 3) := by decide +kernel
theorem dX11_halls_164 : decode cX11_halls 164 = .ok (.goto (-98), 3) := by decide +kernel
theorem dX11_halls_167 : decode cX11_halls 167 = .ok (.aload_n 0, 1) := by decide +kernel
theorem dX11_halls_168 : decode cX11_halls 168 = .ok (.invokevirtual 220, 3) := by decide +kernel
theorem dX11_halls_171 : decode cX11_halls 171 = .ok (.istore 5, 2) := by decide +kernel
theorem dX11_halls_173 : decode cX11_halls 173 = .ok (.aload_n 0, 1) := by decide +kernel
theorem dX11_halls_174 : decode cX11_halls 174 = .ok (.getfield 41, 3) := by decide +kernel
theorem dX11_halls_177 : decode cX11_halls 177 = .ok (.aload_n 0, 1) := by decide +kernel
theorem dX11_halls_178 : decode cX11_halls 178 = .ok (.getfield 25, 3) := by decide +kernel
theorem dX11_halls_181 : decode cX11_halls 181 = .ok (.invokestatic 105, 3) := by decide +kernel
theorem dX11_halls_184 : decode cX11_halls 184 = .ok (.iload_n 3, 1) := by decide +kernel
theorem dX11_halls_185 : decode cX11_halls 185 = .ok (.ifCond .ne 8, 3) := by decide +kernel
theorem dX11_halls_188 : decode cX11_halls 188 = .ok (.iload 5, 2) := by decide +kernel
theorem dX11_halls_190 : decode cX11_halls 190 = .ok (.goto 17, 3) := by decide +kernel
theorem dX11_halls_193 : decode cX11_halls 193 = .ok (.iload_n 3, 1) := by decide +kernel
theorem dX11_halls_194 : decode cX11_halls 194 = .ok (.iconst 1, 1) := by decide +kernel
theorem dX11_halls_195 : decode cX11_halls 195 = .ok (.if_icmp .ne 8, 3) := by decide +kernel
theorem dX11_halls_198 : decode cX11_halls 198 = .ok (.iload 4, 2) := by decide +kernel
theorem dX11_halls_200 : decode cX11_halls 200 = .ok (.goto 7, 3) := by decide +kernel
theorem dX11_halls_203 : decode cX11_halls 203 = .ok (.aload_n 0, 1) := by decide +kernel
theorem dX11_halls_204 : decode cX11_halls 204 = .ok (.getfield 207, 3) := by decide +kernel
theorem dX11_halls_207 : decode cX11_halls 207 = .ok (.ireturn, 1) := by decide +kernel
set_option maxRecDepth 20000 in
theorem ggX11_image_X11_lacks : GoodIn wsX11_image wsX11_lacks := goodIn_r _ [17, 18, 22, 23, 24, 25, 26, 27, 28, 29, 30, 31, 32, 33, 34, 35, 36, 37, 38, 39, 40, 41, 42, 43, 44, 45, 46, 47, 48, 49] (by decide +kernel) (by decide +kernel)
set_option maxRecDepth 20000 in
theorem gX11_image_X11_lacks : GoodIn wsX11_image (wsV RX11 121 RX11 yX11_lacks wsX11_lacks) := goodIn_app (goodIn_of _ (by decide +kernel)) ggX11_image_X11_lacks
set_option maxRecDepth 20000 in
theorem ggX11_image_X11_copy : GoodIn wsX11_image wsX11_copy := goodIn_r _ [21] (by decide +kernel) (by decide +kernel)
set_option maxRecDepth 20000 in
theorem gX11_image_X11_copy : GoodIn wsX11_image (va_wsS RX11 105 yX11_copy wsX11_copy) := goodIn_app (goodIn_of _ (by decide +kernel)) ggX11_image_X11_copy
theorem dX11_image_0 : decode cX11_image 0 = .ok (.aload_n 0, 1) := by decide +kernel
theorem dX11_image_1 : decode cX11_image 1 = .ok (.invokevirtual 121, 3) := by decide +kernel
theorem dX11_image_4 : decode cX11_image 4 = .ok (.ifCond .eq 6, 3) := by decide +kernel
theorem dX11_image_7 : decode cX11_image 7 = .ok (.bipush (-103), 2) := by decide +kernel
theorem dX11_image_9 : decode cX11_image 9 = .ok (.ireturn, 1) := by decide +kernel
theorem dX11_image_10 : decode cX11_image 10 = .ok (.aload_n 0, 1) := by decide +kernel
theorem dX11_image_11 : decode cX11_image 11 = .ok (.getfield 25, 3) := by decide +kernel
theorem dX11_image_14 : decode cX11_image 14 = .ok (.aload_n 0, 1) := by decide +kernel
theorem dX11_image_15 : decode cX11_image 15 = .ok (.getfield 44, 3) := by decide +kernel
theorem dX11_image_18 : decode cX11_image 18 = .ok (.invokestatic 105, 3) := by decide +kernel
theorem dX11_image_21 : decode cX11_image 21 = .ok (.aload_n 0, 1) := by decide +kernel
theorem dX11_image_22 : decode cX11_image 22 = .ok (.getfield 38, 3) := by decide +kernel
theorem dX11_image_25 : decode cX11_image 25 = .ok (.aload_n 0, 1) := by decide +kernel
theorem dX11_image_26 : decode cX11_image 26 = .ok (.getfield 47, 3) := by decide +kernel
theorem dX11_image_29 : decode cX11_image 29 = .ok (.invokestatic 105, 3) := by decide +kernel
theorem dX11_image_32 : decode cX11_image 32 = .ok (.aload_n 0, 1) := by decide +kernel
theorem dX11_image_33 : decode cX11_image 33 = .ok (.aload_n 0, 1) := by decide +kernel
theorem dX11_image_34 : decode cX11_image 34 = .ok (.getfield 109, 3) := by decide +kernel
theorem dX11_image_37 : decode cX11_image 37 = .ok (.putfield 229, 3) := by decide +kernel
theorem dX11_image_40 : decode cX11_image 40 = .ok (.aload_n 0, 1) := by decide +kernel
theorem dX11_image_41 : decode cX11_image 41 = .ok (.aload_n 0, 1) := by decide +kernel
theorem dX11_image_42 : decode cX11_image 42 = .ok (.getfield 112, 3) := by decide +kernel
theorem dX11_image_45 : decode cX11_image 45 = .ok (.putfield 232, 3) := by decide +kernel
theorem dX11_image_48 : decode cX11_image 48 = .ok (.aload_n 0, 1) := by decide +kernel
theorem dX11_image_49 : decode cX11_image 49 = .ok (.aload_n 0, 1) := by decide +kernel
theorem dX11_image_50 : decode cX11_image 50 = .ok (.getfield 115, 3) := by decide +kernel
theorem dX11_image_53 : decode cX11_image 53 = .ok (.putfield 235, 3) := by decide +kernel
theorem dX11_image_56 : decode cX11_image 56 = .ok (.aload_n 0, 1) := by decide +kernel
theorem dX11_image_57 : decode cX11_image 57 = .ok (.aload_n 0, 1) := by decide +kernel
theorem dX11_image_58 : decode cX11_image 58 = .ok (.getfield 118, 3) := by decide +kernel
theorem dX11_image_61 : decode cX11_image 61 = .ok (.putfield 50, 3) := by decide +kernel
theorem dX11_image_64 : decode cX11_image 64 = .ok (.aload_n 0, 1) := by decide +kernel
theorem dX11_image_65 : decode cX11_image 65 = .ok (.getfield 112, 3) := by decide +kernel
theorem dX11_image_68 : decode cX11_image 68 = .ok (.ireturn, 1) := by decide +kernel
set_option maxRecDepth 20000 in
theorem ggX11_restore_X11_copy : GoodIn wsX11_restore wsX11_copy := goodIn_r _ [16] (by decide +kernel) (by decide +kernel)
set_option maxRecDepth 20000 in
theorem gX11_restore_X11_copy : GoodIn wsX11_restore (va_wsS RX11 105 yX11_copy wsX11_copy) := goodIn_app (goodIn_of _ (by decide +kernel)) ggX11_restore_X11_copy
theorem dX11_restore_0 : decode cX11_restore 0 = .ok (.aload_n 0, 1) := by decide +kernel
theorem dX11_restore_1 : decode cX11_restore 1 = .ok (.getfield 50, 3) := by decide +kernel
theorem dX11_restore_4 : decode cX11_restore 4 = .ok (.aload_n 0, 1) := by decide +kernel
theorem dX11_restore_5 : decode cX11_restore 5 = .ok (.getfield 118, 3) := by decide +kernel
theorem dX11_restore_8 : decode cX11_restore 8 = .ok (.if_icmp .eq 6, 3) := by decide +kernel
theorem dX11_restore_11 : decode cX11_restore 11 = .ok (.bipush (-103), 2) := by decide +kernel
theorem dX11_restore_13 : decode cX11_restore 13 = .ok (.ireturn, 1) := by decide +kernel
theorem dX11_restore_14 : decode cX11_restore 14 = .ok (.aload_n 0, 1) := by decide +kernel
theorem dX11_restore_15 : decode cX11_restore 15 = .ok (.getfield 44, 3) := by decide +kernel
theorem dX11_restore_18 : decode cX11_restore 18 = .ok (.aload_n 0, 1) := by decide +kernel
theorem dX11_restore_19 : decode cX11_restore 19 = .ok (.getfield 25, 3) := by decide +kernel
theorem dX11_restore_22 : decode cX11_restore 22 = .ok (.invokestatic 105, 3) := by decide +kernel
theorem dX11_restore_25 : decode cX11_restore 25 = .ok (.aload_n 0, 1) := by decide +kernel
theorem dX11_restore_26 : decode cX11_restore 26 = .ok (.getfield 47, 3) := by decide +kernel
theorem dX11_restore_29 : decode cX11_restore 29 = .ok (.aload_n 0, 1) := by decide +kernel
theorem dX11_restore_30 : decode cX11_restore 30 = .ok (.getfield 38, 3) := by decide +kernel
theorem dX11_restore_33 : decode cX11_restore 33 = .ok (.invokestatic 105, 3) := by decide +kernel
theorem dX11_restore_36 : decode cX11_restore 36 = .ok (.aload_n 0, 1) := by decide +kernel
theorem dX11_restore_37 : decode cX11_restore 37 = .ok (.aload_n 0, 1) := by decide +kernel
theorem dX11_restore_38 : decode cX11_restore 38 = .ok (.getfield 229, 3) := by decide +kernel
theorem dX11_restore_41 : decode cX11_restore 41 = .ok (.putfield 109, 3) := by decide +kernel
theorem dX11_restore_44 : decode cX11_restore 44 = .ok (.aload_n 0, 1) := by decide +kernel
theorem dX11_restore_45 : decode cX11_restore 45 = .ok (.aload_n 0, 1) := by decide +kernel
theorem dX11_restore_46 : decode cX11_restore 46 = .ok (.getfield 232, 3) := by decide +kernel
theorem dX11_restore_49 : decode cX11_restore 49 = .ok (.putfield 112, 3) := by decide +kernel
theorem dX11_restore_52 : decode cX11_restore 52 = .ok (.aload_n 0, 1) := by decide +kernel
theorem dX11_restore_53 : decode cX11_restore 53 = .ok (.aload_n 0, 1) := by decide +kernel
theorem dX11_restore_54 : decode cX11_restore 54 = .ok (.getfield 235, 3) := by decide +kernel
theorem dX11_restore_57 : decode cX11_restore 57 = .ok (.putfield 115, 3) := by decide +kernel
theorem dX11_restore_60 : decode cX11_restore 60 = .ok (.aload_n 0, 1) := by decide +kernel
end
section
theorem dX11_restore_61 : decode cX11_restore 61 = .ok (.getfield 112, 3) := by decide +kernel
theorem dX11_restore_64 : decode cX11_restore 64 = .ok (.ireturn, 1) := by decide +kernel
set_option maxRecDepth 20000 in
theorem ggX11_wrongMany_X11_isKings : GoodIn wsX11_wrongMany wsX11_isKings := goodIn_r _ [7, 2, 8, 9, 10, 11, 12, 13, 14, 15, 16, 17, 18, 19, 20, 21, 22, 23, 24, 25, 26, 27, 28, 29, 30, 31, 32, 33, 34, 35] (by decide +kernel) (by decide +kernel)
set_option maxRecDepth 20000 in
theorem gX11_wrongMany_X11_isKings : GoodIn wsX11_wrongMany (wsV RX11 145 RX11 yX11_isKings wsX11_isKings) := goodIn_app (goodIn_of _ (by decide +kernel)) ggX11_wrongMany_X11_isKings
theorem dX11_wrongMany_0 : decode cX11_wrongMany 0 = .ok (.iconst 0, 1) := by decide +kernel
theorem dX11_wrongMany_1 : decode cX11_wrongMany 1 = .ok (.istore_n 1, 1) := by decide +kernel
theorem dX11_wrongMany_2 : decode cX11_wrongMany 2 = .ok (.iconst 0, 1) := by decide +kernel
theorem dX11_wrongMany_3 : decode cX11_wrongMany 3 = .ok (.istore_n 2, 1) := by decide +kernel
theorem dX11_wrongMany_4 : decode cX11_wrongMany 4 = .ok (.iload_n 2, 1) := by decide +kernel
theorem dX11_wrongMany_5 : decode cX11_wrongMany 5 = .ok (.aload_n 0, 1) := by decide +kernel
theorem dX11_wrongMany_6 : decode cX11_wrongMany 6 = .ok (.getfield 102, 3) := by decide +kernel
theorem dX11_wrongMany_9 : decode cX11_wrongMany 9 = .ok (.if_icmp .ge 39, 3) := by decide +kernel
theorem dX11_wrongMany_12 : decode cX11_wrongMany 12 = .ok (.iload_n 1, 1) := by decide +kernel
theorem dX11_wrongMany_13 : decode cX11_wrongMany 13 = .ok (.aload_n 0, 1) := by decide +kernel
theorem dX11_wrongMany_14 : decode cX11_wrongMany 14 = .ok (.iload_n 2, 1) := by decide +kernel
theorem dX11_wrongMany_15 : decode cX11_wrongMany 15 = .ok (.invokevirtual 145, 3) := by decide +kernel
theorem dX11_wrongMany_18 : decode cX11_wrongMany 18 = .ok (.ifCond .ne 21, 3) := by decide +kernel
theorem dX11_wrongMany_21 : decode cX11_wrongMany 21 = .ok (.aload_n 0, 1) := by decide +kernel
theorem dX11_wrongMany_22 : decode cX11_wrongMany 22 = .ok (.getfield 25, 3) := by decide +kernel
theorem dX11_wrongMany_25 : decode cX11_wrongMany 25 = .ok (.bipush 6, 2) := by decide +kernel
theorem dX11_wrongMany_27 : decode cX11_wrongMany 27 = .ok (.iload_n 2, 1) := by decide +kernel
theorem dX11_wrongMany_28 : decode cX11_wrongMany 28 = .ok (.imul, 1) := by decide +kernel
theorem dX11_wrongMany_29 : decode cX11_wrongMany 29 = .ok (.iconst 4, 1) := by decide +kernel
theorem dX11_wrongMany_30 : decode cX11_wrongMany 30 = .ok (.iadd, 1) := by decide +kernel
theorem dX11_wrongMany_31 : decode cX11_wrongMany 31 = .ok (.iaload, 1) := by decide +kernel
theorem dX11_wrongMany_32 : decode cX11_wrongMany 32 = .ok (.ifCond .ne 7, 3) := by decide +kernel
theorem dX11_wrongMany_35 : decode cX11_wrongMany 35 = .ok (.iconst 1, 1) := by decide +kernel
theorem dX11_wrongMany_36 : decode cX11_wrongMany 36 = .ok (.goto 4, 3) := by decide +kernel
theorem dX11_wrongMany_39 : decode cX11_wrongMany 39 = .ok (.iconst 0, 1) := by decide +kernel
theorem dX11_wrongMany_40 : decode cX11_wrongMany 40 = .ok (.iadd, 1) := by decide +kernel
theorem dX11_wrongMany_41 : decode cX11_wrongMany 41 = .ok (.istore_n 1, 1) := by decide +kernel
theorem dX11_wrongMany_42 : decode cX11_wrongMany 42 = .ok (.iinc 2 1, 3) := by decide +kernel
theorem dX11_wrongMany_45 : decode cX11_wrongMany 45 = .ok (.goto (-41), 3) := by decide +kernel
theorem dX11_wrongMany_48 : decode cX11_wrongMany 48 = .ok (.iload_n 1, 1) := by decide +kernel
theorem dX11_wrongMany_49 : decode cX11_wrongMany 49 = .ok (.ireturn, 1) := by decide +kernel
set_option maxRecDepth 20000 in
theorem ggX11_countOf_X11_kingsMany : GoodIn wsX11_countOf wsX11_kingsMany := goodIn_r _ [11, 1, 12, 13, 14, 10, 15, 16, 29, 30, 31, 32, 33, 34, 35, 36, 37, 38, 39, 40, 41, 42, 43, 44, 45, 46, 47, 48, 49, 50, 51, 52, 53, 54, 55, 56] (by decide +kernel) (by decide +kernel)
set_option maxRecDepth 20000 in
theorem gX11_countOf_X11_kingsMany : GoodIn wsX11_countOf (wsV RX11 220 RX11 yX11_kingsMany wsX11_kingsMany) := goodIn_app (goodIn_of _ (by decide +kernel)) ggX11_countOf_X11_kingsMany
set_option maxRecDepth 20000 in
theorem ggX11_countOf_X11_lawOf : GoodIn wsX11_countOf wsX11_lawOf := goodIn_r _ [20, 1, 16, 21, 22, 23, 10, 24, 12, 13, 14, 15, 29, 30, 31, 32, 33, 34, 35, 36, 37, 38, 39, 40, 41, 42, 43, 44, 45, 46, 47, 48, 49, 50, 51, 52, 53, 54, 55, 56] (by decide +kernel) (by decide +kernel)
set_option maxRecDepth 20000 in
theorem gX11_countOf_X11_lawOf : GoodIn wsX11_countOf (wsV RX11 190 RX11 yX11_lawOf wsX11_lawOf) := goodIn_app (goodIn_of _ (by decide +kernel)) ggX11_countOf_X11_lawOf
set_option maxRecDepth 20000 in
theorem ggX11_countOf_X11_wrongMany : GoodIn wsX11_countOf wsX11_wrongMany := goodIn_r _ [28, 1, 16, 12, 13, 14, 10, 15, 29, 30, 31, 32, 33, 34, 35, 36, 37, 38, 39, 40, 41, 42, 43, 44, 45, 46, 47, 48, 49, 50, 51, 52, 53, 54, 55, 56] (by decide +kernel) (by decide +kernel)
set_option maxRecDepth 20000 in
theorem gX11_countOf_X11_wrongMany : GoodIn wsX11_countOf (wsV RX11 238 RX11 yX11_wrongMany wsX11_wrongMany) := goodIn_app (goodIn_of _ (by decide +kernel)) ggX11_countOf_X11_wrongMany
theorem dX11_countOf_0 : decode cX11_countOf 0 = .ok (.iload_n 1, 1) := by decide +kernel
theorem dX11_countOf_1 : decode cX11_countOf 1 = .ok (.tableswitch 98 0 8 #[51, 56, 61, 68, 73, 78, 83, 88, 93], 51) := by decide +kernel
theorem dX11_countOf_52 : decode cX11_countOf 52 = .ok (.aload_n 0, 1) := by decide +kernel
theorem dX11_countOf_53 : decode cX11_countOf 53 = .ok (.getfield 102, 3) := by decide +kernel
theorem dX11_countOf_56 : decode cX11_countOf 56 = .ok (.ireturn, 1) := by decide +kernel
theorem dX11_countOf_57 : decode cX11_countOf 57 = .ok (.aload_n 0, 1) := by decide +kernel
theorem dX11_countOf_58 : decode cX11_countOf 58 = .ok (.invokevirtual 220, 3) := by decide +kernel
theorem dX11_countOf_61 : decode cX11_countOf 61 = .ok (.ireturn, 1) := by decide +kernel
theorem dX11_countOf_62 : decode cX11_countOf 62 = .ok (.aload_n 0, 1) := by decide +kernel
theorem dX11_countOf_63 : decode cX11_countOf 63 = .ok (.iconst 0, 1) := by decide +kernel
theorem dX11_countOf_64 : decode cX11_countOf 64 = .ok (.iconst 1, 1) := by decide +kernel
theorem dX11_countOf_65 : decode cX11_countOf 65 = .ok (.invokevirtual 190, 3) := by decide +kernel
theorem dX11_countOf_68 : decode cX11_countOf 68 = .ok (.ireturn, 1) := by decide +kernel
theorem dX11_countOf_69 : decode cX11_countOf 69 = .ok (.aload_n 0, 1) := by decide +kernel
theorem dX11_countOf_70 : decode cX11_countOf 70 = .ok (.getfield 109, 3) := by decide +kernel
theorem dX11_countOf_73 : decode cX11_countOf 73 = .ok (.ireturn, 1) := by decide +kernel
theorem dX11_countOf_74 : decode cX11_countOf 74 = .ok (.aload_n 0, 1) := by decide +kernel
theorem dX11_countOf_75 : decode cX11_countOf 75 = .ok (.getfield 112, 3) := by decide +kernel
theorem dX11_countOf_78 : decode cX11_countOf 78 = .ok (.ireturn, 1) := by decide +kernel
theorem dX11_countOf_79 : decode cX11_countOf 79 = .ok (.aload_n 0, 1) := by decide +kernel
theorem dX11_countOf_80 : decode cX11_countOf 80 = .ok (.invokevirtual 238, 3) := by decide +kernel
theorem dX11_countOf_83 : decode cX11_countOf 83 = .ok (.ireturn, 1) := by decide +kernel
theorem dX11_countOf_84 : decode cX11_countOf 84 = .ok (.aload_n 0, 1) := by decide +kernel
theorem dX11_countOf_85 : decode cX11_countOf 85 = .ok (.getfield 115, 3) := by decide +kernel
theorem dX11_countOf_88 : decode cX11_countOf 88 = .ok (.ireturn, 1) := by decide +kernel
theorem dX11_countOf_89 : decode cX11_countOf 89 = .ok (.aload_n 0, 1) := by decide +kernel
theorem dX11_countOf_90 : decode cX11_countOf 90 = .ok (.getfield 71, 3) := by decide +kernel
theorem dX11_countOf_93 : decode cX11_countOf 93 = .ok (.ireturn, 1) := by decide +kernel
theorem dX11_countOf_94 : decode cX11_countOf 94 = .ok (.aload_n 0, 1) := by decide +kernel
theorem dX11_countOf_95 : decode cX11_countOf 95 = .ok (.getfield 118, 3) := by decide +kernel
theorem dX11_countOf_98 : decode cX11_countOf 98 = .ok (.ireturn, 1) := by decide +kernel
theorem dX11_countOf_99 : decode cX11_countOf 99 = .ok (.bipush (-102), 2) := by decide +kernel
theorem dX11_countOf_101 : decode cX11_countOf 101 = .ok (.ireturn, 1) := by decide +kernel
set_option maxRecDepth 20000 in
theorem ggX11_count_X11_countOf : GoodIn wsX11_count wsX11_countOf := goodIn_r _ [5, 6, 7, 8, 9, 10, 11, 12, 13, 14, 4, 15, 16, 17, 18, 19, 20, 21, 22, 23, 24, 25, 26, 27, 28, 29, 30, 31, 32, 33, 34, 35, 36, 37, 38, 39, 40, 41, 42, 43, 44, 45, 46, 47, 48, 49, 50, 51, 52, 53, 54, 55, 56, 57, 58, 59, 60] (by decide +kernel) (by decide +kernel)
set_option maxRecDepth 20000 in
theorem gX11_count_X11_countOf : GoodIn wsX11_count (wsV RX11 241 RX11 yX11_countOf wsX11_countOf) := goodIn_app (goodIn_of _ (by decide +kernel)) ggX11_count_X11_countOf
theorem dX11_count_0 : decode cX11_count 0 = .ok (.aload_n 0, 1) := by decide +kernel
theorem dX11_count_1 : decode cX11_count 1 = .ok (.iload_n 1, 1) := by decide +kernel
theorem dX11_count_2 : decode cX11_count 2 = .ok (.invokevirtual 241, 3) := by decide +kernel
theorem dX11_count_5 : decode cX11_count 5 = .ok (.ireturn, 1) := by decide +kernel
theorem dX11_say_0 : decode cX11_say 0 = .ok (.aload_n 0, 1) := by decide +kernel
theorem dX11_say_1 : decode cX11_say 1 = .ok (.ldc2_w 244, 3) := by decide +kernel
theorem dX11_say_4 : decode cX11_say 4 = .ok (.aload_n 0, 1) := by decide +kernel
theorem dX11_say_5 : decode cX11_say 5 = .ok (.getfield 246, 3) := by decide +kernel
theorem dX11_say_8 : decode cX11_say 8 = .ok (.lmul, 1) := by decide +kernel
theorem dX11_say_9 : decode cX11_say 9 = .ok (.lload_n 1, 1) := by decide +kernel
theorem dX11_say_10 : decode cX11_say 10 = .ok (.ladd, 1) := by decide +kernel
theorem dX11_say_11 : decode cX11_say 11 = .ok (.putfield 246, 3) := by decide +kernel
theorem dX11_say_14 : decode cX11_say 14 = .ok (.return_, 1) := by decide +kernel
set_option maxRecDepth 20000 in
theorem ggX11_sayHall_X11_tellDice : GoodIn wsX11_sayHall wsX11_tellDice := goodIn_r _ [5, 6, 7, 8, 4, 9, 10, 11, 12, 13, 14, 15, 16, 17, 18, 19, 20, 21, 22, 58, 59, 60, 61, 62, 63, 64, 65, 66, 67, 68, 69, 70, 71, 72, 73, 74, 75, 76, 77, 78, 79, 80, 81, 82, 83, 84, 85] (by decide +kernel) (by decide +kernel)
set_option maxRecDepth 20000 in
theorem gX11_sayHall_X11_tellDice : GoodIn wsX11_sayHall (wsV RX11 136 RX11 yX11_tellDice wsX11_tellDice) := goodIn_app (goodIn_of _ (by decide +kernel)) ggX11_sayHall_X11_tellDice
set_option maxRecDepth 20000 in
theorem ggX11_sayHall_X11_say : GoodIn wsX11_sayHall wsX11_say := goodIn_r _ [26, 27, 28, 58, 59, 60, 61, 62, 63, 64, 65, 66, 67, 68, 69, 70, 71, 72, 73, 74, 75, 76, 77, 78, 79, 80, 81, 82, 83, 84, 85] (by decide +kernel) (by decide +kernel)
set_option maxRecDepth 20000 in
theorem gX11_sayHall_X11_say : GoodIn wsX11_sayHall (wsV RX11 250 RX11 yX11_say wsX11_say) := goodIn_app (goodIn_of _ (by decide +kernel)) ggX11_sayHall_X11_say
set_option maxRecDepth 20000 in
theorem ggX11_sayHall_X11_oddsOf : GoodIn wsX11_sayHall wsX11_oddsOf := goodIn_r _ [32, 33, 34, 35, 4, 36, 6, 17, 18, 19, 20, 21, 22, 37, 38, 39, 40, 13, 14, 15, 16, 41, 42, 43, 58, 59, 60, 61, 62, 63, 64, 65, 66, 67, 68, 69, 70, 71, 72, 73, 74, 75, 76, 77, 78, 79, 80, 81, 82, 83, 84, 85] (by decide +kernel) (by decide +kernel)
set_option maxRecDepth 20000 in
theorem gX11_sayHall_X11_oddsOf : GoodIn wsX11_sayHall (wsV RX11 171 RX11 yX11_oddsOf wsX11_oddsOf) := goodIn_app (goodIn_of _ (by decide +kernel)) ggX11_sayHall_X11_oddsOf
set_option maxRecDepth 20000 in
theorem ggX11_sayHall_X11_lawOf : GoodIn wsX11_sayHall wsX11_lawOf := goodIn_r _ [47, 48, 49, 50, 51, 52, 4, 53, 54, 55, 56, 57, 58, 59, 60, 61, 62, 63, 64, 65, 66, 67, 68, 69, 70, 71, 72, 73, 74, 75, 76, 77, 78, 79, 80, 81, 82, 83, 84, 85] (by decide +kernel) (by decide +kernel)
set_option maxRecDepth 20000 in
theorem gX11_sayHall_X11_lawOf : GoodIn wsX11_sayHall (wsV RX11 190 RX11 yX11_lawOf wsX11_lawOf) := goodIn_app (goodIn_of _ (by decide +kernel)) ggX11_sayHall_X11_lawOf
theorem dX11_sayHall_0 : decode cX11_sayHall 0 = .ok (.iconst 0, 1) := by decide +kernel
theorem dX11_sayHall_1 : decode cX11_sayHall 1 = .ok (.istore_n 1, 1) := by decide +kernel
theorem dX11_sayHall_2 : decode cX11_sayHall 2 = .ok (.iload_n 1, 1) := by decide +kernel
theorem dX11_sayHall_3 : decode cX11_sayHall 3 = .ok (.iconst 2, 1) := by decide +kernel
theorem dX11_sayHall_4 : decode cX11_sayHall 4 = .ok (.if_icmp .ge 33, 3) := by decide +kernel
theorem dX11_sayHall_7 : decode cX11_sayHall 7 = .ok (.iconst 0, 1) := by decide +kernel
theorem dX11_sayHall_8 : decode cX11_sayHall 8 = .ok (.istore_n 2, 1) := by decide +kernel
theorem dX11_sayHall_9 : decode cX11_sayHall 9 = .ok (.iload_n 2, 1) := by decide +kernel
theorem dX11_sayHall_10 : decode cX11_sayHall 10 = .ok (.iconst 4, 1) := by decide +kernel
theorem dX11_sayHall_11 : decode cX11_sayHall 11 = .ok (.if_icmp .ge 20, 3) := by decide +kernel
theorem dX11_sayHall_14 : decode cX11_sayHall 14 = .ok (.aload_n 0, 1) := by decide +kernel
theorem dX11_sayHall_15 : decode cX11_sayHall 15 = .ok (.aload_n 0, 1) := by decide +kernel
theorem dX11_sayHall_16 : decode cX11_sayHall 16 = .ok (.iload_n 1, 1) := by decide +kernel
theorem dX11_sayHall_17 : decode cX11_sayHall 17 = .ok (.iload_n 2, 1) := by decide +kernel
theorem dX11_sayHall_18 : decode cX11_sayHall 18 = .ok (.invokevirtual 136, 3) := by decide +kernel
theorem dX11_sayHall_21 : decode cX11_sayHall 21 = .ok (.i2l, 1) := by decide +kernel
theorem dX11_sayHall_22 : decode cX11_sayHall 22 = .ok (.invokevirtual 250, 3) := by decide +kernel
theorem dX11_sayHall_25 : decode cX11_sayHall 25 = .ok (.iinc 2 1, 3) := by decide +kernel
theorem dX11_sayHall_28 : decode cX11_sayHall 28 = .ok (.goto (-19), 3) := by decide +kernel
theorem dX11_sayHall_31 : decode cX11_sayHall 31 = .ok (.iinc 1 1, 3) := by decide +kernel
theorem dX11_sayHall_34 : decode cX11_sayHall 34 = .ok (.goto (-32), 3) := by decide +kernel
theorem dX11_sayHall_37 : decode cX11_sayHall 37 = .ok (.iconst 0, 1) := by decide +kernel
theorem dX11_sayHall_38 : decode cX11_sayHall 38 = .ok (.istore_n 1, 1) := by decide +kernel
theorem dX11_sayHall_39 : decode cX11_sayHall 39 = .ok (.iload_n 1, 1) := by decide +kernel
theorem dX11_sayHall_40 : decode cX11_sayHall 40 = .ok (.bipush 6, 2) := by decide +kernel
theorem dX11_sayHall_42 : decode cX11_sayHall 42 = .ok (.if_icmp .ge 19, 3) := by decide +kernel
theorem dX11_sayHall_45 : decode cX11_sayHall 45 = .ok (.aload_n 0, 1) := by decide +kernel
theorem dX11_sayHall_46 : decode cX11_sayHall 46 = .ok (.aload_n 0, 1) := by decide +kernel
theorem dX11_sayHall_47 : decode cX11_sayHall 47 = .ok (.iload_n 1, 1) := by decide +kernel
theorem dX11_sayHall_48 : decode cX11_sayHall 48 = .ok (.invokevirtual 171, 3) := by decide +kernel
theorem dX11_sayHall_51 : decode cX11_sayHall 51 = .ok (.i2l, 1) := by decide +kernel
theorem dX11_sayHall_52 : decode cX11_sayHall 52 = .ok (.invokevirtual 250, 3) := by decide +kernel
theorem dX11_sayHall_55 : decode cX11_sayHall 55 = .ok (.iinc 1 1, 3) := by decide +kernel
theorem dX11_sayHall_58 : decode cX11_sayHall 58 = .ok (.goto (-19), 3) := by decide +kernel
theorem dX11_sayHall_61 : decode cX11_sayHall 61 = .ok (.iconst 0, 1) := by decide +kernel
theorem dX11_sayHall_62 : decode cX11_sayHall 62 = .ok (.istore_n 1, 1) := by decide +kernel
theorem dX11_sayHall_63 : decode cX11_sayHall 63 = .ok (.iload_n 1, 1) := by decide +kernel
theorem dX11_sayHall_64 : decode cX11_sayHall 64 = .ok (.iconst 4, 1) := by decide +kernel
theorem dX11_sayHall_65 : decode cX11_sayHall 65 = .ok (.if_icmp .ge 31, 3) := by decide +kernel
theorem dX11_sayHall_68 : decode cX11_sayHall 68 = .ok (.aload_n 0, 1) := by decide +kernel
theorem dX11_sayHall_69 : decode cX11_sayHall 69 = .ok (.aload_n 0, 1) := by decide +kernel
theorem dX11_sayHall_70 : decode cX11_sayHall 70 = .ok (.iload_n 1, 1) := by decide +kernel
theorem dX11_sayHall_71 : decode cX11_sayHall 71 = .ok (.iconst 0, 1) := by decide +kernel
theorem dX11_sayHall_72 : decode cX11_sayHall 72 = .ok (.invokevirtual 190, 3) := by decide +kernel
theorem dX11_sayHall_75 : decode cX11_sayHall 75 = .ok (.i2l, 1) := by decide +kernel
theorem dX11_sayHall_76 : decode cX11_sayHall 76 = .ok (.invokevirtual 250, 3) := by decide +kernel
theorem dX11_sayHall_79 : decode cX11_sayHall 79 = .ok (.aload_n 0, 1) := by decide +kernel
theorem dX11_sayHall_80 : decode cX11_sayHall 80 = .ok (.aload_n 0, 1) := by decide +kernel
theorem dX11_sayHall_81 : decode cX11_sayHall 81 = .ok (.iload_n 1, 1) := by decide +kernel
theorem dX11_sayHall_82 : decode cX11_sayHall 82 = .ok (.iconst 1, 1) := by decide +kernel
theorem dX11_sayHall_83 : decode cX11_sayHall 83 = .ok (.invokevirtual 190, 3) := by decide +kernel
theorem dX11_sayHall_86 : decode cX11_sayHall 86 = .ok (.i2l, 1) := by decide +kernel
theorem dX11_sayHall_87 : decode cX11_sayHall 87 = .ok (.invokevirtual 250, 3) := by decide +kernel
theorem dX11_sayHall_90 : decode cX11_sayHall 90 = .ok (.iinc 1 1, 3) := by decide +kernel
theorem dX11_sayHall_93 : decode cX11_sayHall 93 = .ok (.goto (-30), 3) := by decide +kernel
theorem dX11_sayHall_96 : decode cX11_sayHall 96 = .ok (.return_, 1) := by decide +kernel
set_option maxRecDepth 20000 in
theorem ggX11_digest_X11_say : GoodIn wsX11_digest wsX11_say := goodIn_r _ [11, 12, 2, 108, 109, 110, 111, 112, 113, 114, 115, 116, 117, 118, 119, 120, 121, 122, 123, 124, 125, 126, 127, 128, 129, 130, 131, 132, 133, 134, 135] (by decide +kernel) (by decide +kernel)
set_option maxRecDepth 20000 in
theorem gX11_digest_X11_say : GoodIn wsX11_digest (wsV RX11 250 RX11 yX11_say wsX11_say) := goodIn_app (goodIn_of _ (by decide +kernel)) ggX11_digest_X11_say
set_option maxRecDepth 20000 in
theorem ggX11_digest_X11_isKings : GoodIn wsX11_digest wsX11_isKings := goodIn_r _ [16, 4, 108, 109, 110, 111, 112, 113, 114, 115, 116, 117, 118, 119, 120, 121, 122, 123, 124, 125, 126, 127, 128, 129, 130, 131, 132, 133, 134, 135] (by decide +kernel) (by decide +kernel)
set_option maxRecDepth 20000 in
theorem gX11_digest_X11_isKings : GoodIn wsX11_digest (wsV RX11 145 RX11 yX11_isKings wsX11_isKings) := goodIn_app (goodIn_of _ (by decide +kernel)) ggX11_digest_X11_isKings
set_option maxRecDepth 20000 in
theorem ggX11_digest_X11_backOf : GoodIn wsX11_digest wsX11_backOf := goodIn_r _ [20, 3, 4, 21, 22, 13, 14, 15, 10, 16, 23, 24, 25, 26, 27, 28, 29, 30, 31, 32, 33, 34, 35, 36, 37, 38, 39, 40, 41, 42, 43, 44, 108, 109, 110, 111, 112, 113, 114, 115, 116, 117, 118, 119, 120, 121, 122, 123, 124, 125, 126, 127, 128, 129, 130, 131, 132, 133, 134, 135] (by decide +kernel) (by decide +kernel)
set_option maxRecDepth 20000 in
theorem gX11_digest_X11_backOf : GoodIn wsX11_digest (wsV RX11 180 RX11 yX11_backOf wsX11_backOf) := goodIn_app (goodIn_of _ (by decide +kernel)) ggX11_digest_X11_backOf
set_option maxRecDepth 20000 in
theorem ggX11_digest_X11_lacks : GoodIn wsX11_digest wsX11_lacks := goodIn_r _ [48, 3, 108, 109, 110, 111, 112, 113, 114, 115, 116, 117, 118, 119, 120, 121, 122, 123, 124, 125, 126, 127, 128, 129, 130, 131, 132, 133, 134, 135] (by decide +kernel) (by decide +kernel)
set_option maxRecDepth 20000 in
theorem gX11_digest_X11_lacks : GoodIn wsX11_digest (wsV RX11 121 RX11 yX11_lacks wsX11_lacks) := goodIn_app (goodIn_of _ (by decide +kernel)) ggX11_digest_X11_lacks
set_option maxRecDepth 20000 in
theorem ggX11_digest_X11_sayHall : GoodIn wsX11_digest wsX11_sayHall := goodIn_r _ [52, 53, 54, 55, 10, 56, 27, 57, 58, 59, 60, 61, 62, 38, 39, 40, 41, 28, 29, 30, 31, 32, 33, 7, 8, 9, 11, 12, 2, 63, 64, 65, 66, 23, 24, 25, 26, 34, 35, 36, 37, 42, 43, 44, 67, 68, 69, 70, 3, 4, 71, 72, 73, 74, 13, 14, 15, 16, 108, 109, 110, 111, 112, 113, 114, 115, 116, 117, 118, 119, 120, 121, 122, 123, 124, 125, 126, 127, 128, 129, 130, 131, 132, 133, 134, 135] (by decide +kernel) (by decide +kernel)
set_option maxRecDepth 20000 in
theorem gX11_digest_X11_sayHall : GoodIn wsX11_digest (wsV RX11 256 RX11 yX11_sayHall wsX11_sayHall) := goodIn_app (goodIn_of _ (by decide +kernel)) ggX11_digest_X11_sayHall
set_option maxRecDepth 20000 in
theorem ggX11_digest_X11_whichOf : GoodIn wsX11_digest wsX11_whichOf := goodIn_r _ [78, 79, 80, 81, 10, 82, 83, 84, 28, 29, 30, 31, 32, 33, 108, 109, 110, 111, 112, 113, 114, 115, 116, 117, 118, 119, 120, 121, 122, 123, 124, 125, 126, 127, 128, 129, 130, 131, 132, 133, 134, 135] (by decide +kernel) (by decide +kernel)
set_option maxRecDepth 20000 in
theorem gX11_digest_X11_whichOf : GoodIn wsX11_digest (wsV RX11 196 RX11 yX11_whichOf wsX11_whichOf) := goodIn_app (goodIn_of _ (by decide +kernel)) ggX11_digest_X11_whichOf
set_option maxRecDepth 20000 in
theorem ggX11_digest_X11_likelyOf : GoodIn wsX11_digest wsX11_likelyOf := goodIn_r _ [88, 79, 80, 81, 10, 82, 83, 84, 28, 29, 30, 31, 32, 33, 89, 90, 91, 92, 38, 39, 40, 41, 108, 109, 110, 111, 112, 113, 114, 115, 116, 117, 118, 119, 120, 121, 122, 123, 124, 125, 126, 127, 128, 129, 130, 131, 132, 133, 134, 135] (by decide +kernel) (by decide +kernel)
set_option maxRecDepth 20000 in
theorem gX11_digest_X11_likelyOf : GoodIn wsX11_digest (wsV RX11 202 RX11 yX11_likelyOf wsX11_likelyOf) := goodIn_app (goodIn_of _ (by decide +kernel)) ggX11_digest_X11_likelyOf
set_option maxRecDepth 20000 in
theorem ggX11_digest_X11_countOf : GoodIn wsX11_digest wsX11_countOf := goodIn_r _ [96, 3, 97, 98, 83, 5, 99, 100, 101, 102, 10, 103, 13, 14, 15, 16, 4, 67, 68, 69, 70, 71, 72, 73, 74, 104, 105, 106, 107, 108, 109, 110, 111, 112, 113, 114, 115, 116, 117, 118, 119, 120, 121, 122, 123, 124, 125, 126, 127, 128, 129, 130, 131, 132, 133, 134, 135] (by decide +kernel) (by decide +kernel)
set_option maxRecDepth 20000 in
theorem gX11_digest_X11_countOf : GoodIn wsX11_digest (wsV RX11 241 RX11 yX11_countOf wsX11_countOf) := goodIn_app (goodIn_of _ (by decide +kernel)) ggX11_digest_X11_countOf
theorem dX11_digest_0 : decode cX11_digest 0 = .ok (.aload_n 0, 1) := by decide +kernel
theorem dX11_digest_1 : decode cX11_digest 1 = .ok (.ldc2_w 254, 3) := by decide +kernel
theorem dX11_digest_4 : decode cX11_digest 4 = .ok (.putfield 246, 3) := by decide +kernel
theorem dX11_digest_7 : decode cX11_digest 7 = .ok (.iconst 0, 1) := by decide +kernel
theorem dX11_digest_8 : decode cX11_digest 8 = .ok (.istore_n 1, 1) := by decide +kernel
theorem dX11_digest_9 : decode cX11_digest 9 = .ok (.iload_n 1, 1) := by decide +kernel
theorem dX11_digest_10 : decode cX11_digest 10 = .ok (.aload_n 0, 1) := by decide +kernel
theorem dX11_digest_11 : decode cX11_digest 11 = .ok (.getfield 102, 3) := by decide +kernel
theorem dX11_digest_14 : decode cX11_digest 14 = .ok (.if_icmp .ge 69, 3) := by decide +kernel
theorem dX11_digest_17 : decode cX11_digest 17 = .ok (.iconst 0, 1) := by decide +kernel
theorem dX11_digest_18 : decode cX11_digest 18 = .ok (.istore_n 2, 1) := by decide +kernel
theorem dX11_digest_19 : decode cX11_digest 19 = .ok (.iload_n 2, 1) := by decide +kernel
theorem dX11_digest_20 : decode cX11_digest 20 = .ok (.bipush 6, 2) := by decide +kernel
theorem dX11_digest_22 : decode cX11_digest 22 = .ok (.if_icmp .ge 25, 3) := by decide +kernel
theorem dX11_digest_25 : decode cX11_digest 25 = .ok (.aload_n 0, 1) := by decide +kernel
theorem dX11_digest_26 : decode cX11_digest 26 = .ok (.aload_n 0, 1) := by decide +kernel
theorem dX11_digest_27 : decode cX11_digest 27 = .ok (.getfield 25, 3) := by decide +kernel
theorem dX11_digest_30 : decode cX11_digest 30 = .ok (.bipush 6, 2) := by decide +kernel
theorem dX11_digest_32 : decode cX11_digest 32 = .ok (.iload_n 1, 1) := by decide +kernel
theorem dX11_digest_33 : decode cX11_digest 33 = .ok (.imul, 1) := by decide +kernel
theorem dX11_digest_34 : decode cX11_digest 34 = .ok (.iload_n 2, 1) := by decide +kernel
theorem dX11_digest_35 : decode cX11_digest 35 = .ok (.iadd, 1) := by decide +kernel
theorem dX11_digest_36 : decode cX11_digest 36 = .ok (.iaload, 1) := by decide +kernel
theorem dX11_digest_37 : decode cX11_digest 37 = .ok (.i2l, 1) := by decide +kernel
theorem dX11_digest_38 : decode cX11_digest 38 = .ok (.invokevirtual 250, 3) := by decide +kernel
theorem dX11_digest_41 : decode cX11_digest 41 = .ok (.iinc 2 1, 3) := by decide +kernel
theorem dX11_digest_44 : decode cX11_digest 44 = .ok (.goto (-25), 3) := by decide +kernel
theorem dX11_digest_47 : decode cX11_digest 47 = .ok (.aload_n 0, 1) := by decide +kernel
theorem dX11_digest_48 : decode cX11_digest 48 = .ok (.iload_n 1, 1) := by decide +kernel
theorem dX11_digest_49 : decode cX11_digest 49 = .ok (.invokevirtual 145, 3) := by decide +kernel
theorem dX11_digest_52 : decode cX11_digest 52 = .ok (.ifCond .ne 25, 3) := by decide +kernel
theorem dX11_digest_55 : decode cX11_digest 55 = .ok (.aload_n 0, 1) := by decide +kernel
theorem dX11_digest_56 : decode cX11_digest 56 = .ok (.aload_n 0, 1) := by decide +kernel
theorem dX11_digest_57 : decode cX11_digest 57 = .ok (.iload_n 1, 1) := by decide +kernel
theorem dX11_digest_58 : decode cX11_digest 58 = .ok (.iconst 3, 1) := by decide +kernel
theorem dX11_digest_59 : decode cX11_digest 59 = .ok (.iconst 0, 1) := by decide +kernel
theorem dX11_digest_60 : decode cX11_digest 60 = .ok (.invokevirtual 180, 3) := by decide +kernel
theorem dX11_digest_63 : decode cX11_digest 63 = .ok (.invokevirtual 250, 3) := by decide +kernel
theorem dX11_digest_66 : decode cX11_digest 66 = .ok (.aload_n 0, 1) := by decide +kernel
theorem dX11_digest_67 : decode cX11_digest 67 = .ok (.aload_n 0, 1) := by decide +kernel
theorem dX11_digest_68 : decode cX11_digest 68 = .ok (.iload_n 1, 1) := by decide +kernel
theorem dX11_digest_69 : decode cX11_digest 69 = .ok (.iconst 3, 1) := by decide +kernel
theorem dX11_digest_70 : decode cX11_digest 70 = .ok (.iconst 1, 1) := by decide +kernel
theorem dX11_digest_71 : decode cX11_digest 71 = .ok (.invokevirtual 180, 3) := by decide +kernel
theorem dX11_digest_74 : decode cX11_digest 74 = .ok (.invokevirtual 250, 3) := by decide +kernel
theorem dX11_digest_77 : decode cX11_digest 77 = .ok (.iinc 1 1, 3) := by decide +kernel
theorem dX11_digest_80 : decode cX11_digest 80 = .ok (.goto (-71), 3) := by decide +kernel
theorem dX11_digest_83 : decode cX11_digest 83 = .ok (.aload_n 0, 1) := by decide +kernel
theorem dX11_digest_84 : decode cX11_digest 84 = .ok (.invokevirtual 121, 3) := by decide +kernel
theorem dX11_digest_87 : decode cX11_digest 87 = .ok (.ifCond .ne 7, 3) := by decide +kernel
theorem dX11_digest_90 : decode cX11_digest 90 = .ok (.aload_n 0, 1) := by decide +kernel
theorem dX11_digest_91 : decode cX11_digest 91 = .ok (.invokevirtual 256, 3) := by decide +kernel
theorem dX11_digest_94 : decode cX11_digest 94 = .ok (.aload_n 0, 1) := by decide +kernel
theorem dX11_digest_95 : decode cX11_digest 95 = .ok (.aload_n 0, 1) := by decide +kernel
theorem dX11_digest_96 : decode cX11_digest 96 = .ok (.invokevirtual 196, 3) := by decide +kernel
theorem dX11_digest_99 : decode cX11_digest 99 = .ok (.i2l, 1) := by decide +kernel
theorem dX11_digest_100 : decode cX11_digest 100 = .ok (.invokevirtual 250, 3) := by decide +kernel
theorem dX11_digest_103 : decode cX11_digest 103 = .ok (.aload_n 0, 1) := by decide +kernel
theorem dX11_digest_104 : decode cX11_digest 104 = .ok (.aload_n 0, 1) := by decide +kernel
theorem dX11_digest_105 : decode cX11_digest 105 = .ok (.invokevirtual 202, 3) := by decide +kernel
theorem dX11_digest_108 : decode cX11_digest 108 = .ok (.i2l, 1) := by decide +kernel
theorem dX11_digest_109 : decode cX11_digest 109 = .ok (.invokevirtual 250, 3) := by decide +kernel
theorem dX11_digest_112 : decode cX11_digest 112 = .ok (.iconst 0, 1) := by decide +kernel
theorem dX11_digest_113 : decode cX11_digest 113 = .ok (.istore_n 1, 1) := by decide +kernel
theorem dX11_digest_114 : decode cX11_digest 114 = .ok (.iload_n 1, 1) := by decide +kernel
theorem dX11_digest_115 : decode cX11_digest 115 = .ok (.aload_n 0, 1) := by decide +kernel
theorem dX11_digest_116 : decode cX11_digest 116 = .ok (.getfield 71, 3) := by decide +kernel
theorem dX11_digest_119 : decode cX11_digest 119 = .ok (.if_icmp .ge 20, 3) := by decide +kernel
theorem dX11_digest_122 : decode cX11_digest 122 = .ok (.aload_n 0, 1) := by decide +kernel
theorem dX11_digest_123 : decode cX11_digest 123 = .ok (.aload_n 0, 1) := by decide +kernel
theorem dX11_digest_124 : decode cX11_digest 124 = .ok (.getfield 16, 3) := by decide +kernel
theorem dX11_digest_127 : decode cX11_digest 127 = .ok (.iload_n 1, 1) := by decide +kernel
theorem dX11_digest_128 : decode cX11_digest 128 = .ok (.iaload, 1) := by decide +kernel
theorem dX11_digest_129 : decode cX11_digest 129 = .ok (.i2l, 1) := by decide +kernel
theorem dX11_digest_130 : decode cX11_digest 130 = .ok (.invokevirtual 250, 3) := by decide +kernel
theorem dX11_digest_133 : decode cX11_digest 133 = .ok (.iinc 1 1, 3) := by decide +kernel
theorem dX11_digest_136 : decode cX11_digest 136 = .ok (.goto (-22), 3) := by decide +kernel
theorem dX11_digest_139 : decode cX11_digest 139 = .ok (.iconst 0, 1) := by decide +kernel
theorem dX11_digest_140 : decode cX11_digest 140 = .ok (.istore_n 1, 1) := by decide +kernel
theorem dX11_digest_141 : decode cX11_digest 141 = .ok (.iload_n 1, 1) := by decide +kernel
theorem dX11_digest_142 : decode cX11_digest 142 = .ok (.bipush 9, 2) := by decide +kernel
theorem dX11_digest_144 : decode cX11_digest 144 = .ok (.if_icmp .ge 19, 3) := by decide +kernel
theorem dX11_digest_147 : decode cX11_digest 147 = .ok (.aload_n 0, 1) := by decide +kernel
theorem dX11_digest_148 : decode cX11_digest 148 = .ok (.aload_n 0, 1) := by decide +kernel
theorem dX11_digest_149 : decode cX11_digest 149 = .ok (.iload_n 1, 1) := by decide +kernel
theorem dX11_digest_150 : decode cX11_digest 150 = .ok (.invokevirtual 241, 3) := by decide +kernel
theorem dX11_digest_153 : decode cX11_digest 153 = .ok (.i2l, 1) := by decide +kernel
theorem dX11_digest_154 : decode cX11_digest 154 = .ok (.invokevirtual 250, 3) := by decide +kernel
theorem dX11_digest_157 : decode cX11_digest 157 = .ok (.iinc 1 1, 3) := by decide +kernel
theorem dX11_digest_160 : decode cX11_digest 160 = .ok (.goto (-19), 3) := by decide +kernel
theorem dX11_digest_163 : decode cX11_digest 163 = .ok (.aload_n 0, 1) := by decide +kernel
theorem dX11_digest_164 : decode cX11_digest 164 = .ok (.getfield 246, 3) := by decide +kernel
theorem dX11_digest_167 : decode cX11_digest 167 = .ok (.lreturn, 1) := by decide +kernel
theorem dJ11_isValidCodePoint_9a6ad_0 : decode cJ11_isValidCodePoint_9a6ad 0 = .ok (.iload_n 0, 1) := by decide +kernel
theorem dJ11_isValidCodePoint_9a6ad_1 : decode cJ11_isValidCodePoint_9a6ad 1 = .ok (.bipush 16, 2) := by decide +kernel
theorem dJ11_isValidCodePoint_9a6ad_3 : decode cJ11_isValidCodePoint_9a6ad 3 = .ok (.iushr, 1) := by decide +kernel
theorem dJ11_isValidCodePoint_9a6ad_4 : decode cJ11_isValidCodePoint_9a6ad 4 = .ok (.istore_n 1, 1) := by decide +kernel
theorem dJ11_isValidCodePoint_9a6ad_5 : decode cJ11_isValidCodePoint_9a6ad 5 = .ok (.iload_n 1, 1) := by decide +kernel
theorem dJ11_isValidCodePoint_9a6ad_6 : decode cJ11_isValidCodePoint_9a6ad 6 = .ok (.bipush 17, 2) := by decide +kernel
theorem dJ11_isValidCodePoint_9a6ad_8 : decode cJ11_isValidCodePoint_9a6ad 8 = .ok (.if_icmp .ge 7, 3) := by decide +kernel
theorem dJ11_isValidCodePoint_9a6ad_11 : decode cJ11_isValidCodePoint_9a6ad 11 = .ok (.iconst 1, 1) := by decide +kernel
theorem dJ11_isValidCodePoint_9a6ad_12 : decode cJ11_isValidCodePoint_9a6ad 12 = .ok (.goto 4, 3) := by decide +kernel
theorem dJ11_isValidCodePoint_9a6ad_15 : decode cJ11_isValidCodePoint_9a6ad 15 = .ok (.iconst 0, 1) := by decide +kernel
theorem dJ11_isValidCodePoint_9a6ad_16 : decode cJ11_isValidCodePoint_9a6ad 16 = .ok (.ireturn, 1) := by decide +kernel
theorem dJ11_highSurrogate_5068e_0 : decode cJ11_highSurrogate_5068e 0 = .ok (.iload_n 0, 1) := by decide +kernel
theorem dJ11_highSurrogate_5068e_1 : decode cJ11_highSurrogate_5068e 1 = .ok (.bipush 10, 2) := by decide +kernel
theorem dJ11_highSurrogate_5068e_3 : decode cJ11_highSurrogate_5068e 3 = .ok (.iushr, 1) := by decide +kernel
theorem dJ11_highSurrogate_5068e_4 : decode cJ11_highSurrogate_5068e 4 = .ok (.ldc 110, 2) := by decide +kernel
theorem dJ11_highSurrogate_5068e_6 : decode cJ11_highSurrogate_5068e 6 = .ok (.iadd, 1) := by decide +kernel
theorem dJ11_highSurrogate_5068e_7 : decode cJ11_highSurrogate_5068e 7 = .ok (.i2c, 1) := by decide +kernel
theorem dJ11_highSurrogate_5068e_8 : decode cJ11_highSurrogate_5068e 8 = .ok (.ireturn, 1) := by decide +kernel
theorem dJ11_lowSurrogate_5068e_0 : decode cJ11_lowSurrogate_5068e 0 = .ok (.iload_n 0, 1) := by decide +kernel
theorem dJ11_lowSurrogate_5068e_1 : decode cJ11_lowSurrogate_5068e 1 = .ok (.sipush 1023, 3) := by decide +kernel
theorem dJ11_lowSurrogate_5068e_4 : decode cJ11_lowSurrogate_5068e 4 = .ok (.iand, 1) := by decide +kernel
theorem dJ11_lowSurrogate_5068e_5 : decode cJ11_lowSurrogate_5068e 5 = .ok (.ldc 76, 2) := by decide +kernel
theorem dJ11_lowSurrogate_5068e_7 : decode cJ11_lowSurrogate_5068e 7 = .ok (.iadd, 1) := by decide +kernel
theorem dJ11_lowSurrogate_5068e_8 : decode cJ11_lowSurrogate_5068e 8 = .ok (.i2c, 1) := by decide +kernel
theorem dJ11_lowSurrogate_5068e_9 : decode cJ11_lowSurrogate_5068e 9 = .ok (.ireturn, 1) := by decide +kernel
theorem dJ6_lowestOneBit_0f7a4_0 : decode cJ6_lowestOneBit_0f7a4 0 = .ok (.iload_n 0, 1) := by decide +kernel
theorem dJ6_lowestOneBit_0f7a4_1 : decode cJ6_lowestOneBit_0f7a4 1 = .ok (.iload_n 0, 1) := by decide +kernel
theorem dJ6_lowestOneBit_0f7a4_2 : decode cJ6_lowestOneBit_0f7a4 2 = .ok (.ineg, 1) := by decide +kernel
theorem dJ6_lowestOneBit_0f7a4_3 : decode cJ6_lowestOneBit_0f7a4 3 = .ok (.iand, 1) := by decide +kernel
theorem dJ6_lowestOneBit_0f7a4_4 : decode cJ6_lowestOneBit_0f7a4 4 = .ok (.ireturn, 1) := by decide +kernel
theorem dJ6_bitCount_0f7a4_0 : decode cJ6_bitCount_0f7a4 0 = .ok (.iload_n 0, 1) := by decide +kernel
theorem dJ6_bitCount_0f7a4_1 : decode cJ6_bitCount_0f7a4 1 = .ok (.iload_n 0, 1) := by decide +kernel
theorem dJ6_bitCount_0f7a4_2 : decode cJ6_bitCount_0f7a4 2 = .ok (.iconst 1, 1) := by decide +kernel
theorem dJ6_bitCount_0f7a4_3 : decode cJ6_bitCount_0f7a4 3 = .ok (.iushr, 1) := by decide +kernel
theorem dJ6_bitCount_0f7a4_4 : decode cJ6_bitCount_0f7a4 4 = .ok (.ldc_w 265, 3) := by decide +kernel
theorem dJ6_bitCount_0f7a4_7 : decode cJ6_bitCount_0f7a4 7 = .ok (.iand, 1) := by decide +kernel
theorem dJ6_bitCount_0f7a4_8 : decode cJ6_bitCount_0f7a4 8 = .ok (.isub, 1) := by decide +kernel
theorem dJ6_bitCount_0f7a4_9 : decode cJ6_bitCount_0f7a4 9 = .ok (.istore_n 0, 1) := by decide +kernel
theorem dJ6_bitCount_0f7a4_10 : decode cJ6_bitCount_0f7a4 10 = .ok (.iload_n 0, 1) := by decide +kernel
theorem dJ6_bitCount_0f7a4_11 : decode cJ6_bitCount_0f7a4 11 = .ok (.ldc_w 266, 3) := by decide +kernel
theorem dJ6_bitCount_0f7a4_14 : decode cJ6_bitCount_0f7a4 14 = .ok (.iand, 1) := by decide +kernel
theorem dJ6_bitCount_0f7a4_15 : decode cJ6_bitCount_0f7a4 15 = .ok (.iload_n 0, 1) := by decide +kernel
theorem dJ6_bitCount_0f7a4_16 : decode cJ6_bitCount_0f7a4 16 = .ok (.iconst 2, 1) := by decide +kernel
theorem dJ6_bitCount_0f7a4_17 : decode cJ6_bitCount_0f7a4 17 = .ok (.iushr, 1) := by decide +kernel
theorem dJ6_bitCount_0f7a4_18 : decode cJ6_bitCount_0f7a4 18 = .ok (.ldc_w 266, 3) := by decide +kernel
theorem dJ6_bitCount_0f7a4_21 : decode cJ6_bitCount_0f7a4 21 = .ok (.iand, 1) := by decide +kernel
theorem dJ6_bitCount_0f7a4_22 : decode cJ6_bitCount_0f7a4 22 = .ok (.iadd, 1) := by decide +kernel
theorem dJ6_bitCount_0f7a4_23 : decode cJ6_bitCount_0f7a4 23 = .ok (.istore_n 0, 1) := by decide +kernel
theorem dJ6_bitCount_0f7a4_24 : decode cJ6_bitCount_0f7a4 24 = .ok (.iload_n 0, 1) := by decide +kernel
theorem dJ6_bitCount_0f7a4_25 : decode cJ6_bitCount_0f7a4 25 = .ok (.iload_n 0, 1) := by decide +kernel
theorem dJ6_bitCount_0f7a4_26 : decode cJ6_bitCount_0f7a4 26 = .ok (.iconst 4, 1) := by decide +kernel
theorem dJ6_bitCount_0f7a4_27 : decode cJ6_bitCount_0f7a4 27 = .ok (.iushr, 1) := by decide +kernel
theorem dJ6_bitCount_0f7a4_28 : decode cJ6_bitCount_0f7a4 28 = .ok (.iadd, 1) := by decide +kernel
theorem dJ6_bitCount_0f7a4_29 : decode cJ6_bitCount_0f7a4 29 = .ok (.ldc_w 267, 3) := by decide +kernel
theorem dJ6_bitCount_0f7a4_32 : decode cJ6_bitCount_0f7a4 32 = .ok (.iand, 1) := by decide +kernel
theorem dJ6_bitCount_0f7a4_33 : decode cJ6_bitCount_0f7a4 33 = .ok (.istore_n 0, 1) := by decide +kernel
theorem dJ6_bitCount_0f7a4_34 : decode cJ6_bitCount_0f7a4 34 = .ok (.iload_n 0, 1) := by decide +kernel
theorem dJ6_bitCount_0f7a4_35 : decode cJ6_bitCount_0f7a4 35 = .ok (.iload_n 0, 1) := by decide +kernel
theorem dJ6_bitCount_0f7a4_36 : decode cJ6_bitCount_0f7a4 36 = .ok (.bipush 8, 2) := by decide +kernel
theorem dJ6_bitCount_0f7a4_38 : decode cJ6_bitCount_0f7a4 38 = .ok (.iushr, 1) := by decide +kernel
theorem dJ6_bitCount_0f7a4_39 : decode cJ6_bitCount_0f7a4 39 = .ok (.iadd, 1) := by decide +kernel
theorem dJ6_bitCount_0f7a4_40 : decode cJ6_bitCount_0f7a4 40 = .ok (.istore_n 0, 1) := by decide +kernel
theorem dJ6_bitCount_0f7a4_41 : decode cJ6_bitCount_0f7a4 41 = .ok (.iload_n 0, 1) := by decide +kernel
theorem dJ6_bitCount_0f7a4_42 : decode cJ6_bitCount_0f7a4 42 = .ok (.iload_n 0, 1) := by decide +kernel
theorem dJ6_bitCount_0f7a4_43 : decode cJ6_bitCount_0f7a4 43 = .ok (.bipush 16, 2) := by decide +kernel
theorem dJ6_bitCount_0f7a4_45 : decode cJ6_bitCount_0f7a4 45 = .ok (.iushr, 1) := by decide +kernel
theorem dJ6_bitCount_0f7a4_46 : decode cJ6_bitCount_0f7a4 46 = .ok (.iadd, 1) := by decide +kernel
theorem dJ6_bitCount_0f7a4_47 : decode cJ6_bitCount_0f7a4 47 = .ok (.istore_n 0, 1) := by decide +kernel
theorem dJ6_bitCount_0f7a4_48 : decode cJ6_bitCount_0f7a4 48 = .ok (.iload_n 0, 1) := by decide +kernel
theorem dJ6_bitCount_0f7a4_49 : decode cJ6_bitCount_0f7a4 49 = .ok (.bipush 63, 2) := by decide +kernel
theorem dJ6_bitCount_0f7a4_51 : decode cJ6_bitCount_0f7a4 51 = .ok (.iand, 1) := by decide +kernel
theorem dJ6_bitCount_0f7a4_52 : decode cJ6_bitCount_0f7a4 52 = .ok (.ireturn, 1) := by decide +kernel
theorem dJ9_max_7cf53_0 : decode cJ9_max_7cf53 0 = .ok (.iload_n 0, 1) := by decide +kernel
theorem dJ9_max_7cf53_1 : decode cJ9_max_7cf53 1 = .ok (.iload_n 1, 1) := by decide +kernel
theorem dJ9_max_7cf53_2 : decode cJ9_max_7cf53 2 = .ok (.if_icmp .lt 7, 3) := by decide +kernel
theorem dJ9_max_7cf53_5 : decode cJ9_max_7cf53 5 = .ok (.iload_n 0, 1) := by decide +kernel
theorem dJ9_max_7cf53_6 : decode cJ9_max_7cf53 6 = .ok (.goto 4, 3) := by decide +kernel
theorem dJ9_max_7cf53_9 : decode cJ9_max_7cf53 9 = .ok (.iload_n 1, 1) := by decide +kernel
theorem dJ9_max_7cf53_10 : decode cJ9_max_7cf53 10 = .ok (.ireturn, 1) := by decide +kernel
theorem dJ9_min_7cf53_0 : decode cJ9_min_7cf53 0 = .ok (.iload_n 0, 1) := by decide +kernel
theorem dJ9_min_7cf53_1 : decode cJ9_min_7cf53 1 = .ok (.iload_n 1, 1) := by decide +kernel
theorem dJ9_min_7cf53_2 : decode cJ9_min_7cf53 2 = .ok (.if_icmp .gt 7, 3) := by decide +kernel
theorem dJ9_min_7cf53_5 : decode cJ9_min_7cf53 5 = .ok (.iload_n 0, 1) := by decide +kernel
theorem dJ9_min_7cf53_6 : decode cJ9_min_7cf53 6 = .ok (.goto 4, 3) := by decide +kernel
theorem dJ9_min_7cf53_9 : decode cJ9_min_7cf53 9 = .ok (.iload_n 1, 1) := by decide +kernel
theorem dJ9_min_7cf53_10 : decode cJ9_min_7cf53 10 = .ok (.ireturn, 1) := by decide +kernel
set_option maxRecDepth 20000 in
theorem ggJ0_length_8abf5_J0_coder_7d493 : GoodIn wsJ0_length_8abf5 wsJ0_coder_7d493 := goodIn_r _ [6, 7, 8] (by decide +kernel) (by decide +kernel)
set_option maxRecDepth 20000 in
theorem gJ0_length_8abf5_J0_coder_7d493 : GoodIn wsJ0_length_8abf5 (wsV RJ0 335 RJ0 yJ0_coder_7d493 wsJ0_coder_7d493) := goodIn_app (goodIn_of _ (by decide +kernel)) ggJ0_length_8abf5_J0_coder_7d493
theorem dJ0_length_8abf5_0 : decode cJ0_length_8abf5 0 = .ok (.aload_n 0, 1) := by decide +kernel
theorem dJ0_length_8abf5_1 : decode cJ0_length_8abf5 1 = .ok (.getfield 9, 3) := by decide +kernel
theorem dJ0_length_8abf5_4 : decode cJ0_length_8abf5 4 = .ok (.arraylength, 1) := by decide +kernel
theorem dJ0_length_8abf5_5 : decode cJ0_length_8abf5 5 = .ok (.aload_n 0, 1) := by decide +kernel
theorem dJ0_length_8abf5_6 : decode cJ0_length_8abf5 6 = .ok (.invokevirtual 335, 3) := by decide +kernel
theorem dJ0_length_8abf5_9 : decode cJ0_length_8abf5 9 = .ok (.ishr, 1) := by decide +kernel
theorem dJ0_length_8abf5_10 : decode cJ0_length_8abf5 10 = .ok (.ireturn, 1) := by decide +kernel
set_option maxRecDepth 20000 in
theorem ggJ0_indexOf_0f7a4_J0_indexOf_7cf53 : GoodIn wsJ0_indexOf_0f7a4 wsJ0_indexOf_7cf53 := goodIn_r _ [5, 6, 7, 8, 9, 4, 10, 11, 12, 13, 14, 15, 16, 17, 18, 19, 20, 21, 22, 23, 24, 25, 26, 27, 28, 29, 30, 31, 32, 33, 34, 35, 36, 37, 38, 39, 40, 41, 42, 43, 44, 45, 46, 47, 48, 49, 50, 51, 52, 53, 54, 55, 56, 57, 58, 59, 60, 61, 62, 63, 64, 65, 66, 67, 68, 69, 70, 71, 72, 73, 74, 75, 76, 77, 78, 79, 80, 81, 82, 83, 84, 85] (by decide +kernel) (by decide +kernel)
set_option maxRecDepth 20000 in
theorem gJ0_indexOf_0f7a4_J0_indexOf_7cf53 : GoodIn wsJ0_indexOf_0f7a4 (wsV RJ0 633 RJ0 yJ0_indexOf_7cf53 wsJ0_indexOf_7cf53) := goodIn_app (goodIn_of _ (by decide +kernel)) ggJ0_indexOf_0f7a4_J0_indexOf_7cf53
theorem dJ0_indexOf_0f7a4_0 : decode cJ0_indexOf_0f7a4 0 = .ok (.aload_n 0, 1) := by decide +kernel
theorem dJ0_indexOf_0f7a4_1 : decode cJ0_indexOf_0f7a4 1 = .ok (.iload_n 1, 1) := by decide +kernel
theorem dJ0_indexOf_0f7a4_2 : decode cJ0_indexOf_0f7a4 2 = .ok (.iconst 0, 1) := by decide +kernel
theorem dJ0_indexOf_0f7a4_3 : decode cJ0_indexOf_0f7a4 3 = .ok (.invokevirtual 633, 3) := by decide +kernel
theorem dJ0_indexOf_0f7a4_6 : decode cJ0_indexOf_0f7a4 6 = .ok (.ireturn, 1) := by decide +kernel
set_option maxRecDepth 20000 in
theorem ggJ0_indexOf_7cf53_J0_isLatin1_aae02 : GoodIn wsJ0_indexOf_7cf53 wsJ0_isLatin1_aae02 := goodIn_r _ [6, 7, 8] (by decide +kernel) (by decide +kernel)
set_option maxRecDepth 20000 in
theorem gJ0_indexOf_7cf53_J0_isLatin1_aae02 : GoodIn wsJ0_indexOf_7cf53 (wsV RJ0 492 RJ0 yJ0_isLatin1_aae02 wsJ0_isLatin1_aae02) := goodIn_app (goodIn_of _ (by decide +kernel)) ggJ0_indexOf_7cf53_J0_isLatin1_aae02
set_option maxRecDepth 20000 in
theorem ggJ0_indexOf_7cf53_J0_length_8abf5 : GoodIn wsJ0_indexOf_7cf53 wsJ0_length_8abf5 := goodIn_r _ [12, 1, 13, 14, 15, 5, 16, 7, 8] (by decide +kernel) (by decide +kernel)
set_option maxRecDepth 20000 in
theorem gJ0_indexOf_7cf53_J0_length_8abf5 : GoodIn wsJ0_indexOf_7cf53 (wsV RJ0 505 RJ0 yJ0_length_8abf5 wsJ0_length_8abf5) := goodIn_app (goodIn_of _ (by decide +kernel)) ggJ0_indexOf_7cf53_J0_length_8abf5
set_option maxRecDepth 20000 in
theorem ggJ0_indexOf_7cf53_J1_indexOf_4cfef : GoodIn wsJ0_indexOf_7cf53 wsJ1_indexOf_4cfef := goodIn_r _ [20, 21, 22, 23, 24, 25, 26, 27, 28, 29, 19, 30, 31, 32, 33] (by decide +kernel) (by decide +kernel)
set_option maxRecDepth 20000 in
theorem gJ0_indexOf_7cf53_J1_indexOf_4cfef : GoodIn wsJ0_indexOf_7cf53 (va_wsS RJ0 637 yJ1_indexOf_4cfef wsJ1_indexOf_4cfef) := goodIn_app (goodIn_of _ (by decide +kernel)) ggJ0_indexOf_7cf53_J1_indexOf_4cfef
set_option maxRecDepth 20000 in
theorem ggJ0_indexOf_7cf53_J2_indexOf_4cfef : GoodIn wsJ0_indexOf_7cf53 wsJ2_indexOf_4cfef := goodIn_r _ [37, 38, 22, 23, 24, 39, 26, 27, 40, 41, 42, 36, 43, 44, 45, 46, 47, 48, 49, 50, 51, 5, 52, 53, 54, 55, 56, 57, 58, 59, 60, 61, 62, 63, 64, 65, 66, 67, 68, 69, 70, 71, 72, 73, 74, 75, 76, 77, 78, 79, 80, 81] (by decide +kernel) (by decide +kernel)
set_option maxRecDepth 20000 in
theorem gJ0_indexOf_7cf53_J2_indexOf_4cfef : GoodIn wsJ0_indexOf_7cf53 (va_wsS RJ0 640 yJ2_indexOf_4cfef wsJ2_indexOf_4cfef) := goodIn_app (goodIn_of _ (by decide +kernel)) ggJ0_indexOf_7cf53_J2_indexOf_4cfef
theorem dJ0_indexOf_7cf53_0 : decode cJ0_indexOf_7cf53 0 = .ok (.aload_n 0, 1) := by decide +kernel
theorem dJ0_indexOf_7cf53_1 : decode cJ0_indexOf_7cf53 1 = .ok (.invokevirtual 492, 3) := by decide +kernel
theorem dJ0_indexOf_7cf53_4 : decode cJ0_indexOf_7cf53 4 = .ok (.ifCond .eq 19, 3) := by decide +kernel
theorem dJ0_indexOf_7cf53_7 : decode cJ0_indexOf_7cf53 7 = .ok (.aload_n 0, 1) := by decide +kernel
theorem dJ0_indexOf_7cf53_8 : decode cJ0_indexOf_7cf53 8 = .ok (.getfield 9, 3) := by decide +kernel
theorem dJ0_indexOf_7cf53_11 : decode cJ0_indexOf_7cf53 11 = .ok (.iload_n 1, 1) := by decide +kernel
theorem dJ0_indexOf_7cf53_12 : decode cJ0_indexOf_7cf53 12 = .ok (.iload_n 2, 1) := by decide +kernel
theorem dJ0_indexOf_7cf53_13 : decode cJ0_indexOf_7cf53 13 = .ok (.aload_n 0, 1) := by decide +kernel
theorem dJ0_indexOf_7cf53_14 : decode cJ0_indexOf_7cf53 14 = .ok (.invokevirtual 505, 3) := by decide +kernel
theorem dJ0_indexOf_7cf53_17 : decode cJ0_indexOf_7cf53 17 = .ok (.invokestatic 637, 3) := by decide +kernel
theorem dJ0_indexOf_7cf53_20 : decode cJ0_indexOf_7cf53 20 = .ok (.goto 16, 3) := by decide +kernel
theorem dJ0_indexOf_7cf53_23 : decode cJ0_indexOf_7cf53 23 = .ok (.aload_n 0, 1) := by decide +kernel
theorem dJ0_indexOf_7cf53_24 : decode cJ0_indexOf_7cf53 24 = .ok (.getfield 9, 3) := by decide +kernel
theorem dJ0_indexOf_7cf53_27 : decode cJ0_indexOf_7cf53 27 = .ok (.iload_n 1, 1) := by decide +kernel
theorem dJ0_indexOf_7cf53_28 : decode cJ0_indexOf_7cf53 28 = .ok (.iload_n 2, 1) := by decide +kernel
theorem dJ0_indexOf_7cf53_29 : decode cJ0_indexOf_7cf53 29 = .ok (.aload_n 0, 1) := by decide +kernel
theorem dJ0_indexOf_7cf53_30 : decode cJ0_indexOf_7cf53 30 = .ok (.invokevirtual 505, 3) := by decide +kernel
theorem dJ0_indexOf_7cf53_33 : decode cJ0_indexOf_7cf53 33 = .ok (.invokestatic 640, 3) := by decide +kernel
theorem dJ0_indexOf_7cf53_36 : decode cJ0_indexOf_7cf53 36 = .ok (.ireturn, 1) := by decide +kernel
theorem dJ0_coder_7d493_0 : decode cJ0_coder_7d493 0 = .ok (.getstatic 38, 3) := by decide +kernel
theorem dJ0_coder_7d493_3 : decode cJ0_coder_7d493 3 = .ok (.ifCond .eq 10, 3) := by decide +kernel
theorem dJ0_coder_7d493_6 : decode cJ0_coder_7d493 6 = .ok (.aload_n 0, 1) := by decide +kernel
theorem dJ0_coder_7d493_7 : decode cJ0_coder_7d493 7 = .ok (.getfield 15, 3) := by decide +kernel
theorem dJ0_coder_7d493_10 : decode cJ0_coder_7d493 10 = .ok (.goto 4, 3) := by decide +kernel
theorem dJ0_coder_7d493_13 : decode cJ0_coder_7d493 13 = .ok (.iconst 1, 1) := by decide +kernel
theorem dJ0_coder_7d493_14 : decode cJ0_coder_7d493 14 = .ok (.ireturn, 1) := by decide +kernel
theorem dJ0_isLatin1_aae02_0 : decode cJ0_isLatin1_aae02 0 = .ok (.getstatic 38, 3) := by decide +kernel
theorem dJ0_isLatin1_aae02_3 : decode cJ0_isLatin1_aae02 3 = .ok (.ifCond .eq 14, 3) := by decide +kernel
theorem dJ0_isLatin1_aae02_6 : decode cJ0_isLatin1_aae02 6 = .ok (.aload_n 0, 1) := by decide +kernel
theorem dJ0_isLatin1_aae02_7 : decode cJ0_isLatin1_aae02 7 = .ok (.getfield 15, 3) := by decide +kernel
theorem dJ0_isLatin1_aae02_10 : decode cJ0_isLatin1_aae02 10 = .ok (.ifCond .ne 7, 3) := by decide +kernel
theorem dJ0_isLatin1_aae02_13 : decode cJ0_isLatin1_aae02 13 = .ok (.iconst 1, 1) := by decide +kernel
theorem dJ0_isLatin1_aae02_14 : decode cJ0_isLatin1_aae02 14 = .ok (.goto 4, 3) := by decide +kernel
theorem dJ0_isLatin1_aae02_17 : decode cJ0_isLatin1_aae02 17 = .ok (.iconst 0, 1) := by decide +kernel
theorem dJ0_isLatin1_aae02_18 : decode cJ0_isLatin1_aae02 18 = .ok (.ireturn, 1) := by decide +kernel
set_option maxRecDepth 20000 in
theorem ggJ0_checkBoundsBeginEnd_23922_J3_checkFromToIndex_8c36e : GoodIn wsJ0_checkBoundsBeginEnd_23922 wsJ3_checkFromToIndex_8c36e := goodIn_r _ [5] (by decide +kernel) (by decide +kernel)
set_option maxRecDepth 20000 in
theorem gJ0_checkBoundsBeginEnd_23922_J3_checkFromToIndex_8c36e : GoodIn wsJ0_checkBoundsBeginEnd_23922 (va_wsS RJ0 1062 yJ3_checkFromToIndex_8c36e wsJ3_checkFromToIndex_8c36e) := goodIn_app (goodIn_of _ (by decide +kernel)) ggJ0_checkBoundsBeginEnd_23922_J3_checkFromToIndex_8c36e
theorem dJ0_checkBoundsBeginEnd_23922_0 : decode cJ0_checkBoundsBeginEnd_23922 0 = .ok (.iload_n 0, 1) := by decide +kernel
theorem dJ0_checkBoundsBeginEnd_23922_1 : decode cJ0_checkBoundsBeginEnd_23922 1 = .ok (.iload_n 1, 1) := by decide +kernel
theorem dJ0_checkBoundsBeginEnd_23922_2 : decode cJ0_checkBoundsBeginEnd_23922 2 = .ok (.iload_n 2, 1) := by decide +kernel
theorem dJ0_checkBoundsBeginEnd_23922_3 : decode cJ0_checkBoundsBeginEnd_23922 3 = .ok (.getstatic 1053, 3) := by decide +kernel
theorem dJ0_checkBoundsBeginEnd_23922_6 : decode cJ0_checkBoundsBeginEnd_23922 6 = .ok (.invokestatic 1062, 3) := by decide +kernel
theorem dJ0_checkBoundsBeginEnd_23922_9 : decode cJ0_checkBoundsBeginEnd_23922 9 = .ok (.pop, 1) := by decide +kernel
theorem dJ0_checkBoundsBeginEnd_23922_10 : decode cJ0_checkBoundsBeginEnd_23922 10 = .ok (.return_, 1) := by decide +kernel
theorem dJ1_canEncode_9a6ad_0 : decode cJ1_canEncode_9a6ad 0 = .ok (.iload_n 0, 1) := by decide +kernel
theorem dJ1_canEncode_9a6ad_1 : decode cJ1_canEncode_9a6ad 1 = .ok (.ifCond .lt 14, 3) := by decide +kernel
theorem dJ1_canEncode_9a6ad_4 : decode cJ1_canEncode_9a6ad 4 = .ok (.iload_n 0, 1) := by decide +kernel
theorem dJ1_canEncode_9a6ad_5 : decode cJ1_canEncode_9a6ad 5 = .ok (.sipush 255, 3) := by decide +kernel
theorem dJ1_canEncode_9a6ad_8 : decode cJ1_canEncode_9a6ad 8 = .ok (.if_icmp .gt 7, 3) := by decide +kernel
theorem dJ1_canEncode_9a6ad_11 : decode cJ1_canEncode_9a6ad 11 = .ok (.iconst 1, 1) := by decide +kernel
theorem dJ1_canEncode_9a6ad_12 : decode cJ1_canEncode_9a6ad 12 = .ok (.goto 4, 3) := by decide +kernel
theorem dJ1_canEncode_9a6ad_15 : decode cJ1_canEncode_9a6ad 15 = .ok (.iconst 0, 1) := by decide +kernel
theorem dJ1_canEncode_9a6ad_16 : decode cJ1_canEncode_9a6ad 16 = .ok (.ireturn, 1) := by decide +kernel
set_option maxRecDepth 20000 in
theorem ggJ1_indexOf_4cfef_J1_canEncode_9a6ad : GoodIn wsJ1_indexOf_4cfef wsJ1_canEncode_9a6ad := goodIn_r _ [11] (by decide +kernel) (by decide +kernel)
set_option maxRecDepth 20000 in
theorem gJ1_indexOf_4cfef_J1_canEncode_9a6ad : GoodIn wsJ1_indexOf_4cfef (va_wsS RJ1 88 yJ1_canEncode_9a6ad wsJ1_canEncode_9a6ad) := goodIn_app (goodIn_of _ (by decide +kernel)) ggJ1_indexOf_4cfef_J1_canEncode_9a6ad
set_option maxRecDepth 20000 in
theorem ggJ1_indexOf_4cfef_J1_indexOfChar_4cfef : GoodIn wsJ1_indexOf_4cfef wsJ1_indexOfChar_4cfef := goodIn_r _ [14] (by decide +kernel) (by decide +kernel)
set_option maxRecDepth 20000 in
theorem gJ1_indexOf_4cfef_J1_indexOfChar_4cfef : GoodIn wsJ1_indexOf_4cfef (va_wsS RJ1 95 yJ1_indexOfChar_4cfef wsJ1_indexOfChar_4cfef) := goodIn_app (goodIn_of _ (by decide +kernel)) ggJ1_indexOf_4cfef_J1_indexOfChar_4cfef
theorem dJ1_indexOf_4cfef_0 : decode cJ1_indexOf_4cfef 0 = .ok (.iload_n 1, 1) := by decide +kernel
theorem dJ1_indexOf_4cfef_1 : decode cJ1_indexOf_4cfef 1 = .ok (.invokestatic 88, 3) := by decide +kernel
theorem dJ1_indexOf_4cfef_4 : decode cJ1_indexOf_4cfef 4 = .ok (.ifCond .ne 5, 3) := by decide +kernel
theorem dJ1_indexOf_4cfef_7 : decode cJ1_indexOf_4cfef 7 = .ok (.iconst (-1), 1) := by decide +kernel
theorem dJ1_indexOf_4cfef_8 : decode cJ1_indexOf_4cfef 8 = .ok (.ireturn, 1) := by decide +kernel
theorem dJ1_indexOf_4cfef_9 : decode cJ1_indexOf_4cfef 9 = .ok (.iload_n 2, 1) := by decide +kernel
theorem dJ1_indexOf_4cfef_10 : decode cJ1_indexOf_4cfef 10 = .ok (.iconst 0, 1) := by decide +kernel
theorem dJ1_indexOf_4cfef_11 : decode cJ1_indexOf_4cfef 11 = .ok (.invokestatic 92, 3) := by decide +kernel
theorem dJ1_indexOf_4cfef_14 : decode cJ1_indexOf_4cfef 14 = .ok (.istore_n 2, 1) := by decide +kernel
theorem dJ1_indexOf_4cfef_15 : decode cJ1_indexOf_4cfef 15 = .ok (.iload_n 3, 1) := by decide +kernel
theorem dJ1_indexOf_4cfef_16 : decode cJ1_indexOf_4cfef 16 = .ok (.aload_n 0, 1) := by decide +kernel
theorem dJ1_indexOf_4cfef_17 : decode cJ1_indexOf_4cfef 17 = .ok (.arraylength, 1) := by decide +kernel
theorem dJ1_indexOf_4cfef_18 : decode cJ1_indexOf_4cfef 18 = .ok (.invokestatic 38, 3) := by decide +kernel
theorem dJ1_indexOf_4cfef_21 : decode cJ1_indexOf_4cfef 21 = .ok (.istore_n 3, 1) := by decide +kernel
theorem dJ1_indexOf_4cfef_22 : decode cJ1_indexOf_4cfef 22 = .ok (.iload_n 2, 1) := by decide +kernel
theorem dJ1_indexOf_4cfef_23 : decode cJ1_indexOf_4cfef 23 = .ok (.iload_n 3, 1) := by decide +kernel
theorem dJ1_indexOf_4cfef_24 : decode cJ1_indexOf_4cfef 24 = .ok (.if_icmp .lt 5, 3) := by decide +kernel
theorem dJ1_indexOf_4cfef_27 : decode cJ1_indexOf_4cfef 27 = .ok (.iconst (-1), 1) := by decide +kernel
theorem dJ1_indexOf_4cfef_28 : decode cJ1_indexOf_4cfef 28 = .ok (.ireturn, 1) := by decide +kernel
theorem dJ1_indexOf_4cfef_29 : decode cJ1_indexOf_4cfef 29 = .ok (.aload_n 0, 1) := by decide +kernel
theorem dJ1_indexOf_4cfef_30 : decode cJ1_indexOf_4cfef 30 = .ok (.iload_n 1, 1) := by decide +kernel
theorem dJ1_indexOf_4cfef_31 : decode cJ1_indexOf_4cfef 31 = .ok (.iload_n 2, 1) := by decide +kernel
theorem dJ1_indexOf_4cfef_32 : decode cJ1_indexOf_4cfef 32 = .ok (.iload_n 3, 1) := by decide +kernel
theorem dJ1_indexOf_4cfef_33 : decode cJ1_indexOf_4cfef 33 = .ok (.invokestatic 95, 3) := by decide +kernel
theorem dJ1_indexOf_4cfef_36 : decode cJ1_indexOf_4cfef 36 = .ok (.ireturn, 1) := by decide +kernel
theorem dJ1_indexOfChar_4cfef_0 : decode cJ1_indexOfChar_4cfef 0 = .ok (.iload_n 1, 1) := by decide +kernel
theorem dJ1_indexOfChar_4cfef_1 : decode cJ1_indexOfChar_4cfef 1 = .ok (.i2b, 1) := by decide +kernel
theorem dJ1_indexOfChar_4cfef_2 : decode cJ1_indexOfChar_4cfef 2 = .ok (.istore 4, 2) := by decide +kernel
theorem dJ1_indexOfChar_4cfef_4 : decode cJ1_indexOfChar_4cfef 4 = .ok (.iload_n 2, 1) := by decide +kernel
theorem dJ1_indexOfChar_4cfef_5 : decode cJ1_indexOfChar_4cfef 5 = .ok (.istore 5, 2) := by decide +kernel
theorem dJ1_indexOfChar_4cfef_7 : decode cJ1_indexOfChar_4cfef 7 = .ok (.iload 5, 2) := by decide +kernel
theorem dJ1_indexOfChar_4cfef_9 : decode cJ1_indexOfChar_4cfef 9 = .ok (.iload_n 3, 1) := by decide +kernel
theorem dJ1_indexOfChar_4cfef_10 : decode cJ1_indexOfChar_4cfef 10 = .ok (.if_icmp .ge 21, 3) := by decide +kernel
theorem dJ1_indexOfChar_4cfef_13 : decode cJ1_indexOfChar_4cfef 13 = .ok (.aload_n 0, 1) := by decide +kernel
theorem dJ1_indexOfChar_4cfef_14 : decode cJ1_indexOfChar_4cfef 14 = .ok (.iload 5, 2) := by decide +kernel
theorem dJ1_indexOfChar_4cfef_16 : decode cJ1_indexOfChar_4cfef 16 = .ok (.baload, 1) := by decide +kernel
theorem dJ1_indexOfChar_4cfef_17 : decode cJ1_indexOfChar_4cfef 17 = .ok (.iload 4, 2) := by decide +kernel
theorem dJ1_indexOfChar_4cfef_19 : decode cJ1_indexOfChar_4cfef 19 = .ok (.if_icmp .ne 6, 3) := by decide +kernel
theorem dJ1_indexOfChar_4cfef_22 : decode cJ1_indexOfChar_4cfef 22 = .ok (.iload 5, 2) := by decide +kernel
theorem dJ1_indexOfChar_4cfef_24 : decode cJ1_indexOfChar_4cfef 24 = .ok (.ireturn, 1) := by decide +kernel
theorem dJ1_indexOfChar_4cfef_25 : decode cJ1_indexOfChar_4cfef 25 = .ok (.iinc 5 1, 3) := by decide +kernel
theorem dJ1_indexOfChar_4cfef_28 : decode cJ1_indexOfChar_4cfef 28 = .ok (.goto (-21), 3) := by decide +kernel
theorem dJ1_indexOfChar_4cfef_31 : decode cJ1_indexOfChar_4cfef 31 = .ok (.iconst (-1), 1) := by decide +kernel
theorem dJ1_indexOfChar_4cfef_32 : decode cJ1_indexOfChar_4cfef 32 = .ok (.ireturn, 1) := by decide +kernel
set_option maxRecDepth 20000 in
theorem ggJ2_getChar_3b067_J2_length_9d52b : GoodIn wsJ2_getChar_3b067 wsJ2_length_9d52b := goodIn_r _ [7] (by decide +kernel) (by decide +kernel)
set_option maxRecDepth 20000 in
theorem gJ2_getChar_3b067_J2_length_9d52b : GoodIn wsJ2_getChar_3b067 (va_wsS RJ2 48 yJ2_length_9d52b wsJ2_length_9d52b) := goodIn_app (goodIn_of _ (by decide +kernel)) ggJ2_getChar_3b067_J2_length_9d52b
theorem dJ2_getChar_3b067_0 : decode cJ2_getChar_3b067 0 = .ok (.getstatic 44, 3) := by decide +kernel
theorem dJ2_getChar_3b067_3 : decode cJ2_getChar_3b067 3 = .ok (.ifCond .ne 25, 3) := by decide +kernel
theorem dJ2_getChar_3b067_6 : decode cJ2_getChar_3b067 6 = .ok (.iload_n 1, 1) := by decide +kernel
theorem dJ2_getChar_3b067_7 : decode cJ2_getChar_3b067 7 = .ok (.ifCond .lt 11, 3) := by decide +kernel
theorem dJ2_getChar_3b067_10 : decode cJ2_getChar_3b067 10 = .ok (.iload_n 1, 1) := by decide +kernel
theorem dJ2_getChar_3b067_11 : decode cJ2_getChar_3b067 11 = .ok (.aload_n 0, 1) := by decide +kernel
theorem dJ2_getChar_3b067_12 : decode cJ2_getChar_3b067 12 = .ok (.invokestatic 48, 3) := by decide +kernel
theorem dJ2_getChar_3b067_15 : decode cJ2_getChar_3b067 15 = .ok (.if_icmp .lt 13, 3) := by decide +kernel
theorem dJ2_getChar_3b067_18 : decode cJ2_getChar_3b067 18 = .ok (.new 52, 3) := by decide +kernel
theorem dJ2_getChar_3b067_21 : decode cJ2_getChar_3b067 21 = .ok (.dup, 1) := by decide +kernel
theorem dJ2_getChar_3b067_22 : decode cJ2_getChar_3b067 22 = .ok (.ldc 54, 2) := by decide +kernel
theorem dJ2_getChar_3b067_24 : decode cJ2_getChar_3b067 24 = .ok (.invokespecial 56, 3) := by decide +kernel
theorem dJ2_getChar_3b067_27 : decode cJ2_getChar_3b067 27 = .ok (.athrow, 1) := by decide +kernel
theorem dJ2_getChar_3b067_28 : decode cJ2_getChar_3b067 28 = .ok (.iload_n 1, 1) := by decide +kernel
theorem dJ2_getChar_3b067_29 : decode cJ2_getChar_3b067 29 = .ok (.iconst 1, 1) := by decide +kernel
theorem dJ2_getChar_3b067_30 : decode cJ2_getChar_3b067 30 = .ok (.ishl, 1) := by decide +kernel
theorem dJ2_getChar_3b067_31 : decode cJ2_getChar_3b067 31 = .ok (.istore_n 1, 1) := by decide +kernel
theorem dJ2_getChar_3b067_32 : decode cJ2_getChar_3b067 32 = .ok (.aload_n 0, 1) := by decide +kernel
theorem dJ2_getChar_3b067_33 : decode cJ2_getChar_3b067 33 = .ok (.iload_n 1, 1) := by decide +kernel
theorem dJ2_getChar_3b067_34 : decode cJ2_getChar_3b067 34 = .ok (.iinc 1 1, 3) := by decide +kernel
theorem dJ2_getChar_3b067_37 : decode cJ2_getChar_3b067 37 = .ok (.baload, 1) := by decide +kernel
theorem dJ2_getChar_3b067_38 : decode cJ2_getChar_3b067 38 = .ok (.sipush 255, 3) := by decide +kernel
theorem dJ2_getChar_3b067_41 : decode cJ2_getChar_3b067 41 = .ok (.iand, 1) := by decide +kernel
theorem dJ2_getChar_3b067_42 : decode cJ2_getChar_3b067 42 = .ok (.getstatic 59, 3) := by decide +kernel
theorem dJ2_getChar_3b067_45 : decode cJ2_getChar_3b067 45 = .ok (.ishl, 1) := by decide +kernel
theorem dJ2_getChar_3b067_46 : decode cJ2_getChar_3b067 46 = .ok (.aload_n 0, 1) := by decide +kernel
theorem dJ2_getChar_3b067_47 : decode cJ2_getChar_3b067 47 = .ok (.iload_n 1, 1) := by decide +kernel
theorem dJ2_getChar_3b067_48 : decode cJ2_getChar_3b067 48 = .ok (.baload, 1) := by decide +kernel
theorem dJ2_getChar_3b067_49 : decode cJ2_getChar_3b067 49 = .ok (.sipush 255, 3) := by decide +kernel
theorem dJ2_getChar_3b067_52 : decode cJ2_getChar_3b067 52 = .ok (.iand, 1) := by decide +kernel
theorem dJ2_getChar_3b067_53 : decode cJ2_getChar_3b067 53 = .ok (.getstatic 63, 3) := by decide +kernel
theorem dJ2_getChar_3b067_56 : decode cJ2_getChar_3b067 56 = .ok (.ishl, 1) := by decide +kernel
theorem dJ2_getChar_3b067_57 : decode cJ2_getChar_3b067 57 = .ok (.ior, 1) := by decide +kernel
theorem dJ2_getChar_3b067_58 : decode cJ2_getChar_3b067 58 = .ok (.i2c, 1) := by decide +kernel
theorem dJ2_getChar_3b067_59 : decode cJ2_getChar_3b067 59 = .ok (.ireturn, 1) := by decide +kernel
theorem dJ2_length_9d52b_0 : decode cJ2_length_9d52b 0 = .ok (.aload_n 0, 1) := by decide +kernel
theorem dJ2_length_9d52b_1 : decode cJ2_length_9d52b 1 = .ok (.arraylength, 1) := by decide +kernel
theorem dJ2_length_9d52b_2 : decode cJ2_length_9d52b 2 = .ok (.iconst 1, 1) := by decide +kernel
theorem dJ2_length_9d52b_3 : decode cJ2_length_9d52b 3 = .ok (.ishr, 1) := by decide +kernel
theorem dJ2_length_9d52b_4 : decode cJ2_length_9d52b 4 = .ok (.ireturn, 1) := by decide +kernel
set_option maxRecDepth 20000 in
theorem ggJ2_indexOf_4cfef_J2_indexOfChar_4cfef : GoodIn wsJ2_indexOf_4cfef wsJ2_indexOfChar_4cfef := goodIn_r _ [12, 13, 14, 11, 15, 16, 17, 18, 19, 20, 21, 22, 23, 24, 25, 26, 27, 28, 29, 30, 31, 32, 33, 34, 35, 36] (by decide +kernel) (by decide +kernel)
set_option maxRecDepth 20000 in
theorem gJ2_indexOf_4cfef_J2_indexOfChar_4cfef : GoodIn wsJ2_indexOf_4cfef (va_wsS RJ2 228 yJ2_indexOfChar_4cfef wsJ2_indexOfChar_4cfef) := goodIn_app (goodIn_of _ (by decide +kernel)) ggJ2_indexOf_4cfef_J2_indexOfChar_4cfef
set_option maxRecDepth 20000 in
theorem ggJ2_indexOf_4cfef_J2_indexOfSupplementary_4cfef : GoodIn wsJ2_indexOf_4cfef wsJ2_indexOfSupplementary_4cfef := goodIn_r _ [39, 40, 41, 42, 43, 44, 45, 46, 47, 48, 49, 50, 51, 13, 14, 11, 15, 16, 17, 18, 19, 20, 21, 22, 23, 24, 25, 26, 27, 31, 32, 33, 34, 35, 36] (by decide +kernel) (by decide +kernel)
set_option maxRecDepth 20000 in
theorem gJ2_indexOf_4cfef_J2_indexOfSupplementary_4cfef : GoodIn wsJ2_indexOf_4cfef (va_wsS RJ2 232 yJ2_indexOfSupplementary_4cfef wsJ2_indexOfSupplementary_4cfef) := goodIn_app (goodIn_of _ (by decide +kernel)) ggJ2_indexOf_4cfef_J2_indexOfSupplementary_4cfef
theorem dJ2_indexOf_4cfef_0 : decode cJ2_indexOf_4cfef 0 = .ok (.iload_n 2, 1) := by decide +kernel
theorem dJ2_indexOf_4cfef_1 : decode cJ2_indexOf_4cfef 1 = .ok (.iconst 0, 1) := by decide +kernel
theorem dJ2_indexOf_4cfef_2 : decode cJ2_indexOf_4cfef 2 = .ok (.invokestatic 224, 3) := by decide +kernel
theorem dJ2_indexOf_4cfef_5 : decode cJ2_indexOf_4cfef 5 = .ok (.istore_n 2, 1) := by decide +kernel
theorem dJ2_indexOf_4cfef_6 : decode cJ2_indexOf_4cfef 6 = .ok (.iload_n 3, 1) := by decide +kernel
theorem dJ2_indexOf_4cfef_7 : decode cJ2_indexOf_4cfef 7 = .ok (.aload_n 0, 1) := by decide +kernel
theorem dJ2_indexOf_4cfef_8 : decode cJ2_indexOf_4cfef 8 = .ok (.arraylength, 1) := by decide +kernel
theorem dJ2_indexOf_4cfef_9 : decode cJ2_indexOf_4cfef 9 = .ok (.iconst 1, 1) := by decide +kernel
theorem dJ2_indexOf_4cfef_10 : decode cJ2_indexOf_4cfef 10 = .ok (.ishr, 1) := by decide +kernel
theorem dJ2_indexOf_4cfef_11 : decode cJ2_indexOf_4cfef 11 = .ok (.invokestatic 183, 3) := by decide +kernel
theorem dJ2_indexOf_4cfef_14 : decode cJ2_indexOf_4cfef 14 = .ok (.istore_n 3, 1) := by decide +kernel
theorem dJ2_indexOf_4cfef_15 : decode cJ2_indexOf_4cfef 15 = .ok (.iload_n 2, 1) := by decide +kernel
theorem dJ2_indexOf_4cfef_16 : decode cJ2_indexOf_4cfef 16 = .ok (.iload_n 3, 1) := by decide +kernel
theorem dJ2_indexOf_4cfef_17 : decode cJ2_indexOf_4cfef 17 = .ok (.if_icmp .lt 5, 3) := by decide +kernel
theorem dJ2_indexOf_4cfef_20 : decode cJ2_indexOf_4cfef 20 = .ok (.iconst (-1), 1) := by decide +kernel
theorem dJ2_indexOf_4cfef_21 : decode cJ2_indexOf_4cfef 21 = .ok (.ireturn, 1) := by decide +kernel
theorem dJ2_indexOf_4cfef_22 : decode cJ2_indexOf_4cfef 22 = .ok (.iload_n 1, 1) := by decide +kernel
theorem dJ2_indexOf_4cfef_23 : decode cJ2_indexOf_4cfef 23 = .ok (.ldc 227, 2) := by decide +kernel
theorem dJ2_indexOf_4cfef_25 : decode cJ2_indexOf_4cfef 25 = .ok (.if_icmp .ge 11, 3) := by decide +kernel
theorem dJ2_indexOf_4cfef_28 : decode cJ2_indexOf_4cfef 28 = .ok (.aload_n 0, 1) := by decide +kernel
theorem dJ2_indexOf_4cfef_29 : decode cJ2_indexOf_4cfef 29 = .ok (.iload_n 1, 1) := by decide +kernel
theorem dJ2_indexOf_4cfef_30 : decode cJ2_indexOf_4cfef 30 = .ok (.iload_n 2, 1) := by decide +kernel
theorem dJ2_indexOf_4cfef_31 : decode cJ2_indexOf_4cfef 31 = .ok (.iload_n 3, 1) := by decide +kernel
theorem dJ2_indexOf_4cfef_32 : decode cJ2_indexOf_4cfef 32 = .ok (.invokestatic 228, 3) := by decide +kernel
theorem dJ2_indexOf_4cfef_35 : decode cJ2_indexOf_4cfef 35 = .ok (.ireturn, 1) := by decide +kernel
theorem dJ2_indexOf_4cfef_36 : decode cJ2_indexOf_4cfef 36 = .ok (.aload_n 0, 1) := by decide +kernel
theorem dJ2_indexOf_4cfef_37 : decode cJ2_indexOf_4cfef 37 = .ok (.iload_n 1, 1) := by decide +kernel
theorem dJ2_indexOf_4cfef_38 : decode cJ2_indexOf_4cfef 38 = .ok (.iload_n 2, 1) := by decide +kernel
theorem dJ2_indexOf_4cfef_39 : decode cJ2_indexOf_4cfef 39 = .ok (.iload_n 3, 1) := by decide +kernel
theorem dJ2_indexOf_4cfef_40 : decode cJ2_indexOf_4cfef 40 = .ok (.invokestatic 232, 3) := by decide +kernel
theorem dJ2_indexOf_4cfef_43 : decode cJ2_indexOf_4cfef 43 = .ok (.ireturn, 1) := by decide +kernel
set_option maxRecDepth 20000 in
theorem ggJ2_indexOfChar_4cfef_J2_checkBoundsBeginEnd_d044e : GoodIn wsJ2_indexOfChar_4cfef wsJ2_checkBoundsBeginEnd_d044e := goodIn_r _ [4, 5, 6, 3, 7, 8, 9, 10, 11, 12, 13, 14, 15, 16] (by decide +kernel) (by decide +kernel)
set_option maxRecDepth 20000 in
theorem gJ2_indexOfChar_4cfef_J2_checkBoundsBeginEnd_d044e : GoodIn wsJ2_indexOfChar_4cfef (va_wsS RJ2 96 yJ2_checkBoundsBeginEnd_d044e wsJ2_checkBoundsBeginEnd_d044e) := goodIn_app (goodIn_of _ (by decide +kernel)) ggJ2_indexOfChar_4cfef_J2_checkBoundsBeginEnd_d044e
set_option maxRecDepth 20000 in
theorem ggJ2_indexOfChar_4cfef_J2_indexOfCharUnsafe_4cfef : GoodIn wsJ2_indexOfChar_4cfef wsJ2_indexOfCharUnsafe_4cfef := goodIn_r _ [19, 20, 21, 3, 22, 23, 24, 25, 5, 6, 7] (by decide +kernel) (by decide +kernel)
set_option maxRecDepth 20000 in
theorem gJ2_indexOfChar_4cfef_J2_indexOfCharUnsafe_4cfef : GoodIn wsJ2_indexOfChar_4cfef (va_wsS RJ2 244 yJ2_indexOfCharUnsafe_4cfef wsJ2_indexOfCharUnsafe_4cfef) := goodIn_app (goodIn_of _ (by decide +kernel)) ggJ2_indexOfChar_4cfef_J2_indexOfCharUnsafe_4cfef
theorem dJ2_indexOfChar_4cfef_0 : decode cJ2_indexOfChar_4cfef 0 = .ok (.iload_n 2, 1) := by decide +kernel
theorem dJ2_indexOfChar_4cfef_1 : decode cJ2_indexOfChar_4cfef 1 = .ok (.iload_n 3, 1) := by decide +kernel
theorem dJ2_indexOfChar_4cfef_2 : decode cJ2_indexOfChar_4cfef 2 = .ok (.aload_n 0, 1) := by decide +kernel
theorem dJ2_indexOfChar_4cfef_3 : decode cJ2_indexOfChar_4cfef 3 = .ok (.invokestatic 96, 3) := by decide +kernel
theorem dJ2_indexOfChar_4cfef_6 : decode cJ2_indexOfChar_4cfef 6 = .ok (.aload_n 0, 1) := by decide +kernel
theorem dJ2_indexOfChar_4cfef_7 : decode cJ2_indexOfChar_4cfef 7 = .ok (.iload_n 1, 1) := by decide +kernel
theorem dJ2_indexOfChar_4cfef_8 : decode cJ2_indexOfChar_4cfef 8 = .ok (.iload_n 2, 1) := by decide +kernel
theorem dJ2_indexOfChar_4cfef_9 : decode cJ2_indexOfChar_4cfef 9 = .ok (.iload_n 3, 1) := by decide +kernel
theorem dJ2_indexOfChar_4cfef_10 : decode cJ2_indexOfChar_4cfef 10 = .ok (.invokestatic 244, 3) := by decide +kernel
theorem dJ2_indexOfChar_4cfef_13 : decode cJ2_indexOfChar_4cfef 13 = .ok (.ireturn, 1) := by decide +kernel
set_option maxRecDepth 20000 in
theorem ggJ2_indexOfCharUnsafe_4cfef_J2_getChar_3b067 : GoodIn wsJ2_indexOfCharUnsafe_4cfef wsJ2_getChar_3b067 := goodIn_r _ [4, 5, 6, 7, 8, 9, 3, 10] (by decide +kernel) (by decide +kernel)
set_option maxRecDepth 20000 in
theorem gJ2_indexOfCharUnsafe_4cfef_J2_getChar_3b067 : GoodIn wsJ2_indexOfCharUnsafe_4cfef (va_wsS RJ2 71 yJ2_getChar_3b067 wsJ2_getChar_3b067) := goodIn_app (goodIn_of _ (by decide +kernel)) ggJ2_indexOfCharUnsafe_4cfef_J2_getChar_3b067
theorem dJ2_indexOfCharUnsafe_4cfef_0 : decode cJ2_indexOfCharUnsafe_4cfef 0 = .ok (.iload_n 2, 1) := by decide +kernel
theorem dJ2_indexOfCharUnsafe_4cfef_1 : decode cJ2_indexOfCharUnsafe_4cfef 1 = .ok (.istore 4, 2) := by decide +kernel
theorem dJ2_indexOfCharUnsafe_4cfef_3 : decode cJ2_indexOfCharUnsafe_4cfef 3 = .ok (.iload 4, 2) := by decide +kernel
theorem dJ2_indexOfCharUnsafe_4cfef_5 : decode cJ2_indexOfCharUnsafe_4cfef 5 = .ok (.iload_n 3, 1) := by decide +kernel
theorem dJ2_indexOfCharUnsafe_4cfef_6 : decode cJ2_indexOfCharUnsafe_4cfef 6 = .ok (.if_icmp .ge 22, 3) := by decide +kernel
theorem dJ2_indexOfCharUnsafe_4cfef_9 : decode cJ2_indexOfCharUnsafe_4cfef 9 = .ok (.aload_n 0, 1) := by decide +kernel
theorem dJ2_indexOfCharUnsafe_4cfef_10 : decode cJ2_indexOfCharUnsafe_4cfef 10 = .ok (.iload 4, 2) := by decide +kernel
theorem dJ2_indexOfCharUnsafe_4cfef_12 : decode cJ2_indexOfCharUnsafe_4cfef 12 = .ok (.invokestatic 71, 3) := by decide +kernel
theorem dJ2_indexOfCharUnsafe_4cfef_15 : decode cJ2_indexOfCharUnsafe_4cfef 15 = .ok (.iload_n 1, 1) := by decide +kernel
theorem dJ2_indexOfCharUnsafe_4cfef_16 : decode cJ2_indexOfCharUnsafe_4cfef 16 = .ok (.if_icmp .ne 6, 3) := by decide +kernel
theorem dJ2_indexOfCharUnsafe_4cfef_19 : decode cJ2_indexOfCharUnsafe_4cfef 19 = .ok (.iload 4, 2) := by decide +kernel
theorem dJ2_indexOfCharUnsafe_4cfef_21 : decode cJ2_indexOfCharUnsafe_4cfef 21 = .ok (.ireturn, 1) := by decide +kernel
theorem dJ2_indexOfCharUnsafe_4cfef_22 : decode cJ2_indexOfCharUnsafe_4cfef 22 = .ok (.iinc 4 1, 3) := by decide +kernel
theorem dJ2_indexOfCharUnsafe_4cfef_25 : decode cJ2_indexOfCharUnsafe_4cfef 25 = .ok (.goto (-22), 3) := by decide +kernel
theorem dJ2_indexOfCharUnsafe_4cfef_28 : decode cJ2_indexOfCharUnsafe_4cfef 28 = .ok (.iconst (-1), 1) := by decide +kernel
theorem dJ2_indexOfCharUnsafe_4cfef_29 : decode cJ2_indexOfCharUnsafe_4cfef 29 = .ok (.ireturn, 1) := by decide +kernel
set_option maxRecDepth 20000 in
theorem ggJ2_indexOfSupplementary_4cfef_J11_isValidCodePoint_9a6ad : GoodIn wsJ2_indexOfSupplementary_4cfef wsJ11_isValidCodePoint_9a6ad := goodIn_r _ [4] (by decide +kernel) (by decide +kernel)
set_option maxRecDepth 20000 in
theorem gJ2_indexOfSupplementary_4cfef_J11_isValidCodePoint_9a6ad : GoodIn wsJ2_indexOfSupplementary_4cfef (va_wsS RJ2 164 yJ11_isValidCodePoint_9a6ad wsJ11_isValidCodePoint_9a6ad) := goodIn_app (goodIn_of _ (by decide +kernel)) ggJ2_indexOfSupplementary_4cfef_J11_isValidCodePoint_9a6ad
set_option maxRecDepth 20000 in
theorem ggJ2_indexOfSupplementary_4cfef_J11_highSurrogate_5068e : GoodIn wsJ2_indexOfSupplementary_4cfef wsJ11_highSurrogate_5068e := goodIn_r _ [7, 8] (by decide +kernel) (by decide +kernel)
set_option maxRecDepth 20000 in
theorem gJ2_indexOfSupplementary_4cfef_J11_highSurrogate_5068e : GoodIn wsJ2_indexOfSupplementary_4cfef (va_wsS RJ2 157 yJ11_highSurrogate_5068e wsJ11_highSurrogate_5068e) := goodIn_app (goodIn_of _ (by decide +kernel)) ggJ2_indexOfSupplementary_4cfef_J11_highSurrogate_5068e
set_option maxRecDepth 20000 in
theorem ggJ2_indexOfSupplementary_4cfef_J11_lowSurrogate_5068e : GoodIn wsJ2_indexOfSupplementary_4cfef wsJ11_lowSurrogate_5068e := goodIn_r _ [11, 12] (by decide +kernel) (by decide +kernel)
set_option maxRecDepth 20000 in
theorem gJ2_indexOfSupplementary_4cfef_J11_lowSurrogate_5068e : GoodIn wsJ2_indexOfSupplementary_4cfef (va_wsS RJ2 161 yJ11_lowSurrogate_5068e wsJ11_lowSurrogate_5068e) := goodIn_app (goodIn_of _ (by decide +kernel)) ggJ2_indexOfSupplementary_4cfef_J11_lowSurrogate_5068e
set_option maxRecDepth 20000 in
theorem ggJ2_indexOfSupplementary_4cfef_J2_checkBoundsBeginEnd_d044e : GoodIn wsJ2_indexOfSupplementary_4cfef wsJ2_checkBoundsBeginEnd_d044e := goodIn_r _ [16, 17, 18, 15, 19, 20, 21, 22, 23, 24, 25, 26, 27, 28] (by decide +kernel) (by decide +kernel)
set_option maxRecDepth 20000 in
theorem gJ2_indexOfSupplementary_4cfef_J2_checkBoundsBeginEnd_d044e : GoodIn wsJ2_indexOfSupplementary_4cfef (va_wsS RJ2 96 yJ2_checkBoundsBeginEnd_d044e wsJ2_checkBoundsBeginEnd_d044e) := goodIn_app (goodIn_of _ (by decide +kernel)) ggJ2_indexOfSupplementary_4cfef_J2_checkBoundsBeginEnd_d044e
set_option maxRecDepth 20000 in
theorem ggJ2_indexOfSupplementary_4cfef_J2_getChar_3b067 : GoodIn wsJ2_indexOfSupplementary_4cfef wsJ2_getChar_3b067 := goodIn_r _ [31, 32, 33, 34, 17, 18, 15, 19] (by decide +kernel) (by decide +kernel)
set_option maxRecDepth 20000 in
theorem gJ2_indexOfSupplementary_4cfef_J2_getChar_3b067 : GoodIn wsJ2_indexOfSupplementary_4cfef (va_wsS RJ2 71 yJ2_getChar_3b067 wsJ2_getChar_3b067) := goodIn_app (goodIn_of _ (by decide +kernel)) ggJ2_indexOfSupplementary_4cfef_J2_getChar_3b067
theorem dJ2_indexOfSupplementary_4cfef_0 : decode cJ2_indexOfSupplementary_4cfef 0 = .ok (.iload_n 1, 1) := by decide +kernel
theorem dJ2_indexOfSupplementary_4cfef_1 : decode cJ2_indexOfSupplementary_4cfef 1 = .ok (.invokestatic 164, 3) := by decide +kernel
theorem dJ2_indexOfSupplementary_4cfef_4 : decode cJ2_indexOfSupplementary_4cfef 4 = .ok (.ifCond .eq 65, 3) := by decide +kernel
theorem dJ2_indexOfSupplementary_4cfef_7 : decode cJ2_indexOfSupplementary_4cfef 7 = .ok (.iload_n 1, 1) := by decide +kernel
theorem dJ2_indexOfSupplementary_4cfef_8 : decode cJ2_indexOfSupplementary_4cfef 8 = .ok (.invokestatic 157, 3) := by decide +kernel
theorem dJ2_indexOfSupplementary_4cfef_11 : decode cJ2_indexOfSupplementary_4cfef 11 = .ok (.istore 4, 2) := by decide +kernel
theorem dJ2_indexOfSupplementary_4cfef_13 : decode cJ2_indexOfSupplementary_4cfef 13 = .ok (.iload_n 1, 1) := by decide +kernel
theorem dJ2_indexOfSupplementary_4cfef_14 : decode cJ2_indexOfSupplementary_4cfef 14 = .ok (.invokestatic 161, 3) := by decide +kernel
theorem dJ2_indexOfSupplementary_4cfef_17 : decode cJ2_indexOfSupplementary_4cfef 17 = .ok (.istore 5, 2) := by decide +kernel
theorem dJ2_indexOfSupplementary_4cfef_19 : decode cJ2_indexOfSupplementary_4cfef 19 = .ok (.iload_n 2, 1) := by decide +kernel
theorem dJ2_indexOfSupplementary_4cfef_20 : decode cJ2_indexOfSupplementary_4cfef 20 = .ok (.iload_n 3, 1) := by decide +kernel
theorem dJ2_indexOfSupplementary_4cfef_21 : decode cJ2_indexOfSupplementary_4cfef 21 = .ok (.aload_n 0, 1) := by decide +kernel
theorem dJ2_indexOfSupplementary_4cfef_22 : decode cJ2_indexOfSupplementary_4cfef 22 = .ok (.invokestatic 96, 3) := by decide +kernel
theorem dJ2_indexOfSupplementary_4cfef_25 : decode cJ2_indexOfSupplementary_4cfef 25 = .ok (.iload_n 2, 1) := by decide +kernel
theorem dJ2_indexOfSupplementary_4cfef_26 : decode cJ2_indexOfSupplementary_4cfef 26 = .ok (.istore 6, 2) := by decide +kernel
theorem dJ2_indexOfSupplementary_4cfef_28 : decode cJ2_indexOfSupplementary_4cfef 28 = .ok (.iload 6, 2) := by decide +kernel
theorem dJ2_indexOfSupplementary_4cfef_30 : decode cJ2_indexOfSupplementary_4cfef 30 = .ok (.iload_n 3, 1) := by decide +kernel
theorem dJ2_indexOfSupplementary_4cfef_31 : decode cJ2_indexOfSupplementary_4cfef 31 = .ok (.iconst 1, 1) := by decide +kernel
theorem dJ2_indexOfSupplementary_4cfef_32 : decode cJ2_indexOfSupplementary_4cfef 32 = .ok (.isub, 1) := by decide +kernel
theorem dJ2_indexOfSupplementary_4cfef_33 : decode cJ2_indexOfSupplementary_4cfef 33 = .ok (.if_icmp .ge 36, 3) := by decide +kernel
theorem dJ2_indexOfSupplementary_4cfef_36 : decode cJ2_indexOfSupplementary_4cfef 36 = .ok (.aload_n 0, 1) := by decide +kernel
theorem dJ2_indexOfSupplementary_4cfef_37 : decode cJ2_indexOfSupplementary_4cfef 37 = .ok (.iload 6, 2) := by decide +kernel
theorem dJ2_indexOfSupplementary_4cfef_39 : decode cJ2_indexOfSupplementary_4cfef 39 = .ok (.invokestatic 71, 3) := by decide +kernel
theorem dJ2_indexOfSupplementary_4cfef_42 : decode cJ2_indexOfSupplementary_4cfef 42 = .ok (.iload 4, 2) := by decide +kernel
theorem dJ2_indexOfSupplementary_4cfef_44 : decode cJ2_indexOfSupplementary_4cfef 44 = .ok (.if_icmp .ne 19, 3) := by decide +kernel
theorem dJ2_indexOfSupplementary_4cfef_47 : decode cJ2_indexOfSupplementary_4cfef 47 = .ok (.aload_n 0, 1) := by decide +kernel
theorem dJ2_indexOfSupplementary_4cfef_48 : decode cJ2_indexOfSupplementary_4cfef 48 = .ok (.iload 6, 2) := by decide +kernel
theorem dJ2_indexOfSupplementary_4cfef_50 : decode cJ2_indexOfSupplementary_4cfef 50 = .ok (.iconst 1, 1) := by decide +kernel
theorem dJ2_indexOfSupplementary_4cfef_51 : decode cJ2_indexOfSupplementary_4cfef 51 = .ok (.iadd, 1) := by decide +kernel
theorem dJ2_indexOfSupplementary_4cfef_52 : decode cJ2_indexOfSupplementary_4cfef 52 = .ok (.invokestatic 71, 3) := by decide +kernel
theorem dJ2_indexOfSupplementary_4cfef_55 : decode cJ2_indexOfSupplementary_4cfef 55 = .ok (.iload 5, 2) := by decide +kernel
theorem dJ2_indexOfSupplementary_4cfef_57 : decode cJ2_indexOfSupplementary_4cfef 57 = .ok (.if_icmp .ne 6, 3) := by decide +kernel
theorem dJ2_indexOfSupplementary_4cfef_60 : decode cJ2_indexOfSupplementary_4cfef 60 = .ok (.iload 6, 2) := by decide +kernel
theorem dJ2_indexOfSupplementary_4cfef_62 : decode cJ2_indexOfSupplementary_4cfef 62 = .ok (.ireturn, 1) := by decide +kernel
theorem dJ2_indexOfSupplementary_4cfef_63 : decode cJ2_indexOfSupplementary_4cfef 63 = .ok (.iinc 6 1, 3) := by decide +kernel
theorem dJ2_indexOfSupplementary_4cfef_66 : decode cJ2_indexOfSupplementary_4cfef 66 = .ok (.goto (-38), 3) := by decide +kernel
theorem dJ2_indexOfSupplementary_4cfef_69 : decode cJ2_indexOfSupplementary_4cfef 69 = .ok (.iconst (-1), 1) := by decide +kernel
theorem dJ2_indexOfSupplementary_4cfef_70 : decode cJ2_indexOfSupplementary_4cfef 70 = .ok (.ireturn, 1) := by decide +kernel
set_option maxRecDepth 20000 in
theorem ggJ2_checkBoundsBeginEnd_d044e_J2_length_9d52b : GoodIn wsJ2_checkBoundsBeginEnd_d044e wsJ2_length_9d52b := goodIn_r _ [4] (by decide +kernel) (by decide +kernel)
set_option maxRecDepth 20000 in
theorem gJ2_checkBoundsBeginEnd_d044e_J2_length_9d52b : GoodIn wsJ2_checkBoundsBeginEnd_d044e (va_wsS RJ2 48 yJ2_length_9d52b wsJ2_length_9d52b) := goodIn_app (goodIn_of _ (by decide +kernel)) ggJ2_checkBoundsBeginEnd_d044e_J2_length_9d52b
set_option maxRecDepth 20000 in
theorem ggJ2_checkBoundsBeginEnd_d044e_J0_checkBoundsBeginEnd_23922 : GoodIn wsJ2_checkBoundsBeginEnd_d044e wsJ0_checkBoundsBeginEnd_23922 := goodIn_r _ [8, 9, 10, 11, 12, 13] (by decide +kernel) (by decide +kernel)
set_option maxRecDepth 20000 in
theorem gJ2_checkBoundsBeginEnd_d044e_J0_checkBoundsBeginEnd_23922 : GoodIn wsJ2_checkBoundsBeginEnd_d044e (va_wsS RJ2 241 yJ0_checkBoundsBeginEnd_23922 wsJ0_checkBoundsBeginEnd_23922) := goodIn_app (goodIn_of _ (by decide +kernel)) ggJ2_checkBoundsBeginEnd_d044e_J0_checkBoundsBeginEnd_23922
theorem dJ2_checkBoundsBeginEnd_d044e_0 : decode cJ2_checkBoundsBeginEnd_d044e 0 = .ok (.iload_n 0, 1) := by decide +kernel
theorem dJ2_checkBoundsBeginEnd_d044e_1 : decode cJ2_checkBoundsBeginEnd_d044e 1 = .ok (.iload_n 1, 1) := by decide +kernel
theorem dJ2_checkBoundsBeginEnd_d044e_2 : decode cJ2_checkBoundsBeginEnd_d044e 2 = .ok (.aload_n 2, 1) := by decide +kernel
theorem dJ2_checkBoundsBeginEnd_d044e_3 : decode cJ2_checkBoundsBeginEnd_d044e 3 = .ok (.invokestatic 48, 3) := by decide +kernel
theorem dJ2_checkBoundsBeginEnd_d044e_6 : decode cJ2_checkBoundsBeginEnd_d044e 6 = .ok (.invokestatic 241, 3) := by decide +kernel
theorem dJ2_checkBoundsBeginEnd_d044e_9 : decode cJ2_checkBoundsBeginEnd_d044e 9 = .ok (.return_, 1) := by decide +kernel
theorem dJ3_checkFromToIndex_8c36e_0 : decode cJ3_checkFromToIndex_8c36e 0 = .ok (.iload_n 0, 1) := by decide +kernel
theorem dJ3_checkFromToIndex_8c36e_1 : decode cJ3_checkFromToIndex_8c36e 1 = .ok (.ifCond .lt 13, 3) := by decide +kernel
theorem dJ3_checkFromToIndex_8c36e_4 : decode cJ3_checkFromToIndex_8c36e 4 = .ok (.iload_n 0, 1) := by decide +kernel
theorem dJ3_checkFromToIndex_8c36e_5 : decode cJ3_checkFromToIndex_8c36e 5 = .ok (.iload_n 1, 1) := by decide +kernel
theorem dJ3_checkFromToIndex_8c36e_6 : decode cJ3_checkFromToIndex_8c36e 6 = .ok (.if_icmp .gt 8, 3) := by decide +kernel
theorem dJ3_checkFromToIndex_8c36e_9 : decode cJ3_checkFromToIndex_8c36e 9 = .ok (.iload_n 1, 1) := by decide +kernel
theorem dJ3_checkFromToIndex_8c36e_10 : decode cJ3_checkFromToIndex_8c36e 10 = .ok (.iload_n 2, 1) := by decide +kernel
theorem dJ3_checkFromToIndex_8c36e_11 : decode cJ3_checkFromToIndex_8c36e 11 = .ok (.if_icmp .le 11, 3) := by decide +kernel
theorem dJ3_checkFromToIndex_8c36e_14 : decode cJ3_checkFromToIndex_8c36e 14 = .ok (.aload_n 3, 1) := by decide +kernel
theorem dJ3_checkFromToIndex_8c36e_15 : decode cJ3_checkFromToIndex_8c36e 15 = .ok (.iload_n 0, 1) := by decide +kernel
theorem dJ3_checkFromToIndex_8c36e_16 : decode cJ3_checkFromToIndex_8c36e 16 = .ok (.iload_n 1, 1) := by decide +kernel
theorem dJ3_checkFromToIndex_8c36e_17 : decode cJ3_checkFromToIndex_8c36e 17 = .ok (.iload_n 2, 1) := by decide +kernel
theorem dJ3_checkFromToIndex_8c36e_18 : decode cJ3_checkFromToIndex_8c36e 18 = .ok (.invokestatic 99, 3) := by decide +kernel
theorem dJ3_checkFromToIndex_8c36e_21 : decode cJ3_checkFromToIndex_8c36e 21 = .ok (.athrow, 1) := by decide +kernel
theorem dJ3_checkFromToIndex_8c36e_22 : decode cJ3_checkFromToIndex_8c36e 22 = .ok (.iload_n 0, 1) := by decide +kernel
theorem dJ3_checkFromToIndex_8c36e_23 : decode cJ3_checkFromToIndex_8c36e 23 = .ok (.ireturn, 1) := by decide +kernel
set_option maxRecDepth 20000 in
theorem ggL_law_X10_init : GoodIn wsL_law wsX10_init := goodIn_r _ [8, 9, 10, 11, 12, 13, 14, 15, 16, 17, 18, 19, 20, 21, 22, 23, 24, 25, 26, 27, 28, 29, 30, 31, 32, 33, 34, 35, 36, 37, 38, 39, 40, 41, 42, 43, 44, 45, 46, 47, 48, 49, 50, 51, 52, 53, 54, 55, 56, 57, 58, 59, 60, 61, 62, 63, 64, 65, 66, 67, 68, 69, 70, 71, 72, 73, 74, 75, 76, 77, 78, 79, 80, 81, 82, 83, 84, 85, 86, 87, 88, 89, 90, 91, 92, 93, 94, 95, 96, 97, 98, 99, 100, 101, 102, 103, 104, 105, 106, 107, 871, 872, 833, 834, 835, 836, 837, 838, 839, 840, 841, 842, 873, 874, 875, 876, 877, 878, 879, 880, 881, 882, 883, 884, 885, 886, 887, 888, 889, 890, 891, 892, 893, 894, 895, 896, 897, 898, 899, 900, 901, 902] (by decide +kernel) (by decide +kernel)
set_option maxRecDepth 20000 in
theorem gL_law_X10_init : GoodIn wsL_law (wsX10_init) := ggL_law_X10_init
set_option maxRecDepth 20000 in
theorem ggL_law_X11_init : GoodIn wsL_law wsX11_init := goodIn_r _ [110, 111, 10, 11, 52, 112, 113, 114, 115, 116, 117, 118, 119, 120, 121, 122, 123, 124, 125, 126, 127, 128, 5, 129, 130, 131, 132, 843, 844, 845, 846, 847, 848, 849, 850, 851, 852, 853, 854, 855, 856, 857, 858, 859, 860, 861, 862, 863, 864, 865, 866, 867, 868, 869, 870] (by decide +kernel) (by decide +kernel)
set_option maxRecDepth 20000 in
theorem gL_law_X11_init : GoodIn wsL_law (wsX11_init) := ggL_law_X11_init
set_option maxRecDepth 20000 in
theorem ggL_law_X10_letter : GoodIn wsL_law wsX10_letter := goodIn_r _ [136, 15, 137, 14, 138, 139, 54, 53, 140, 141, 142, 143, 833, 834, 835, 836, 837, 838, 839, 840, 841, 842, 871, 872] (by decide +kernel) (by decide +kernel)
set_option maxRecDepth 20000 in
theorem gL_law_X10_letter : GoodIn wsL_law (wsV RL 13 RX10 yX10_letter wsX10_letter) := goodIn_app (goodIn_of _ (by decide +kernel)) ggL_law_X10_letter
set_option maxRecDepth 20000 in
theorem ggL_law_X11_letter : GoodIn wsL_law wsX11_letter := goodIn_r _ [147, 148, 149, 114, 150, 151, 5, 152, 843, 844, 845, 846, 847, 848, 849, 850, 851, 852, 853, 854, 855, 856, 857, 858, 859, 860, 861, 862, 863, 864, 865, 866, 867, 868, 869, 870] (by decide +kernel) (by decide +kernel)
set_option maxRecDepth 20000 in
theorem gL_law_X11_letter : GoodIn wsL_law (wsV RL 17 RX11 yX11_letter wsX11_letter) := goodIn_app (goodIn_of _ (by decide +kernel)) ggL_law_X11_letter
set_option maxRecDepth 20000 in
theorem ggL_law_X10_blank : GoodIn wsL_law wsX10_blank := goodIn_r _ [156, 15, 157, 14, 158, 159, 54, 833, 834, 835, 836, 837, 838, 839, 840, 841, 842, 871, 872] (by decide +kernel) (by decide +kernel)
set_option maxRecDepth 20000 in
theorem gL_law_X10_blank : GoodIn wsL_law (wsV RL 18 RX10 yX10_blank wsX10_blank) := goodIn_app (goodIn_of _ (by decide +kernel)) ggL_law_X10_blank
set_option maxRecDepth 20000 in
theorem ggL_law_X11_blank : GoodIn wsL_law wsX11_blank := goodIn_r _ [163, 149, 843, 844, 845, 846, 847, 848, 849, 850, 851, 852, 853, 854, 855, 856, 857, 858, 859, 860, 861, 862, 863, 864, 865, 866, 867, 868, 869, 870] (by decide +kernel) (by decide +kernel)
set_option maxRecDepth 20000 in
theorem gL_law_X11_blank : GoodIn wsL_law (wsV RL 22 RX11 yX11_blank wsX11_blank) := goodIn_app (goodIn_of _ (by decide +kernel)) ggL_law_X11_blank
set_option maxRecDepth 20000 in
theorem ggL_law_X10_fault : GoodIn wsL_law wsX10_fault := goodIn_r _ [167, 15, 168, 14, 169, 170, 54, 171, 172, 173, 174, 53, 175, 2, 176, 177, 178, 179, 180, 181, 182, 183, 184, 185, 186, 187, 188, 189, 190, 191, 192, 193, 194, 195, 196, 197, 198, 199, 200, 201, 202, 203, 204, 205, 206, 207, 208, 209, 210, 211, 212, 213, 214, 215, 216, 217, 218, 219, 220, 221, 222, 223, 224, 225, 226, 227, 228, 229, 230, 231, 232, 233, 234, 235, 236, 237, 238, 239, 240, 241, 242, 243, 244, 245, 246, 247, 248, 249, 250, 251, 252, 253, 254, 255, 256, 257, 258, 259, 260, 261, 262, 263, 264, 265, 266, 267, 268, 269, 270, 271, 833, 834, 835, 836, 837, 838, 839, 840, 841, 842, 871, 872] (by decide +kernel) (by decide +kernel)
set_option maxRecDepth 20000 in
theorem gL_law_X10_fault : GoodIn wsL_law (wsV RL 23 RX10 yX10_fault wsX10_fault) := goodIn_app (goodIn_of _ (by decide +kernel)) ggL_law_X10_fault
set_option maxRecDepth 20000 in
theorem ggL_law_X11_fault : GoodIn wsL_law wsX11_fault := goodIn_r _ [275, 276, 277, 278, 5, 279, 280, 281, 282, 149, 114, 283, 284, 285, 286, 115, 287, 288, 116, 289, 290, 291, 150, 151, 152, 292, 293, 294, 843, 844, 845, 846, 847, 848, 849, 850, 851, 852, 853, 854, 855, 856, 857, 858, 859, 860, 861, 862, 863, 864, 865, 866, 867, 868, 869, 870] (by decide +kernel) (by decide +kernel)
set_option maxRecDepth 20000 in
theorem gL_law_X11_fault : GoodIn wsL_law (wsV RL 26 RX11 yX11_fault wsX11_fault) := goodIn_app (goodIn_of _ (by decide +kernel)) ggL_law_X11_fault
set_option maxRecDepth 20000 in
theorem ggL_law_X10_hall : GoodIn wsL_law wsX10_hall := goodIn_r _ [298, 15, 43, 45, 46, 35, 47, 48, 299, 14, 300, 301, 54, 171, 172, 173, 174, 53, 175, 2, 176, 302, 168, 169, 170, 177, 178, 179, 180, 181, 182, 183, 184, 185, 186, 187, 188, 189, 190, 191, 192, 193, 194, 195, 196, 197, 198, 199, 200, 201, 202, 203, 204, 205, 206, 207, 208, 209, 210, 211, 212, 213, 214, 215, 216, 217, 218, 219, 220, 221, 222, 223, 224, 225, 226, 227, 228, 229, 230, 231, 232, 233, 234, 235, 236, 237, 238, 239, 240, 241, 242, 243, 244, 245, 246, 247, 248, 249, 250, 251, 252, 253, 254, 255, 256, 257, 258, 259, 260, 261, 262, 263, 264, 265, 266, 267, 268, 269, 270, 271, 303, 42, 304, 305, 91, 306, 95, 96, 97, 98, 307, 308, 309, 310, 311, 312, 313, 314, 315, 316, 93, 317, 318, 102, 103, 104, 105, 106, 107, 319, 320, 321, 322, 323, 324, 325, 31, 326, 327, 328, 329, 330, 331, 34, 332, 333, 81, 82, 334, 335, 336, 337, 338, 339, 340, 18, 341, 60, 61, 342, 343, 344, 345, 346, 347, 348, 349, 350, 24, 351, 352, 353, 354, 355, 356, 357, 358, 359, 360, 361, 362, 363, 364, 365, 366, 367, 368, 369, 370, 371, 372, 373, 374, 375, 376, 377, 157, 158, 159, 833, 834, 835, 836, 837, 838, 839, 840, 841, 842, 891, 892, 893, 894, 895, 896, 871, 872, 897, 898, 899, 900, 901, 902, 888, 889, 885, 886, 887, 873, 874, 875, 876, 877, 878, 882, 883, 884, 879, 880, 881] (by decide +kernel) (by decide +kernel)
set_option maxRecDepth 20000 in
theorem gL_law_X10_hall : GoodIn wsL_law (wsV RL 27 RX10 yX10_hall wsX10_hall) := goodIn_app (goodIn_of _ (by decide +kernel)) ggL_law_X10_hall
set_option maxRecDepth 20000 in
theorem ggL_law_X11_hall : GoodIn wsL_law wsX11_hall := goodIn_r _ [381, 149, 282, 280, 382, 116, 118, 117, 115, 383, 384, 385, 386, 276, 277, 278, 5, 279, 281, 114, 283, 284, 285, 286, 287, 288, 289, 290, 291, 150, 151, 152, 292, 293, 294, 387, 388, 389, 843, 844, 845, 846, 847, 848, 849, 850, 851, 852, 853, 854, 855, 856, 857, 858, 859, 860, 861, 862, 863, 864, 865, 866, 867, 868, 869, 870] (by decide +kernel) (by decide +kernel)
set_option maxRecDepth 20000 in
theorem gL_law_X11_hall : GoodIn wsL_law (wsV RL 30 RX11 yX11_hall wsX11_hall) := goodIn_app (goodIn_of _ (by decide +kernel)) ggL_law_X11_hall
set_option maxRecDepth 20000 in
theorem ggL_law_X10_thing : GoodIn wsL_law wsX10_thing := goodIn_r _ [393, 43, 394, 42, 395, 396, 95, 175, 2, 176, 327, 397, 93, 398, 399, 102, 103, 104, 105, 106, 107, 833, 834, 835, 836, 837, 838, 839, 840, 841, 842, 891, 892, 893, 894, 895, 896, 897, 898, 899, 900, 901, 902] (by decide +kernel) (by decide +kernel)
set_option maxRecDepth 20000 in
theorem gL_law_X10_thing : GoodIn wsL_law (wsV RL 31 RX10 yX10_thing wsX10_thing) := goodIn_app (goodIn_of _ (by decide +kernel)) ggL_law_X10_thing
set_option maxRecDepth 20000 in
theorem ggL_law_X11_thing : GoodIn wsL_law wsX11_thing := goodIn_r _ [403, 404, 117, 405, 406, 407, 5, 408, 382, 150, 151, 152, 843, 844, 845, 846, 847, 848, 849, 850, 851, 852, 853, 854, 855, 856, 857, 858, 859, 860, 861, 862, 863, 864, 865, 866, 867, 868, 869, 870] (by decide +kernel) (by decide +kernel)
set_option maxRecDepth 20000 in
theorem gL_law_X11_thing : GoodIn wsL_law (wsV RL 35 RX11 yX11_thing wsX11_thing) := goodIn_app (goodIn_of _ (by decide +kernel)) ggL_law_X11_thing
set_option maxRecDepth 20000 in
theorem ggL_law_X10_dice : GoodIn wsL_law wsX10_dice := goodIn_r _ [412, 413, 414, 415, 2, 416, 43, 417, 42, 418, 419, 95, 327, 175, 176, 420, 421, 422, 423, 45, 46, 424, 425, 426, 427, 18, 428, 59, 60, 61, 429, 353, 354, 355, 356, 357, 358, 359, 360, 361, 362, 363, 364, 365, 366, 430, 368, 369, 370, 371, 372, 373, 24, 374, 375, 376, 377, 431, 432, 433, 434, 435, 833, 834, 835, 836, 837, 838, 839, 840, 841, 842, 891, 892, 893, 894, 895, 896, 885, 886, 887, 873, 874, 875, 876, 877, 878, 882, 883, 884, 879, 880, 881] (by decide +kernel) (by decide +kernel)
set_option maxRecDepth 20000 in
theorem gL_law_X10_dice : GoodIn wsL_law (wsV RL 36 RX10 yX10_dice wsX10_dice) := goodIn_app (goodIn_of _ (by decide +kernel)) ggL_law_X10_dice
set_option maxRecDepth 20000 in
theorem ggL_law_X11_dice : GoodIn wsL_law wsX11_dice := goodIn_r _ [439, 440, 441, 442, 5, 443, 444, 445, 446, 447, 382, 150, 151, 152, 448, 449, 450, 451, 118, 127, 128, 129, 130, 131, 132, 452, 453, 454, 455, 456, 457, 458, 459, 113, 112, 843, 844, 845, 846, 847, 848, 849, 850, 851, 852, 853, 854, 855, 856, 857, 858, 859, 860, 861, 862, 863, 864, 865, 866, 867, 868, 869, 870] (by decide +kernel) (by decide +kernel)
set_option maxRecDepth 20000 in
theorem gL_law_X11_dice : GoodIn wsL_law (wsV RL 39 RX11 yX11_dice wsX11_dice) := goodIn_app (goodIn_of _ (by decide +kernel)) ggL_law_X11_dice
set_option maxRecDepth 20000 in
theorem ggL_law_X10_as : GoodIn wsL_law wsX10_as := goodIn_r _ [463, 413, 414, 415, 2, 416, 43, 417, 42, 418, 419, 95, 327, 175, 176, 420, 421, 422, 423, 45, 46, 464, 465, 466, 467, 468, 469, 470, 833, 834, 835, 836, 837, 838, 839, 840, 841, 842, 891, 892, 893, 894, 895, 896] (by decide +kernel) (by decide +kernel)
set_option maxRecDepth 20000 in
theorem gL_law_X10_as : GoodIn wsL_law (wsV RL 40 RX10 yX10_as wsX10_as) := goodIn_app (goodIn_of _ (by decide +kernel)) ggL_law_X10_as
set_option maxRecDepth 20000 in
theorem ggL_law_X11_as : GoodIn wsL_law wsX11_as := goodIn_r _ [474, 475, 118, 440, 441, 442, 5, 443, 444, 445, 446, 447, 382, 150, 151, 152, 843, 844, 845, 846, 847, 848, 849, 850, 851, 852, 853, 854, 855, 856, 857, 858, 859, 860, 861, 862, 863, 864, 865, 866, 867, 868, 869, 870] (by decide +kernel) (by decide +kernel)
set_option maxRecDepth 20000 in
theorem gL_law_X11_as : GoodIn wsL_law (wsV RL 43 RX11 yX11_as wsX11_as) := goodIn_app (goodIn_of _ (by decide +kernel)) ggL_law_X11_as
set_option maxRecDepth 20000 in
theorem ggL_law_X10_ways : GoodIn wsL_law wsX10_ways := goodIn_r _ [479, 413, 414, 415, 2, 416, 43, 417, 42, 418, 419, 95, 480, 342, 343, 420, 421, 422, 423, 45, 46, 481, 338, 339, 340, 18, 341, 60, 61, 482, 345, 346, 347, 348, 349, 350, 24, 351, 833, 834, 835, 836, 837, 838, 839, 840, 841, 842, 891, 892, 893, 894, 895, 896, 885, 886, 887, 873, 874, 875, 876, 877, 878, 882, 883, 884, 879, 880, 881] (by decide +kernel) (by decide +kernel)
set_option maxRecDepth 20000 in
theorem gL_law_X10_ways : GoodIn wsL_law (wsV RL 44 RX10 yX10_ways wsX10_ways) := goodIn_app (goodIn_of _ (by decide +kernel)) ggL_law_X10_ways
set_option maxRecDepth 20000 in
theorem ggL_law_X11_ways : GoodIn wsL_law wsX11_ways := goodIn_r _ [486, 487, 488, 118, 440, 441, 442, 5, 443, 444, 445, 446, 447, 382, 150, 151, 152, 456, 457, 458, 459, 113, 112, 843, 844, 845, 846, 847, 848, 849, 850, 851, 852, 853, 854, 855, 856, 857, 858, 859, 860, 861, 862, 863, 864, 865, 866, 867, 868, 869, 870] (by decide +kernel) (by decide +kernel)
set_option maxRecDepth 20000 in
theorem gL_law_X11_ways : GoodIn wsL_law (wsV RL 47 RX11 yX11_ways wsX11_ways) := goodIn_app (goodIn_of _ (by decide +kernel)) ggL_law_X11_ways
set_option maxRecDepth 20000 in
theorem ggL_law_X10_play : GoodIn wsL_law wsX10_play := goodIn_r _ [492, 43, 45, 46, 394, 42, 395, 396, 95, 175, 2, 176, 481, 338, 339, 340, 18, 341, 60, 61, 342, 343, 482, 345, 346, 347, 348, 349, 350, 24, 351, 493, 494, 495, 91, 496, 497, 498, 499, 97, 96, 500, 501, 502, 503, 504, 505, 93, 506, 507, 104, 105, 106, 107, 508, 509, 510, 833, 834, 835, 836, 837, 838, 839, 840, 841, 842, 891, 892, 893, 894, 895, 896, 885, 886, 887, 873, 874, 875, 876, 877, 878, 882, 883, 884, 879, 880, 881, 897, 898, 899, 900, 901, 902] (by decide +kernel) (by decide +kernel)
set_option maxRecDepth 20000 in
theorem gL_law_X10_play : GoodIn wsL_law (wsV RL 48 RX10 yX10_play wsX10_play) := goodIn_app (goodIn_of _ (by decide +kernel)) ggL_law_X10_play
set_option maxRecDepth 20000 in
theorem ggL_law_X11_play : GoodIn wsL_law wsX11_play := goodIn_r _ [514, 487, 488, 118, 117, 384, 383, 405, 406, 407, 5, 408, 382, 150, 151, 152, 456, 457, 458, 459, 113, 112, 515, 516, 517, 518, 519, 520, 521, 522, 523, 524, 525, 526, 527, 528, 529, 530, 843, 844, 845, 846, 847, 848, 849, 850, 851, 852, 853, 854, 855, 856, 857, 858, 859, 860, 861, 862, 863, 864, 865, 866, 867, 868, 869, 870] (by decide +kernel) (by decide +kernel)
set_option maxRecDepth 20000 in
theorem gL_law_X11_play : GoodIn wsL_law (wsV RL 52 RX11 yX11_play wsX11_play) := goodIn_app (goodIn_of _ (by decide +kernel)) ggL_law_X11_play
set_option maxRecDepth 20000 in
theorem ggL_law_X10_odds : GoodIn wsL_law wsX10_odds := goodIn_r _ [534, 43, 35, 327, 175, 2, 176, 417, 42, 418, 419, 95, 535, 34, 536, 537, 81, 538, 539, 540, 541, 542, 543, 833, 834, 835, 836, 837, 838, 839, 840, 841, 842, 888, 889, 891, 892, 893, 894, 895, 896] (by decide +kernel) (by decide +kernel)
set_option maxRecDepth 20000 in
theorem gL_law_X10_odds : GoodIn wsL_law (wsV RL 53 RX10 yX10_odds wsX10_odds) := goodIn_app (goodIn_of _ (by decide +kernel)) ggL_law_X10_odds
set_option maxRecDepth 20000 in
theorem ggL_law_X11_odds : GoodIn wsL_law wsX11_odds := goodIn_r _ [547, 404, 150, 151, 5, 152, 444, 445, 446, 447, 382, 548, 549, 550, 551, 552, 553, 554, 555, 118, 456, 457, 458, 459, 113, 112, 556, 557, 558, 559, 452, 453, 454, 455, 560, 561, 562, 843, 844, 845, 846, 847, 848, 849, 850, 851, 852, 853, 854, 855, 856, 857, 858, 859, 860, 861, 862, 863, 864, 865, 866, 867, 868, 869, 870] (by decide +kernel) (by decide +kernel)
set_option maxRecDepth 20000 in
theorem gL_law_X11_odds : GoodIn wsL_law (wsV RL 56 RX11 yX11_odds wsX11_odds) := goodIn_app (goodIn_of _ (by decide +kernel)) ggL_law_X11_odds
set_option maxRecDepth 20000 in
theorem ggL_law_X10_back : GoodIn wsL_law wsX10_back := goodIn_r _ [566, 43, 567, 568, 569, 35, 394, 42, 395, 396, 95, 175, 2, 176, 327, 570, 571, 572, 500, 493, 494, 495, 91, 496, 573, 574, 575, 535, 34, 536, 537, 81, 576, 577, 578, 538, 539, 540, 541, 542, 543, 833, 834, 835, 836, 837, 838, 839, 840, 841, 842, 891, 892, 893, 894, 895, 896, 897, 898, 899, 900, 901, 902, 888, 889] (by decide +kernel) (by decide +kernel)
set_option maxRecDepth 20000 in
theorem gL_law_X10_back : GoodIn wsL_law (wsV RL 57 RX10 yX10_back wsX10_back) := goodIn_app (goodIn_of _ (by decide +kernel)) ggL_law_X10_back
set_option maxRecDepth 20000 in
theorem ggL_law_X11_back : GoodIn wsL_law wsX11_back := goodIn_r _ [582, 583, 404, 584, 585, 405, 406, 407, 5, 408, 382, 150, 151, 152, 515, 516, 517, 518, 117, 586, 587, 588, 589, 120, 121, 552, 553, 554, 555, 118, 456, 457, 458, 459, 113, 112, 556, 557, 558, 559, 452, 453, 454, 455, 560, 561, 562, 843, 844, 845, 846, 847, 848, 849, 850, 851, 852, 853, 854, 855, 856, 857, 858, 859, 860, 861, 862, 863, 864, 865, 866, 867, 868, 869, 870] (by decide +kernel) (by decide +kernel)
set_option maxRecDepth 20000 in
theorem gL_law_X11_back : GoodIn wsL_law (wsV RL 61 RX11 yX11_back wsX11_back) := goodIn_app (goodIn_of _ (by decide +kernel)) ggL_law_X11_back
set_option maxRecDepth 20000 in
theorem ggL_law_X10_laws : GoodIn wsL_law wsX10_laws := goodIn_r _ [593, 43, 327, 175, 2, 176, 417, 42, 418, 419, 95, 594, 595, 596, 91, 597, 93, 598, 599, 104, 102, 600, 601, 602, 603, 106, 604, 605, 606, 833, 834, 835, 836, 837, 838, 839, 840, 841, 842, 891, 892, 893, 894, 895, 896, 897, 898, 899, 900, 901, 902] (by decide +kernel) (by decide +kernel)
set_option maxRecDepth 20000 in
theorem gL_law_X10_laws : GoodIn wsL_law (wsV RL 62 RX10 yX10_laws wsX10_laws) := goodIn_app (goodIn_of _ (by decide +kernel)) ggL_law_X10_laws
set_option maxRecDepth 20000 in
theorem ggL_law_X11_laws : GoodIn wsL_law wsX11_laws := goodIn_r _ [610, 611, 150, 151, 5, 152, 444, 445, 446, 447, 382, 612, 613, 614, 615, 117, 616, 617, 618, 619, 515, 516, 517, 518, 843, 844, 845, 846, 847, 848, 849, 850, 851, 852, 853, 854, 855, 856, 857, 858, 859, 860, 861, 862, 863, 864, 865, 866, 867, 868, 869, 870] (by decide +kernel) (by decide +kernel)
set_option maxRecDepth 20000 in
theorem gL_law_X11_laws : GoodIn wsL_law (wsV RL 65 RX11 yX11_laws wsX11_laws) := goodIn_app (goodIn_of _ (by decide +kernel)) ggL_law_X11_laws
set_option maxRecDepth 20000 in
theorem ggL_law_X10_see : GoodIn wsL_law wsX10_see := goodIn_r _ [623, 43, 480, 342, 2, 343, 624, 42, 625, 626, 98, 94, 175, 176, 833, 834, 835, 836, 837, 838, 839, 840, 841, 842, 891, 892, 893, 894, 895, 896] (by decide +kernel) (by decide +kernel)
set_option maxRecDepth 20000 in
theorem gL_law_X10_see : GoodIn wsL_law (wsV RL 66 RX10 yX10_see wsX10_see) := goodIn_app (goodIn_of _ (by decide +kernel)) ggL_law_X10_see
set_option maxRecDepth 20000 in
theorem ggL_law_X11_see : GoodIn wsL_law wsX11_see := goodIn_r _ [630, 487, 488, 385, 122, 150, 151, 5, 152, 843, 844, 845, 846, 847, 848, 849, 850, 851, 852, 853, 854, 855, 856, 857, 858, 859, 860, 861, 862, 863, 864, 865, 866, 867, 868, 869, 870] (by decide +kernel) (by decide +kernel)
set_option maxRecDepth 20000 in
theorem gL_law_X11_see : GoodIn wsL_law (wsV RL 69 RX11 yX11_see wsX11_see) := goodIn_app (goodIn_of _ (by decide +kernel)) ggL_law_X11_see
set_option maxRecDepth 20000 in
theorem ggL_law_X10_forget : GoodIn wsL_law wsX10_forget := goodIn_r _ [634, 43, 635, 42, 636, 637, 98, 833, 834, 835, 836, 837, 838, 839, 840, 841, 842, 891, 892, 893, 894, 895, 896] (by decide +kernel) (by decide +kernel)
set_option maxRecDepth 20000 in
theorem gL_law_X10_forget : GoodIn wsL_law (wsV RL 70 RX10 yX10_forget wsX10_forget) := goodIn_app (goodIn_of _ (by decide +kernel)) ggL_law_X10_forget
set_option maxRecDepth 20000 in
theorem ggL_law_X11_forget : GoodIn wsL_law wsX11_forget := goodIn_r _ [641, 385, 843, 844, 845, 846, 847, 848, 849, 850, 851, 852, 853, 854, 855, 856, 857, 858, 859, 860, 861, 862, 863, 864, 865, 866, 867, 868, 869, 870] (by decide +kernel) (by decide +kernel)
set_option maxRecDepth 20000 in
theorem gL_law_X11_forget : GoodIn wsL_law (wsV RL 73 RX11 yX11_forget wsX11_forget) := goodIn_app (goodIn_of _ (by decide +kernel)) ggL_law_X11_forget
set_option maxRecDepth 20000 in
theorem ggL_law_X10_which : GoodIn wsL_law wsX10_which := goodIn_r _ [645, 31, 43, 646, 42, 647, 648, 98, 94, 649, 338, 339, 340, 18, 341, 60, 61, 342, 2, 343, 650, 345, 346, 347, 348, 349, 350, 24, 351, 833, 834, 835, 836, 837, 838, 839, 840, 841, 842, 891, 892, 893, 894, 895, 896, 885, 886, 887, 873, 874, 875, 876, 877, 878, 882, 883, 884, 879, 880, 881] (by decide +kernel) (by decide +kernel)
set_option maxRecDepth 20000 in
theorem gL_law_X10_which : GoodIn wsL_law (wsV RL 74 RX10 yX10_which wsX10_which) := goodIn_app (goodIn_of _ (by decide +kernel)) ggL_law_X10_which
set_option maxRecDepth 20000 in
theorem ggL_law_X11_which : GoodIn wsL_law wsX11_which := goodIn_r _ [654, 655, 656, 657, 5, 658, 659, 660, 661, 662, 385, 122, 456, 457, 458, 459, 113, 112, 843, 844, 845, 846, 847, 848, 849, 850, 851, 852, 853, 854, 855, 856, 857, 858, 859, 860, 861, 862, 863, 864, 865, 866, 867, 868, 869, 870] (by decide +kernel) (by decide +kernel)
set_option maxRecDepth 20000 in
theorem gL_law_X11_which : GoodIn wsL_law (wsV RL 77 RX11 yX11_which wsX11_which) := goodIn_app (goodIn_of _ (by decide +kernel)) ggL_law_X11_which
set_option maxRecDepth 20000 in
theorem ggL_law_X10_likely : GoodIn wsL_law wsX10_likely := goodIn_r _ [666, 31, 43, 646, 42, 647, 648, 98, 94, 649, 338, 339, 340, 18, 341, 60, 61, 342, 2, 343, 650, 345, 346, 347, 348, 349, 350, 24, 351, 667, 353, 354, 355, 356, 357, 358, 359, 360, 361, 362, 363, 364, 365, 366, 668, 368, 369, 370, 371, 372, 373, 374, 375, 376, 377, 576, 577, 578, 833, 834, 835, 836, 837, 838, 839, 840, 841, 842, 891, 892, 893, 894, 895, 896, 885, 886, 887, 873, 874, 875, 876, 877, 878, 882, 883, 884, 879, 880, 881] (by decide +kernel) (by decide +kernel)
set_option maxRecDepth 20000 in
theorem gL_law_X10_likely : GoodIn wsL_law (wsV RL 78 RX10 yX10_likely wsX10_likely) := goodIn_app (goodIn_of _ (by decide +kernel)) ggL_law_X10_likely
set_option maxRecDepth 20000 in
theorem ggL_law_X11_likely : GoodIn wsL_law wsX11_likely := goodIn_r _ [672, 673, 674, 675, 5, 676, 659, 660, 661, 662, 385, 122, 456, 457, 458, 459, 113, 112, 677, 678, 679, 680, 452, 453, 454, 455, 843, 844, 845, 846, 847, 848, 849, 850, 851, 852, 853, 854, 855, 856, 857, 858, 859, 860, 861, 862, 863, 864, 865, 866, 867, 868, 869, 870] (by decide +kernel) (by decide +kernel)
set_option maxRecDepth 20000 in
theorem gL_law_X11_likely : GoodIn wsL_law (wsV RL 81 RX11 yX11_likely wsX11_likely) := goodIn_app (goodIn_of _ (by decide +kernel)) ggL_law_X11_likely
set_option maxRecDepth 20000 in
theorem ggL_law_X10_halls : GoodIn wsL_law wsX10_halls := goodIn_r _ [684, 43, 39, 45, 46, 327, 175, 2, 176, 417, 42, 418, 419, 95, 594, 595, 596, 91, 597, 93, 598, 599, 104, 102, 600, 601, 602, 603, 106, 685, 38, 686, 687, 86, 688, 689, 690, 691, 692, 693, 694, 695, 18, 696, 60, 357, 358, 359, 360, 361, 61, 362, 363, 364, 365, 366, 697, 698, 699, 700, 701, 702, 703, 704, 705, 706, 707, 708, 709, 710, 24, 711, 712, 713, 375, 376, 377, 604, 605, 606, 714, 715, 716, 717, 718, 719, 720, 721, 722, 833, 834, 835, 836, 837, 838, 839, 840, 841, 842, 891, 892, 893, 894, 895, 896, 897, 898, 899, 900, 901, 902, 890, 885, 886, 887, 873, 874, 875, 876, 877, 878, 882, 883, 884, 879, 880, 881] (by decide +kernel) (by decide +kernel)
set_option maxRecDepth 20000 in
theorem gL_law_X10_halls : GoodIn wsL_law (wsV RL 82 RX10 yX10_halls wsX10_halls) := goodIn_app (goodIn_of _ (by decide +kernel)) ggL_law_X10_halls
set_option maxRecDepth 20000 in
theorem ggL_law_X11_halls : GoodIn wsL_law wsX11_halls := goodIn_r _ [726, 727, 487, 117, 123, 728, 383, 118, 150, 151, 5, 152, 444, 445, 446, 447, 382, 387, 388, 389, 729, 730, 731, 732, 515, 516, 517, 518, 733, 734, 735, 736, 737, 738, 739, 740, 130, 131, 132, 127, 128, 129, 741, 742, 743, 744, 745, 746, 747, 748, 843, 844, 845, 846, 847, 848, 849, 850, 851, 852, 853, 854, 855, 856, 857, 858, 859, 860, 861, 862, 863, 864, 865, 866, 867, 868, 869, 870] (by decide +kernel) (by decide +kernel)
set_option maxRecDepth 20000 in
theorem gL_law_X11_halls : GoodIn wsL_law (wsV RL 86 RX11 yX11_halls wsX11_halls) := goodIn_app (goodIn_of _ (by decide +kernel)) ggL_law_X11_halls
set_option maxRecDepth 20000 in
theorem ggL_law_X10_image : GoodIn wsL_law wsX10_image := goodIn_r _ [752, 43, 44, 47, 417, 42, 418, 419, 95, 753, 754, 755, 91, 94, 96, 97, 98, 756, 93, 757, 758, 102, 103, 104, 105, 106, 107, 833, 834, 835, 836, 837, 838, 839, 840, 841, 842, 891, 892, 893, 894, 895, 896, 897, 898, 899, 900, 901, 902] (by decide +kernel) (by decide +kernel)
set_option maxRecDepth 20000 in
theorem gL_law_X10_image : GoodIn wsL_law (wsV RL 87 RX10 yX10_image wsX10_image) := goodIn_app (goodIn_of _ (by decide +kernel)) ggL_law_X10_image
set_option maxRecDepth 20000 in
theorem ggL_law_X11_image : GoodIn wsL_law wsX11_image := goodIn_r _ [762, 117, 124, 122, 125, 383, 763, 384, 764, 385, 765, 386, 126, 444, 445, 446, 5, 447, 382, 387, 388, 389, 843, 844, 845, 846, 847, 848, 849, 850, 851, 852, 853, 854, 855, 856, 857, 858, 859, 860, 861, 862, 863, 864, 865, 866, 867, 868, 869, 870] (by decide +kernel) (by decide +kernel)
set_option maxRecDepth 20000 in
theorem gL_law_X11_image : GoodIn wsL_law (wsV RL 90 RX11 yX11_image wsX11_image) := goodIn_app (goodIn_of _ (by decide +kernel)) ggL_law_X11_image
set_option maxRecDepth 20000 in
theorem ggL_law_X10_restore : GoodIn wsL_law wsX10_restore := goodIn_r _ [769, 47, 43, 44, 753, 42, 754, 755, 91, 94, 95, 96, 97, 98, 756, 93, 757, 758, 102, 103, 104, 105, 106, 107, 833, 834, 835, 836, 837, 838, 839, 840, 841, 842, 891, 892, 893, 894, 895, 896, 897, 898, 899, 900, 901, 902] (by decide +kernel) (by decide +kernel)
set_option maxRecDepth 20000 in
theorem gL_law_X10_restore : GoodIn wsL_law (wsV RL 91 RX10 yX10_restore wsX10_restore) := goodIn_app (goodIn_of _ (by decide +kernel)) ggL_law_X10_restore
set_option maxRecDepth 20000 in
theorem ggL_law_X11_restore : GoodIn wsL_law wsX11_restore := goodIn_r _ [773, 126, 386, 124, 117, 125, 122, 763, 383, 764, 384, 765, 385, 387, 388, 5, 389, 843, 844, 845, 846, 847, 848, 849, 850, 851, 852, 853, 854, 855, 856, 857, 858, 859, 860, 861, 862, 863, 864, 865, 866, 867, 868, 869, 870] (by decide +kernel) (by decide +kernel)
set_option maxRecDepth 20000 in
theorem gL_law_X11_restore : GoodIn wsL_law (wsV RL 94 RX11 yX11_restore wsX11_restore) := goodIn_app (goodIn_of _ (by decide +kernel)) ggL_law_X11_restore
set_option maxRecDepth 20000 in
theorem ggL_law_X10_count : GoodIn wsL_law wsX10_count := goodIn_r _ [777, 43, 15, 48, 594, 42, 595, 596, 95, 91, 597, 93, 598, 599, 104, 102, 600, 601, 602, 603, 106, 714, 715, 690, 716, 717, 718, 719, 604, 605, 606, 778, 779, 780, 833, 834, 835, 836, 837, 838, 839, 840, 841, 842, 891, 892, 893, 894, 895, 896, 871, 872, 897, 898, 899, 900, 901, 902] (by decide +kernel) (by decide +kernel)
set_option maxRecDepth 20000 in
theorem gL_law_X10_count : GoodIn wsL_law (wsV RL 95 RX10 yX10_count wsX10_count) := goodIn_app (goodIn_of _ (by decide +kernel)) ggL_law_X10_count
set_option maxRecDepth 20000 in
theorem ggL_law_X11_count : GoodIn wsL_law wsX11_count := goodIn_r _ [784, 785, 786, 787, 5, 788, 382, 383, 384, 385, 149, 386, 729, 730, 731, 732, 515, 516, 517, 518, 117, 612, 613, 614, 615, 616, 617, 618, 619, 789, 790, 791, 792, 843, 844, 845, 846, 847, 848, 849, 850, 851, 852, 853, 854, 855, 856, 857, 858, 859, 860, 861, 862, 863, 864, 865, 866, 867, 868, 869, 870] (by decide +kernel) (by decide +kernel)
set_option maxRecDepth 20000 in
theorem gL_law_X11_count : GoodIn wsL_law (wsV RL 98 RX11 yX11_count wsX11_count) := goodIn_app (goodIn_of _ (by decide +kernel)) ggL_law_X11_count
set_option maxRecDepth 20000 in
theorem ggL_law_X10_digest : GoodIn wsL_law wsX10_digest := goodIn_r _ [796, 797, 43, 15, 798, 799, 800, 2, 801, 802, 391, 392, 393, 394, 42, 395, 396, 95, 175, 176, 327, 397, 93, 398, 399, 102, 103, 104, 105, 106, 107, 803, 804, 805, 806, 807, 564, 565, 566, 567, 568, 569, 35, 570, 571, 572, 500, 493, 494, 495, 91, 496, 573, 574, 575, 535, 34, 536, 537, 81, 576, 577, 578, 538, 539, 540, 541, 542, 543, 417, 418, 419, 808, 809, 810, 811, 812, 410, 411, 412, 413, 414, 415, 416, 420, 421, 422, 423, 45, 46, 424, 425, 426, 427, 18, 428, 59, 60, 61, 429, 353, 354, 355, 356, 357, 358, 359, 360, 361, 362, 363, 364, 365, 366, 430, 368, 369, 370, 371, 372, 373, 24, 374, 375, 376, 377, 431, 432, 433, 434, 435, 813, 532, 533, 534, 814, 591, 592, 593, 594, 595, 596, 597, 598, 599, 600, 601, 602, 603, 604, 605, 606, 815, 643, 644, 645, 31, 646, 647, 648, 98, 94, 649, 338, 339, 340, 341, 342, 343, 650, 345, 346, 347, 348, 349, 350, 351, 816, 664, 665, 666, 667, 668, 172, 14, 173, 174, 54, 53, 817, 775, 776, 777, 48, 714, 715, 690, 716, 717, 718, 719, 778, 779, 780, 833, 834, 835, 836, 837, 838, 839, 840, 841, 842, 891, 892, 893, 894, 895, 896, 871, 872, 897, 898, 899, 900, 901, 902, 888, 889, 885, 886, 887, 873, 874, 875, 876, 877, 878, 882, 883, 884, 879, 880, 881] (by decide +kernel) (by decide +kernel)
set_option maxRecDepth 20000 in
theorem gL_law_X10_digest : GoodIn wsL_law (wsV RL 99 RX10 yX10_digest wsX10_digest) := goodIn_app (goodIn_of _ (by decide +kernel)) ggL_law_X10_digest
set_option maxRecDepth 20000 in
theorem ggL_law_X11_digest : GoodIn wsL_law wsX11_digest := goodIn_r _ [821, 822, 823, 382, 117, 149, 114, 824, 825, 826, 5, 827, 828, 515, 516, 517, 518, 586, 587, 588, 589, 120, 121, 552, 553, 554, 555, 118, 456, 457, 458, 459, 113, 112, 556, 557, 558, 559, 452, 453, 454, 455, 560, 561, 562, 444, 445, 446, 447, 829, 830, 831, 832, 448, 449, 450, 451, 127, 128, 129, 130, 131, 132, 548, 549, 550, 551, 612, 613, 614, 615, 616, 617, 618, 619, 655, 656, 657, 658, 659, 660, 661, 662, 385, 122, 673, 674, 675, 676, 677, 678, 679, 680, 785, 786, 787, 788, 383, 384, 386, 729, 730, 731, 732, 789, 790, 791, 792, 843, 844, 845, 846, 847, 848, 849, 850, 851, 852, 853, 854, 855, 856, 857, 858, 859, 860, 861, 862, 863, 864, 865, 866, 867, 868, 869, 870] (by decide +kernel) (by decide +kernel)
set_option maxRecDepth 20000 in
theorem gL_law_X11_digest : GoodIn wsL_law (wsV RL 103 RX11 yX11_digest wsX11_digest) := goodIn_app (goodIn_of _ (by decide +kernel)) ggL_law_X11_digest
theorem dL_law_0 : decode cL_law 0 = .ok (.new 7, 3) := by decide +kernel
theorem dL_law_3 : decode cL_law 3 = .ok (.dup, 1) := by decide +kernel
theorem dL_law_4 : decode cL_law 4 = .ok (.invokespecial 9, 3) := by decide +kernel
theorem dL_law_7 : decode cL_law 7 = .ok (.astore_n 1, 1) := by decide +kernel
theorem dL_law_8 : decode cL_law 8 = .ok (.new 10, 3) := by decide +kernel
theorem dL_law_11 : decode cL_law 11 = .ok (.dup, 1) := by decide +kernel
theorem dL_law_12 : decode cL_law 12 = .ok (.invokespecial 12, 3) := by decide +kernel
theorem dL_law_15 : decode cL_law 15 = .ok (.astore_n 2, 1) := by decide +kernel
theorem dL_law_16 : decode cL_law 16 = .ok (.iconst 0, 1) := by decide +kernel
theorem dL_law_17 : decode cL_law 17 = .ok (.istore_n 3, 1) := by decide +kernel
theorem dL_law_18 : decode cL_law 18 = .ok (.iload_n 3, 1) := by decide +kernel
theorem dL_law_19 : decode cL_law 19 = .ok (.aload_n 0, 1) := by decide +kernel
theorem dL_law_20 : decode cL_law 20 = .ok (.arraylength, 1) := by decide +kernel
theorem dL_law_21 : decode cL_law 21 = .ok (.iconst 5, 1) := by decide +kernel
theorem dL_law_22 : decode cL_law 22 = .ok (.isub, 1) := by decide +kernel
theorem dL_law_23 : decode cL_law 23 = .ok (.if_icmp .gt 630, 3) := by decide +kernel
theorem dL_law_26 : decode cL_law 26 = .ok (.aload_n 0, 1) := by decide +kernel
theorem dL_law_27 : decode cL_law 27 = .ok (.iload_n 3, 1) := by decide +kernel
theorem dL_law_28 : decode cL_law 28 = .ok (.iaload, 1) := by decide +kernel
theorem dL_law_29 : decode cL_law 29 = .ok (.bipush 31, 2) := by decide +kernel
theorem dL_law_31 : decode cL_law 31 = .ok (.iand, 1) := by decide +kernel
theorem dL_law_32 : decode cL_law 32 = .ok (.tableswitch 615 0 20 #[100, 123, 136, 149, 162, 195, 228, 261, 294, 347, 370, 414, 447, 470, 483, 496, 509, 552, 565, 578, 601], 100) := by decide +kernel
theorem dL_law_132 : decode cL_law 132 = .ok (.aload_n 1, 1) := by decide +kernel
theorem dL_law_133 : decode cL_law 133 = .ok (.aload_n 0, 1) := by decide +kernel
theorem dL_law_134 : decode cL_law 134 = .ok (.iload_n 3, 1) := by decide +kernel
theorem dL_law_135 : decode cL_law 135 = .ok (.iconst 1, 1) := by decide +kernel
theorem dL_law_136 : decode cL_law 136 = .ok (.iadd, 1) := by decide +kernel
theorem dL_law_137 : decode cL_law 137 = .ok (.iaload, 1) := by decide +kernel
theorem dL_law_138 : decode cL_law 138 = .ok (.invokevirtual 13, 3) := by decide +kernel
theorem dL_law_141 : decode cL_law 141 = .ok (.aload_n 2, 1) := by decide +kernel
theorem dL_law_142 : decode cL_law 142 = .ok (.aload_n 0, 1) := by decide +kernel
theorem dL_law_143 : decode cL_law 143 = .ok (.iload_n 3, 1) := by decide +kernel
theorem dL_law_144 : decode cL_law 144 = .ok (.iconst 1, 1) := by decide +kernel
theorem dL_law_145 : decode cL_law 145 = .ok (.iadd, 1) := by decide +kernel
theorem dL_law_146 : decode cL_law 146 = .ok (.iaload, 1) := by decide +kernel
theorem dL_law_147 : decode cL_law 147 = .ok (.invokevirtual 17, 3) := by decide +kernel
theorem dL_law_150 : decode cL_law 150 = .ok (.if_icmp .eq 497, 3) := by decide +kernel
theorem dL_law_153 : decode cL_law 153 = .ok (.iconst 0, 1) := by decide +kernel
theorem dL_law_154 : decode cL_law 154 = .ok (.ireturn, 1) := by decide +kernel
theorem dL_law_155 : decode cL_law 155 = .ok (.aload_n 1, 1) := by decide +kernel
theorem dL_law_156 : decode cL_law 156 = .ok (.invokevirtual 18, 3) := by decide +kernel
theorem dL_law_159 : decode cL_law 159 = .ok (.aload_n 2, 1) := by decide +kernel
theorem dL_law_160 : decode cL_law 160 = .ok (.invokevirtual 22, 3) := by decide +kernel
theorem dL_law_163 : decode cL_law 163 = .ok (.if_icmp .eq 484, 3) := by decide +kernel
theorem dL_law_166 : decode cL_law 166 = .ok (.iconst 0, 1) := by decide +kernel
theorem dL_law_167 : decode cL_law 167 = .ok (.ireturn, 1) := by decide +kernel
theorem dL_law_168 : decode cL_law 168 = .ok (.aload_n 1, 1) := by decide +kernel
theorem dL_law_169 : decode cL_law 169 = .ok (.invokevirtual 23, 3) := by decide +kernel
theorem dL_law_172 : decode cL_law 172 = .ok (.aload_n 2, 1) := by decide +kernel
theorem dL_law_173 : decode cL_law 173 = .ok (.invokevirtual 26, 3) := by decide +kernel
theorem dL_law_176 : decode cL_law 176 = .ok (.if_icmp .eq 471, 3) := by decide +kernel
theorem dL_law_179 : decode cL_law 179 = .ok (.iconst 0, 1) := by decide +kernel
theorem dL_law_180 : decode cL_law 180 = .ok (.ireturn, 1) := by decide +kernel
theorem dL_law_181 : decode cL_law 181 = .ok (.aload_n 1, 1) := by decide +kernel
theorem dL_law_182 : decode cL_law 182 = .ok (.invokevirtual 27, 3) := by decide +kernel
theorem dL_law_185 : decode cL_law 185 = .ok (.aload_n 2, 1) := by decide +kernel
theorem dL_law_186 : decode cL_law 186 = .ok (.invokevirtual 30, 3) := by decide +kernel
theorem dL_law_189 : decode cL_law 189 = .ok (.if_icmp .eq 458, 3) := by decide +kernel
theorem dL_law_192 : decode cL_law 192 = .ok (.iconst 0, 1) := by decide +kernel
theorem dL_law_193 : decode cL_law 193 = .ok (.ireturn, 1) := by decide +kernel
theorem dL_law_194 : decode cL_law 194 = .ok (.aload_n 1, 1) := by decide +kernel
theorem dL_law_195 : decode cL_law 195 = .ok (.aload_n 0, 1) := by decide +kernel
theorem dL_law_196 : decode cL_law 196 = .ok (.iload_n 3, 1) := by decide +kernel
theorem dL_law_197 : decode cL_law 197 = .ok (.iconst 1, 1) := by decide +kernel
theorem dL_law_198 : decode cL_law 198 = .ok (.iadd, 1) := by decide +kernel
theorem dL_law_199 : decode cL_law 199 = .ok (.iaload, 1) := by decide +kernel
theorem dL_law_200 : decode cL_law 200 = .ok (.aload_n 0, 1) := by decide +kernel
theorem dL_law_201 : decode cL_law 201 = .ok (.iload_n 3, 1) := by decide +kernel
theorem dL_law_202 : decode cL_law 202 = .ok (.iconst 2, 1) := by decide +kernel
theorem dL_law_203 : decode cL_law 203 = .ok (.iadd, 1) := by decide +kernel
theorem dL_law_204 : decode cL_law 204 = .ok (.iaload, 1) := by decide +kernel
theorem dL_law_205 : decode cL_law 205 = .ok (.invokevirtual 31, 3) := by decide +kernel
theorem dL_law_208 : decode cL_law 208 = .ok (.aload_n 2, 1) := by decide +kernel
theorem dL_law_209 : decode cL_law 209 = .ok (.aload_n 0, 1) := by decide +kernel
theorem dL_law_210 : decode cL_law 210 = .ok (.iload_n 3, 1) := by decide +kernel
theorem dL_law_211 : decode cL_law 211 = .ok (.iconst 1, 1) := by decide +kernel
theorem dL_law_212 : decode cL_law 212 = .ok (.iadd, 1) := by decide +kernel
theorem dL_law_213 : decode cL_law 213 = .ok (.iaload, 1) := by decide +kernel
theorem dL_law_214 : decode cL_law 214 = .ok (.aload_n 0, 1) := by decide +kernel
theorem dL_law_215 : decode cL_law 215 = .ok (.iload_n 3, 1) := by decide +kernel
theorem dL_law_216 : decode cL_law 216 = .ok (.iconst 2, 1) := by decide +kernel
theorem dL_law_217 : decode cL_law 217 = .ok (.iadd, 1) := by decide +kernel
theorem dL_law_218 : decode cL_law 218 = .ok (.iaload, 1) := by decide +kernel
theorem dL_law_219 : decode cL_law 219 = .ok (.invokevirtual 35, 3) := by decide +kernel
theorem dL_law_222 : decode cL_law 222 = .ok (.if_icmp .eq 425, 3) := by decide +kernel
theorem dL_law_225 : decode cL_law 225 = .ok (.iconst 0, 1) := by decide +kernel
theorem dL_law_226 : decode cL_law 226 = .ok (.ireturn, 1) := by decide +kernel
theorem dL_law_227 : decode cL_law 227 = .ok (.aload_n 1, 1) := by decide +kernel
theorem dL_law_228 : decode cL_law 228 = .ok (.aload_n 0, 1) := by decide +kernel
theorem dL_law_229 : decode cL_law 229 = .ok (.iload_n 3, 1) := by decide +kernel
theorem dL_law_230 : decode cL_law 230 = .ok (.iconst 1, 1) := by decide +kernel
theorem dL_law_231 : decode cL_law 231 = .ok (.iadd, 1) := by decide +kernel
theorem dL_law_232 : decode cL_law 232 = .ok (.iaload, 1) := by decide +kernel
theorem dL_law_233 : decode cL_law 233 = .ok (.aload_n 0, 1) := by decide +kernel
theorem dL_law_234 : decode cL_law 234 = .ok (.iload_n 3, 1) := by decide +kernel
theorem dL_law_235 : decode cL_law 235 = .ok (.iconst 2, 1) := by decide +kernel
theorem dL_law_236 : decode cL_law 236 = .ok (.iadd, 1) := by decide +kernel
theorem dL_law_237 : decode cL_law 237 = .ok (.iaload, 1) := by decide +kernel
theorem dL_law_238 : decode cL_law 238 = .ok (.invokevirtual 36, 3) := by decide +kernel
theorem dL_law_241 : decode cL_law 241 = .ok (.aload_n 2, 1) := by decide +kernel
theorem dL_law_242 : decode cL_law 242 = .ok (.aload_n 0, 1) := by decide +kernel
theorem dL_law_243 : decode cL_law 243 = .ok (.iload_n 3, 1) := by decide +kernel
theorem dL_law_244 : decode cL_law 244 = .ok (.iconst 1, 1) := by decide +kernel
theorem dL_law_245 : decode cL_law 245 = .ok (.iadd, 1) := by decide +kernel
theorem dL_law_246 : decode cL_law 246 = .ok (.iaload, 1) := by decide +kernel
theorem dL_law_247 : decode cL_law 247 = .ok (.aload_n 0, 1) := by decide +kernel
theorem dL_law_248 : decode cL_law 248 = .ok (.iload_n 3, 1) := by decide +kernel
theorem dL_law_249 : decode cL_law 249 = .ok (.iconst 2, 1) := by decide +kernel
theorem dL_law_250 : decode cL_law 250 = .ok (.iadd, 1) := by decide +kernel
theorem dL_law_251 : decode cL_law 251 = .ok (.iaload, 1) := by decide +kernel
theorem dL_law_252 : decode cL_law 252 = .ok (.invokevirtual 39, 3) := by decide +kernel
theorem dL_law_255 : decode cL_law 255 = .ok (.if_icmp .eq 392, 3) := by decide +kernel
theorem dL_law_258 : decode cL_law 258 = .ok (.iconst 0, 1) := by decide +kernel
theorem dL_law_259 : decode cL_law 259 = .ok (.ireturn, 1) := by decide +kernel
theorem dL_law_260 : decode cL_law 260 = .ok (.aload_n 1, 1) := by decide +kernel
theorem dL_law_261 : decode cL_law 261 = .ok (.aload_n 0, 1) := by decide +kernel
theorem dL_law_262 : decode cL_law 262 = .ok (.iload_n 3, 1) := by decide +kernel
theorem dL_law_263 : decode cL_law 263 = .ok (.iconst 1, 1) := by decide +kernel
theorem dL_law_264 : decode cL_law 264 = .ok (.iadd, 1) := by decide +kernel
theorem dL_law_265 : decode cL_law 265 = .ok (.iaload, 1) := by decide +kernel
theorem dL_law_266 : decode cL_law 266 = .ok (.aload_n 0, 1) := by decide +kernel
theorem dL_law_267 : decode cL_law 267 = .ok (.iload_n 3, 1) := by decide +kernel
theorem dL_law_268 : decode cL_law 268 = .ok (.iconst 2, 1) := by decide +kernel
theorem dL_law_269 : decode cL_law 269 = .ok (.iadd, 1) := by decide +kernel
theorem dL_law_270 : decode cL_law 270 = .ok (.iaload, 1) := by decide +kernel
theorem dL_law_271 : decode cL_law 271 = .ok (.invokevirtual 40, 3) := by decide +kernel
theorem dL_law_274 : decode cL_law 274 = .ok (.aload_n 2, 1) := by decide +kernel
theorem dL_law_275 : decode cL_law 275 = .ok (.aload_n 0, 1) := by decide +kernel
theorem dL_law_276 : decode cL_law 276 = .ok (.iload_n 3, 1) := by decide +kernel
theorem dL_law_277 : decode cL_law 277 = .ok (.iconst 1, 1) := by decide +kernel
theorem dL_law_278 : decode cL_law 278 = .ok (.iadd, 1) := by decide +kernel
theorem dL_law_279 : decode cL_law 279 = .ok (.iaload, 1) := by decide +kernel
theorem dL_law_280 : decode cL_law 280 = .ok (.aload_n 0, 1) := by decide +kernel
theorem dL_law_281 : decode cL_law 281 = .ok (.iload_n 3, 1) := by decide +kernel
theorem dL_law_282 : decode cL_law 282 = .ok (.iconst 2, 1) := by decide +kernel
theorem dL_law_283 : decode cL_law 283 = .ok (.iadd, 1) := by decide +kernel
theorem dL_law_284 : decode cL_law 284 = .ok (.iaload, 1) := by decide +kernel
theorem dL_law_285 : decode cL_law 285 = .ok (.invokevirtual 43, 3) := by decide +kernel
theorem dL_law_288 : decode cL_law 288 = .ok (.if_icmp .eq 359, 3) := by decide +kernel
theorem dL_law_291 : decode cL_law 291 = .ok (.iconst 0, 1) := by decide +kernel
theorem dL_law_292 : decode cL_law 292 = .ok (.ireturn, 1) := by decide +kernel
theorem dL_law_293 : decode cL_law 293 = .ok (.aload_n 1, 1) := by decide +kernel
theorem dL_law_294 : decode cL_law 294 = .ok (.aload_n 0, 1) := by decide +kernel
theorem dL_law_295 : decode cL_law 295 = .ok (.iload_n 3, 1) := by decide +kernel
theorem dL_law_296 : decode cL_law 296 = .ok (.iconst 1, 1) := by decide +kernel
theorem dL_law_297 : decode cL_law 297 = .ok (.iadd, 1) := by decide +kernel
theorem dL_law_298 : decode cL_law 298 = .ok (.iaload, 1) := by decide +kernel
theorem dL_law_299 : decode cL_law 299 = .ok (.aload_n 0, 1) := by decide +kernel
theorem dL_law_300 : decode cL_law 300 = .ok (.iload_n 3, 1) := by decide +kernel
theorem dL_law_301 : decode cL_law 301 = .ok (.iconst 2, 1) := by decide +kernel
theorem dL_law_302 : decode cL_law 302 = .ok (.iadd, 1) := by decide +kernel
theorem dL_law_303 : decode cL_law 303 = .ok (.iaload, 1) := by decide +kernel
theorem dL_law_304 : decode cL_law 304 = .ok (.invokevirtual 44, 3) := by decide +kernel
theorem dL_law_307 : decode cL_law 307 = .ok (.aload_n 2, 1) := by decide +kernel
theorem dL_law_308 : decode cL_law 308 = .ok (.aload_n 0, 1) := by decide +kernel
theorem dL_law_309 : decode cL_law 309 = .ok (.iload_n 3, 1) := by decide +kernel
theorem dL_law_310 : decode cL_law 310 = .ok (.iconst 1, 1) := by decide +kernel
theorem dL_law_311 : decode cL_law 311 = .ok (.iadd, 1) := by decide +kernel
theorem dL_law_312 : decode cL_law 312 = .ok (.iaload, 1) := by decide +kernel
theorem dL_law_313 : decode cL_law 313 = .ok (.aload_n 0, 1) := by decide +kernel
theorem dL_law_314 : decode cL_law 314 = .ok (.iload_n 3, 1) := by decide +kernel
theorem dL_law_315 : decode cL_law 315 = .ok (.iconst 2, 1) := by decide +kernel
theorem dL_law_316 : decode cL_law 316 = .ok (.iadd, 1) := by decide +kernel
theorem dL_law_317 : decode cL_law 317 = .ok (.iaload, 1) := by decide +kernel
theorem dL_law_318 : decode cL_law 318 = .ok (.invokevirtual 47, 3) := by decide +kernel
theorem dL_law_321 : decode cL_law 321 = .ok (.if_icmp .eq 326, 3) := by decide +kernel
theorem dL_law_324 : decode cL_law 324 = .ok (.iconst 0, 1) := by decide +kernel
theorem dL_law_325 : decode cL_law 325 = .ok (.ireturn, 1) := by decide +kernel
theorem dL_law_326 : decode cL_law 326 = .ok (.aload_n 1, 1) := by decide +kernel
theorem dL_law_327 : decode cL_law 327 = .ok (.aload_n 0, 1) := by decide +kernel
theorem dL_law_328 : decode cL_law 328 = .ok (.iload_n 3, 1) := by decide +kernel
theorem dL_law_329 : decode cL_law 329 = .ok (.iconst 1, 1) := by decide +kernel
theorem dL_law_330 : decode cL_law 330 = .ok (.iadd, 1) := by decide +kernel
theorem dL_law_331 : decode cL_law 331 = .ok (.iaload, 1) := by decide +kernel
theorem dL_law_332 : decode cL_law 332 = .ok (.aload_n 0, 1) := by decide +kernel
theorem dL_law_333 : decode cL_law 333 = .ok (.iload_n 3, 1) := by decide +kernel
theorem dL_law_334 : decode cL_law 334 = .ok (.iconst 2, 1) := by decide +kernel
theorem dL_law_335 : decode cL_law 335 = .ok (.iadd, 1) := by decide +kernel
theorem dL_law_336 : decode cL_law 336 = .ok (.iaload, 1) := by decide +kernel
theorem dL_law_337 : decode cL_law 337 = .ok (.aload_n 0, 1) := by decide +kernel
theorem dL_law_338 : decode cL_law 338 = .ok (.iload_n 3, 1) := by decide +kernel
theorem dL_law_339 : decode cL_law 339 = .ok (.iconst 3, 1) := by decide +kernel
theorem dL_law_340 : decode cL_law 340 = .ok (.iadd, 1) := by decide +kernel
theorem dL_law_341 : decode cL_law 341 = .ok (.iaload, 1) := by decide +kernel
theorem dL_law_342 : decode cL_law 342 = .ok (.aload_n 0, 1) := by decide +kernel
theorem dL_law_343 : decode cL_law 343 = .ok (.iload_n 3, 1) := by decide +kernel
theorem dL_law_344 : decode cL_law 344 = .ok (.iconst 4, 1) := by decide +kernel
theorem dL_law_345 : decode cL_law 345 = .ok (.iadd, 1) := by decide +kernel
theorem dL_law_346 : decode cL_law 346 = .ok (.iaload, 1) := by decide +kernel
theorem dL_law_347 : decode cL_law 347 = .ok (.invokevirtual 48, 3) := by decide +kernel
theorem dL_law_350 : decode cL_law 350 = .ok (.aload_n 2, 1) := by decide +kernel
theorem dL_law_351 : decode cL_law 351 = .ok (.aload_n 0, 1) := by decide +kernel
theorem dL_law_352 : decode cL_law 352 = .ok (.iload_n 3, 1) := by decide +kernel
theorem dL_law_353 : decode cL_law 353 = .ok (.iconst 1, 1) := by decide +kernel
theorem dL_law_354 : decode cL_law 354 = .ok (.iadd, 1) := by decide +kernel
theorem dL_law_355 : decode cL_law 355 = .ok (.iaload, 1) := by decide +kernel
theorem dL_law_356 : decode cL_law 356 = .ok (.aload_n 0, 1) := by decide +kernel
theorem dL_law_357 : decode cL_law 357 = .ok (.iload_n 3, 1) := by decide +kernel
theorem dL_law_358 : decode cL_law 358 = .ok (.iconst 2, 1) := by decide +kernel
theorem dL_law_359 : decode cL_law 359 = .ok (.iadd, 1) := by decide +kernel
theorem dL_law_360 : decode cL_law 360 = .ok (.iaload, 1) := by decide +kernel
theorem dL_law_361 : decode cL_law 361 = .ok (.aload_n 0, 1) := by decide +kernel
theorem dL_law_362 : decode cL_law 362 = .ok (.iload_n 3, 1) := by decide +kernel
theorem dL_law_363 : decode cL_law 363 = .ok (.iconst 3, 1) := by decide +kernel
theorem dL_law_364 : decode cL_law 364 = .ok (.iadd, 1) := by decide +kernel
theorem dL_law_365 : decode cL_law 365 = .ok (.iaload, 1) := by decide +kernel
theorem dL_law_366 : decode cL_law 366 = .ok (.aload_n 0, 1) := by decide +kernel
theorem dL_law_367 : decode cL_law 367 = .ok (.iload_n 3, 1) := by decide +kernel
theorem dL_law_368 : decode cL_law 368 = .ok (.iconst 4, 1) := by decide +kernel
theorem dL_law_369 : decode cL_law 369 = .ok (.iadd, 1) := by decide +kernel
theorem dL_law_370 : decode cL_law 370 = .ok (.iaload, 1) := by decide +kernel
theorem dL_law_371 : decode cL_law 371 = .ok (.invokevirtual 52, 3) := by decide +kernel
theorem dL_law_374 : decode cL_law 374 = .ok (.if_icmp .eq 273, 3) := by decide +kernel
theorem dL_law_377 : decode cL_law 377 = .ok (.iconst 0, 1) := by decide +kernel
theorem dL_law_378 : decode cL_law 378 = .ok (.ireturn, 1) := by decide +kernel
theorem dL_law_379 : decode cL_law 379 = .ok (.aload_n 1, 1) := by decide +kernel
theorem dL_law_380 : decode cL_law 380 = .ok (.aload_n 0, 1) := by decide +kernel
theorem dL_law_381 : decode cL_law 381 = .ok (.iload_n 3, 1) := by decide +kernel
theorem dL_law_382 : decode cL_law 382 = .ok (.iconst 1, 1) := by decide +kernel
theorem dL_law_383 : decode cL_law 383 = .ok (.iadd, 1) := by decide +kernel
theorem dL_law_384 : decode cL_law 384 = .ok (.iaload, 1) := by decide +kernel
theorem dL_law_385 : decode cL_law 385 = .ok (.invokevirtual 53, 3) := by decide +kernel
theorem dL_law_388 : decode cL_law 388 = .ok (.aload_n 2, 1) := by decide +kernel
theorem dL_law_389 : decode cL_law 389 = .ok (.aload_n 0, 1) := by decide +kernel
theorem dL_law_390 : decode cL_law 390 = .ok (.iload_n 3, 1) := by decide +kernel
theorem dL_law_391 : decode cL_law 391 = .ok (.iconst 1, 1) := by decide +kernel
theorem dL_law_392 : decode cL_law 392 = .ok (.iadd, 1) := by decide +kernel
theorem dL_law_393 : decode cL_law 393 = .ok (.iaload, 1) := by decide +kernel
theorem dL_law_394 : decode cL_law 394 = .ok (.invokevirtual 56, 3) := by decide +kernel
theorem dL_law_397 : decode cL_law 397 = .ok (.if_icmp .eq 250, 3) := by decide +kernel
theorem dL_law_400 : decode cL_law 400 = .ok (.iconst 0, 1) := by decide +kernel
theorem dL_law_401 : decode cL_law 401 = .ok (.ireturn, 1) := by decide +kernel
theorem dL_law_402 : decode cL_law 402 = .ok (.aload_n 1, 1) := by decide +kernel
theorem dL_law_403 : decode cL_law 403 = .ok (.aload_n 0, 1) := by decide +kernel
theorem dL_law_404 : decode cL_law 404 = .ok (.iload_n 3, 1) := by decide +kernel
theorem dL_law_405 : decode cL_law 405 = .ok (.iconst 1, 1) := by decide +kernel
theorem dL_law_406 : decode cL_law 406 = .ok (.iadd, 1) := by decide +kernel
theorem dL_law_407 : decode cL_law 407 = .ok (.iaload, 1) := by decide +kernel
theorem dL_law_408 : decode cL_law 408 = .ok (.aload_n 0, 1) := by decide +kernel
theorem dL_law_409 : decode cL_law 409 = .ok (.iload_n 3, 1) := by decide +kernel
theorem dL_law_410 : decode cL_law 410 = .ok (.iconst 2, 1) := by decide +kernel
theorem dL_law_411 : decode cL_law 411 = .ok (.iadd, 1) := by decide +kernel
theorem dL_law_412 : decode cL_law 412 = .ok (.iaload, 1) := by decide +kernel
theorem dL_law_413 : decode cL_law 413 = .ok (.aload_n 0, 1) := by decide +kernel
theorem dL_law_414 : decode cL_law 414 = .ok (.iload_n 3, 1) := by decide +kernel
theorem dL_law_415 : decode cL_law 415 = .ok (.iconst 3, 1) := by decide +kernel
theorem dL_law_416 : decode cL_law 416 = .ok (.iadd, 1) := by decide +kernel
theorem dL_law_417 : decode cL_law 417 = .ok (.iaload, 1) := by decide +kernel
theorem dL_law_418 : decode cL_law 418 = .ok (.invokevirtual 57, 3) := by decide +kernel
theorem dL_law_421 : decode cL_law 421 = .ok (.aload_n 2, 1) := by decide +kernel
theorem dL_law_422 : decode cL_law 422 = .ok (.aload_n 0, 1) := by decide +kernel
theorem dL_law_423 : decode cL_law 423 = .ok (.iload_n 3, 1) := by decide +kernel
theorem dL_law_424 : decode cL_law 424 = .ok (.iconst 1, 1) := by decide +kernel
theorem dL_law_425 : decode cL_law 425 = .ok (.iadd, 1) := by decide +kernel
theorem dL_law_426 : decode cL_law 426 = .ok (.iaload, 1) := by decide +kernel
theorem dL_law_427 : decode cL_law 427 = .ok (.aload_n 0, 1) := by decide +kernel
theorem dL_law_428 : decode cL_law 428 = .ok (.iload_n 3, 1) := by decide +kernel
theorem dL_law_429 : decode cL_law 429 = .ok (.iconst 2, 1) := by decide +kernel
theorem dL_law_430 : decode cL_law 430 = .ok (.iadd, 1) := by decide +kernel
theorem dL_law_431 : decode cL_law 431 = .ok (.iaload, 1) := by decide +kernel
theorem dL_law_432 : decode cL_law 432 = .ok (.aload_n 0, 1) := by decide +kernel
theorem dL_law_433 : decode cL_law 433 = .ok (.iload_n 3, 1) := by decide +kernel
theorem dL_law_434 : decode cL_law 434 = .ok (.iconst 3, 1) := by decide +kernel
theorem dL_law_435 : decode cL_law 435 = .ok (.iadd, 1) := by decide +kernel
theorem dL_law_436 : decode cL_law 436 = .ok (.iaload, 1) := by decide +kernel
theorem dL_law_437 : decode cL_law 437 = .ok (.invokevirtual 61, 3) := by decide +kernel
theorem dL_law_440 : decode cL_law 440 = .ok (.lcmp, 1) := by decide +kernel
theorem dL_law_441 : decode cL_law 441 = .ok (.ifCond .eq 206, 3) := by decide +kernel
theorem dL_law_444 : decode cL_law 444 = .ok (.iconst 0, 1) := by decide +kernel
theorem dL_law_445 : decode cL_law 445 = .ok (.ireturn, 1) := by decide +kernel
theorem dL_law_446 : decode cL_law 446 = .ok (.aload_n 1, 1) := by decide +kernel
theorem dL_law_447 : decode cL_law 447 = .ok (.aload_n 0, 1) := by decide +kernel
theorem dL_law_448 : decode cL_law 448 = .ok (.iload_n 3, 1) := by decide +kernel
theorem dL_law_449 : decode cL_law 449 = .ok (.iconst 1, 1) := by decide +kernel
theorem dL_law_450 : decode cL_law 450 = .ok (.iadd, 1) := by decide +kernel
theorem dL_law_451 : decode cL_law 451 = .ok (.iaload, 1) := by decide +kernel
theorem dL_law_452 : decode cL_law 452 = .ok (.aload_n 0, 1) := by decide +kernel
theorem dL_law_453 : decode cL_law 453 = .ok (.iload_n 3, 1) := by decide +kernel
theorem dL_law_454 : decode cL_law 454 = .ok (.iconst 2, 1) := by decide +kernel
theorem dL_law_455 : decode cL_law 455 = .ok (.iadd, 1) := by decide +kernel
theorem dL_law_456 : decode cL_law 456 = .ok (.iaload, 1) := by decide +kernel
theorem dL_law_457 : decode cL_law 457 = .ok (.invokevirtual 62, 3) := by decide +kernel
theorem dL_law_460 : decode cL_law 460 = .ok (.aload_n 2, 1) := by decide +kernel
theorem dL_law_461 : decode cL_law 461 = .ok (.aload_n 0, 1) := by decide +kernel
theorem dL_law_462 : decode cL_law 462 = .ok (.iload_n 3, 1) := by decide +kernel
theorem dL_law_463 : decode cL_law 463 = .ok (.iconst 1, 1) := by decide +kernel
theorem dL_law_464 : decode cL_law 464 = .ok (.iadd, 1) := by decide +kernel
theorem dL_law_465 : decode cL_law 465 = .ok (.iaload, 1) := by decide +kernel
theorem dL_law_466 : decode cL_law 466 = .ok (.aload_n 0, 1) := by decide +kernel
theorem dL_law_467 : decode cL_law 467 = .ok (.iload_n 3, 1) := by decide +kernel
theorem dL_law_468 : decode cL_law 468 = .ok (.iconst 2, 1) := by decide +kernel
theorem dL_law_469 : decode cL_law 469 = .ok (.iadd, 1) := by decide +kernel
theorem dL_law_470 : decode cL_law 470 = .ok (.iaload, 1) := by decide +kernel
theorem dL_law_471 : decode cL_law 471 = .ok (.invokevirtual 65, 3) := by decide +kernel
theorem dL_law_474 : decode cL_law 474 = .ok (.if_icmp .eq 173, 3) := by decide +kernel
theorem dL_law_477 : decode cL_law 477 = .ok (.iconst 0, 1) := by decide +kernel
theorem dL_law_478 : decode cL_law 478 = .ok (.ireturn, 1) := by decide +kernel
theorem dL_law_479 : decode cL_law 479 = .ok (.aload_n 1, 1) := by decide +kernel
theorem dL_law_480 : decode cL_law 480 = .ok (.aload_n 0, 1) := by decide +kernel
theorem dL_law_481 : decode cL_law 481 = .ok (.iload_n 3, 1) := by decide +kernel
theorem dL_law_482 : decode cL_law 482 = .ok (.iconst 1, 1) := by decide +kernel
theorem dL_law_483 : decode cL_law 483 = .ok (.iadd, 1) := by decide +kernel
theorem dL_law_484 : decode cL_law 484 = .ok (.iaload, 1) := by decide +kernel
theorem dL_law_485 : decode cL_law 485 = .ok (.invokevirtual 66, 3) := by decide +kernel
theorem dL_law_488 : decode cL_law 488 = .ok (.aload_n 2, 1) := by decide +kernel
theorem dL_law_489 : decode cL_law 489 = .ok (.aload_n 0, 1) := by decide +kernel
theorem dL_law_490 : decode cL_law 490 = .ok (.iload_n 3, 1) := by decide +kernel
theorem dL_law_491 : decode cL_law 491 = .ok (.iconst 1, 1) := by decide +kernel
theorem dL_law_492 : decode cL_law 492 = .ok (.iadd, 1) := by decide +kernel
theorem dL_law_493 : decode cL_law 493 = .ok (.iaload, 1) := by decide +kernel
theorem dL_law_494 : decode cL_law 494 = .ok (.invokevirtual 69, 3) := by decide +kernel
theorem dL_law_497 : decode cL_law 497 = .ok (.if_icmp .eq 150, 3) := by decide +kernel
theorem dL_law_500 : decode cL_law 500 = .ok (.iconst 0, 1) := by decide +kernel
theorem dL_law_501 : decode cL_law 501 = .ok (.ireturn, 1) := by decide +kernel
theorem dL_law_502 : decode cL_law 502 = .ok (.aload_n 1, 1) := by decide +kernel
theorem dL_law_503 : decode cL_law 503 = .ok (.invokevirtual 70, 3) := by decide +kernel
theorem dL_law_506 : decode cL_law 506 = .ok (.aload_n 2, 1) := by decide +kernel
theorem dL_law_507 : decode cL_law 507 = .ok (.invokevirtual 73, 3) := by decide +kernel
theorem dL_law_510 : decode cL_law 510 = .ok (.if_icmp .eq 137, 3) := by decide +kernel
theorem dL_law_513 : decode cL_law 513 = .ok (.iconst 0, 1) := by decide +kernel
theorem dL_law_514 : decode cL_law 514 = .ok (.ireturn, 1) := by decide +kernel
theorem dL_law_515 : decode cL_law 515 = .ok (.aload_n 1, 1) := by decide +kernel
theorem dL_law_516 : decode cL_law 516 = .ok (.invokevirtual 74, 3) := by decide +kernel
theorem dL_law_519 : decode cL_law 519 = .ok (.aload_n 2, 1) := by decide +kernel
theorem dL_law_520 : decode cL_law 520 = .ok (.invokevirtual 77, 3) := by decide +kernel
theorem dL_law_523 : decode cL_law 523 = .ok (.if_icmp .eq 124, 3) := by decide +kernel
theorem dL_law_526 : decode cL_law 526 = .ok (.iconst 0, 1) := by decide +kernel
theorem dL_law_527 : decode cL_law 527 = .ok (.ireturn, 1) := by decide +kernel
theorem dL_law_528 : decode cL_law 528 = .ok (.aload_n 1, 1) := by decide +kernel
theorem dL_law_529 : decode cL_law 529 = .ok (.invokevirtual 78, 3) := by decide +kernel
theorem dL_law_532 : decode cL_law 532 = .ok (.aload_n 2, 1) := by decide +kernel
theorem dL_law_533 : decode cL_law 533 = .ok (.invokevirtual 81, 3) := by decide +kernel
theorem dL_law_536 : decode cL_law 536 = .ok (.if_icmp .eq 111, 3) := by decide +kernel
theorem dL_law_539 : decode cL_law 539 = .ok (.iconst 0, 1) := by decide +kernel
theorem dL_law_540 : decode cL_law 540 = .ok (.ireturn, 1) := by decide +kernel
theorem dL_law_541 : decode cL_law 541 = .ok (.aload_n 1, 1) := by decide +kernel
theorem dL_law_542 : decode cL_law 542 = .ok (.aload_n 0, 1) := by decide +kernel
theorem dL_law_543 : decode cL_law 543 = .ok (.iload_n 3, 1) := by decide +kernel
theorem dL_law_544 : decode cL_law 544 = .ok (.iconst 1, 1) := by decide +kernel
theorem dL_law_545 : decode cL_law 545 = .ok (.iadd, 1) := by decide +kernel
theorem dL_law_546 : decode cL_law 546 = .ok (.iaload, 1) := by decide +kernel
theorem dL_law_547 : decode cL_law 547 = .ok (.aload_n 0, 1) := by decide +kernel
theorem dL_law_548 : decode cL_law 548 = .ok (.iload_n 3, 1) := by decide +kernel
theorem dL_law_549 : decode cL_law 549 = .ok (.iconst 2, 1) := by decide +kernel
theorem dL_law_550 : decode cL_law 550 = .ok (.iadd, 1) := by decide +kernel
theorem dL_law_551 : decode cL_law 551 = .ok (.iaload, 1) := by decide +kernel
theorem dL_law_552 : decode cL_law 552 = .ok (.aload_n 0, 1) := by decide +kernel
theorem dL_law_553 : decode cL_law 553 = .ok (.iload_n 3, 1) := by decide +kernel
theorem dL_law_554 : decode cL_law 554 = .ok (.iconst 3, 1) := by decide +kernel
theorem dL_law_555 : decode cL_law 555 = .ok (.iadd, 1) := by decide +kernel
theorem dL_law_556 : decode cL_law 556 = .ok (.iaload, 1) := by decide +kernel
theorem dL_law_557 : decode cL_law 557 = .ok (.invokevirtual 82, 3) := by decide +kernel
theorem dL_law_560 : decode cL_law 560 = .ok (.aload_n 2, 1) := by decide +kernel
theorem dL_law_561 : decode cL_law 561 = .ok (.aload_n 0, 1) := by decide +kernel
theorem dL_law_562 : decode cL_law 562 = .ok (.iload_n 3, 1) := by decide +kernel
theorem dL_law_563 : decode cL_law 563 = .ok (.iconst 1, 1) := by decide +kernel
theorem dL_law_564 : decode cL_law 564 = .ok (.iadd, 1) := by decide +kernel
theorem dL_law_565 : decode cL_law 565 = .ok (.iaload, 1) := by decide +kernel
theorem dL_law_566 : decode cL_law 566 = .ok (.aload_n 0, 1) := by decide +kernel
theorem dL_law_567 : decode cL_law 567 = .ok (.iload_n 3, 1) := by decide +kernel
theorem dL_law_568 : decode cL_law 568 = .ok (.iconst 2, 1) := by decide +kernel
theorem dL_law_569 : decode cL_law 569 = .ok (.iadd, 1) := by decide +kernel
theorem dL_law_570 : decode cL_law 570 = .ok (.iaload, 1) := by decide +kernel
theorem dL_law_571 : decode cL_law 571 = .ok (.aload_n 0, 1) := by decide +kernel
theorem dL_law_572 : decode cL_law 572 = .ok (.iload_n 3, 1) := by decide +kernel
theorem dL_law_573 : decode cL_law 573 = .ok (.iconst 3, 1) := by decide +kernel
theorem dL_law_574 : decode cL_law 574 = .ok (.iadd, 1) := by decide +kernel
theorem dL_law_575 : decode cL_law 575 = .ok (.iaload, 1) := by decide +kernel
theorem dL_law_576 : decode cL_law 576 = .ok (.invokevirtual 86, 3) := by decide +kernel
theorem dL_law_579 : decode cL_law 579 = .ok (.if_icmp .eq 68, 3) := by decide +kernel
theorem dL_law_582 : decode cL_law 582 = .ok (.iconst 0, 1) := by decide +kernel
theorem dL_law_583 : decode cL_law 583 = .ok (.ireturn, 1) := by decide +kernel
theorem dL_law_584 : decode cL_law 584 = .ok (.aload_n 1, 1) := by decide +kernel
theorem dL_law_585 : decode cL_law 585 = .ok (.invokevirtual 87, 3) := by decide +kernel
theorem dL_law_588 : decode cL_law 588 = .ok (.aload_n 2, 1) := by decide +kernel
theorem dL_law_589 : decode cL_law 589 = .ok (.invokevirtual 90, 3) := by decide +kernel
theorem dL_law_592 : decode cL_law 592 = .ok (.if_icmp .eq 55, 3) := by decide +kernel
theorem dL_law_595 : decode cL_law 595 = .ok (.iconst 0, 1) := by decide +kernel
theorem dL_law_596 : decode cL_law 596 = .ok (.ireturn, 1) := by decide +kernel
theorem dL_law_597 : decode cL_law 597 = .ok (.aload_n 1, 1) := by decide +kernel
theorem dL_law_598 : decode cL_law 598 = .ok (.invokevirtual 91, 3) := by decide +kernel
theorem dL_law_601 : decode cL_law 601 = .ok (.aload_n 2, 1) := by decide +kernel
theorem dL_law_602 : decode cL_law 602 = .ok (.invokevirtual 94, 3) := by decide +kernel
theorem dL_law_605 : decode cL_law 605 = .ok (.if_icmp .eq 42, 3) := by decide +kernel
theorem dL_law_608 : decode cL_law 608 = .ok (.iconst 0, 1) := by decide +kernel
theorem dL_law_609 : decode cL_law 609 = .ok (.ireturn, 1) := by decide +kernel
theorem dL_law_610 : decode cL_law 610 = .ok (.aload_n 1, 1) := by decide +kernel
theorem dL_law_611 : decode cL_law 611 = .ok (.aload_n 0, 1) := by decide +kernel
theorem dL_law_612 : decode cL_law 612 = .ok (.iload_n 3, 1) := by decide +kernel
theorem dL_law_613 : decode cL_law 613 = .ok (.iconst 1, 1) := by decide +kernel
theorem dL_law_614 : decode cL_law 614 = .ok (.iadd, 1) := by decide +kernel
theorem dL_law_615 : decode cL_law 615 = .ok (.iaload, 1) := by decide +kernel
theorem dL_law_616 : decode cL_law 616 = .ok (.invokevirtual 95, 3) := by decide +kernel
theorem dL_law_619 : decode cL_law 619 = .ok (.aload_n 2, 1) := by decide +kernel
theorem dL_law_620 : decode cL_law 620 = .ok (.aload_n 0, 1) := by decide +kernel
theorem dL_law_621 : decode cL_law 621 = .ok (.iload_n 3, 1) := by decide +kernel
theorem dL_law_622 : decode cL_law 622 = .ok (.iconst 1, 1) := by decide +kernel
theorem dL_law_623 : decode cL_law 623 = .ok (.iadd, 1) := by decide +kernel
theorem dL_law_624 : decode cL_law 624 = .ok (.iaload, 1) := by decide +kernel
theorem dL_law_625 : decode cL_law 625 = .ok (.invokevirtual 98, 3) := by decide +kernel
theorem dL_law_628 : decode cL_law 628 = .ok (.if_icmp .eq 19, 3) := by decide +kernel
theorem dL_law_631 : decode cL_law 631 = .ok (.iconst 0, 1) := by decide +kernel
theorem dL_law_632 : decode cL_law 632 = .ok (.ireturn, 1) := by decide +kernel
theorem dL_law_633 : decode cL_law 633 = .ok (.aload_n 1, 1) := by decide +kernel
theorem dL_law_634 : decode cL_law 634 = .ok (.invokevirtual 99, 3) := by decide +kernel
theorem dL_law_637 : decode cL_law 637 = .ok (.aload_n 2, 1) := by decide +kernel
theorem dL_law_638 : decode cL_law 638 = .ok (.invokevirtual 103, 3) := by decide +kernel
theorem dL_law_641 : decode cL_law 641 = .ok (.lcmp, 1) := by decide +kernel
theorem dL_law_642 : decode cL_law 642 = .ok (.ifCond .eq 5, 3) := by decide +kernel
theorem dL_law_645 : decode cL_law 645 = .ok (.iconst 0, 1) := by decide +kernel
theorem dL_law_646 : decode cL_law 646 = .ok (.ireturn, 1) := by decide +kernel
theorem dL_law_647 : decode cL_law 647 = .ok (.iinc 3 5, 3) := by decide +kernel
theorem dL_law_650 : decode cL_law 650 = .ok (.goto (-632), 3) := by decide +kernel
theorem dL_law_653 : decode cL_law 653 = .ok (.iconst 1, 1) := by decide +kernel
theorem dL_law_654 : decode cL_law 654 = .ok (.ireturn, 1) := by decide +kernel
abbrev vwCl : List vw_C := [(RX0, TX0, 3), (RX1, TX1, 3), (RX2, TX2, 1), (RX3, TX3, 3), (RX4, TX4, 3), (RX5, TX5, 2), (RX6, TX6, 2), (RX7, TX7, 6), (RX8, TX8, 6), (RX9, TX9, 3), (RX10, TX10, 10), (RX11, TX11, 28)]
end
section
/-! what a launch gives: classes and slots, the array classes (int, long, Dice, Thing), the places of the String constants and of their bytes -/
abbrev kd_G : Type := va_G × (Nat → ClassId) × (Nat → Nat) × (Nat → Nat)
abbrev kd_ty (g : kd_G) : List (ClassId × FieldType) := [(g.2.1 0, .int), (g.2.1 1, .long), (g.2.1 2, .object "KingdomAtDice$Dice"), (g.2.1 3, .object "KingdomAtDice$Thing")]
def kd_isN (w : Cond) : Bool := match w with
  | .fieldLinkNest _ _ _ _ _ _ => true
  | .methodLinkNest _ _ _ _ => true
  | .castable _ _ => true
  | _ => false
theorem kd_isN_warm {w : Cond} (hw : kd_isN w = true) {s U : State} (hW : s.WarmedH U.vm) (h : va_Nw w s) : va_Nw w U := by
  cases w <;> first | exact va_Nw.warmF hW h | exact va_Nw.warmM hW h | exact va_Nw.warmC hW h | (simp [kd_isN] at hw)
theorem kd_isN_tab {w : Cond} (hw : kd_isN w = true) : w.onTables = true := by
  cases w <;> first | rfl | (simp [kd_isN] at hw)
def kd_nw : List Cond := [.methodLinkNest "KingdomAtDice" 9 ⟨"KingdomAtDice$Page", "<init>", "()V"⟩ "KingdomAtDice", .methodLinkNest "KingdomAtDice" 41 ⟨"KingdomAtDice$Odds", "<init>", "()V"⟩ "KingdomAtDice", .methodLinkNest "KingdomAtDice" 48 ⟨"KingdomAtDice$Draws", "<init>", "()V"⟩ "KingdomAtDice", .methodLinkNest "KingdomAtDice" 55 ⟨"KingdomAtDice$Standing", "<init>", "()V"⟩ "KingdomAtDice", .methodLinkNest "KingdomAtDice$Standing" 17 ⟨"KingdomAtDice$Thing", "<init>", "()V"⟩ "KingdomAtDice", .methodLinkNest "KingdomAtDice" 78 ⟨"KingdomAtDice$Page", "isFull", "()Z"⟩ "KingdomAtDice", .methodLinkNest "KingdomAtDice" 82 ⟨"KingdomAtDice$Page", "push", "(I)I"⟩ "KingdomAtDice", .methodLinkNest "KingdomAtDice" 86 ⟨"KingdomAtDice$Page", "clear", "()I"⟩ "KingdomAtDice", .methodLinkNest "KingdomAtDice" 90 ⟨"KingdomAtDice$Page", "faultPlace", "()I"⟩ "KingdomAtDice", .methodLinkNest "KingdomAtDice$Page" 23 ⟨"KingdomAtDice", "isBelow", "(II)Z"⟩ "KingdomAtDice", .methodLinkNest "KingdomAtDice" 93 ⟨"KingdomAtDice$Page", "isHall", "()Z"⟩ "KingdomAtDice", .methodLinkNest "KingdomAtDice" 96 ⟨"KingdomAtDice$Standing", "begin", "(LKingdomAtDice$Page;)V"⟩ "KingdomAtDice", .methodLinkNest "KingdomAtDice$Standing" 35 ⟨"KingdomAtDice$Page", "hallThings", "()I"⟩ "KingdomAtDice", .methodLinkNest "KingdomAtDice$Standing" 47 ⟨"KingdomAtDice$Page", "hallSort", "(I)I"⟩ "KingdomAtDice", .methodLinkNest "KingdomAtDice$Standing" 51 ⟨"KingdomAtDice$Page", "hallWorth", "(I)I"⟩ "KingdomAtDice", .methodLinkNest "KingdomAtDice$Standing" 54 ⟨"KingdomAtDice$Thing", "begin", "(II)V"⟩ "KingdomAtDice", .methodLinkNest "KingdomAtDice" 100 ⟨"KingdomAtDice$Page", "kingKindCode", "()I"⟩ "KingdomAtDice", .methodLinkNest "KingdomAtDice" 107 ⟨"KingdomAtDice$Page", "cousinKindCode", "()I"⟩ "KingdomAtDice", .methodLinkNest "KingdomAtDice" 110 ⟨"KingdomAtDice$Odds", "reckon", "(LKingdomAtDice$Dice;LKingdomAtDice$Dice;)V"⟩ "KingdomAtDice", .methodLinkNest "KingdomAtDice$Twins" 15 ⟨"KingdomAtDice", "isSum", "(I)Z"⟩ "KingdomAtDice", .methodLinkNest "KingdomAtDice$Dice" 26 ⟨"KingdomAtDice", "isSum", "(I)Z"⟩ "KingdomAtDice", .methodLinkNest "KingdomAtDice" 117 ⟨"KingdomAtDice$Standing", "has", "(I)Z"⟩ "KingdomAtDice", .methodLinkNest "KingdomAtDice$Standing" 62 ⟨"KingdomAtDice", "isBelow", "(II)Z"⟩ "KingdomAtDice", .methodLinkNest "KingdomAtDice" 129 ⟨"KingdomAtDice$Thing", "tell", "(I)I"⟩ "KingdomAtDice", .methodLinkNest "KingdomAtDice" 161 ⟨"KingdomAtDice$Standing", "hasHall", "()Z"⟩ "KingdomAtDice", .methodLinkNest "KingdomAtDice" 151 ⟨"KingdomAtDice$Standing", "mayStake", "(II)Z"⟩ "KingdomAtDice", .methodLinkNest "KingdomAtDice" 157 ⟨"KingdomAtDice$Standing", "settle", "(IIII)I"⟩ "KingdomAtDice", .methodLinkNest "KingdomAtDice$Standing" 84 ⟨"KingdomAtDice$Thing", "lose", "(IZ)V"⟩ "KingdomAtDice", .methodLinkNest "KingdomAtDice$Standing" 88 ⟨"KingdomAtDice$Thing", "comeBack", "()V"⟩ "KingdomAtDice", .methodLinkNest "KingdomAtDice" 164 ⟨"KingdomAtDice$Odds", "waysTo", "(I)I"⟩ "KingdomAtDice", .methodLinkNest "KingdomAtDice$Odds" 33 ⟨"KingdomAtDice", "isBelow", "(II)Z"⟩ "KingdomAtDice", .methodLinkNest "KingdomAtDice" 183 ⟨"KingdomAtDice$Standing", "stakesFor", "(I)I"⟩ "KingdomAtDice", .methodLinkNest "KingdomAtDice" 194 ⟨"KingdomAtDice$Standing", "kingsBy", "(I)I"⟩ "KingdomAtDice", .methodLinkNest "KingdomAtDice$Standing" 94 ⟨"KingdomAtDice$Thing", "isKingsBy", "(I)Z"⟩ "KingdomAtDice", .methodLinkNest "KingdomAtDice" 197 ⟨"KingdomAtDice$Standing", "worthOf", "(I)I"⟩ "KingdomAtDice", .methodLinkNest "KingdomAtDice" 203 ⟨"KingdomAtDice$Standing", "addSeen", "(I)I"⟩ "KingdomAtDice", .methodLinkNest "KingdomAtDice" 206 ⟨"KingdomAtDice$Standing", "clearSeen", "()I"⟩ "KingdomAtDice", .methodLinkNest "KingdomAtDice" 209 ⟨"KingdomAtDice$Standing", "waysSeenBy", "(LKingdomAtDice$Dice;)J"⟩ "KingdomAtDice", .methodLinkNest "KingdomAtDice" 219 ⟨"KingdomAtDice$Draws", "begin", "(I)V"⟩ "KingdomAtDice", .methodLinkNest "KingdomAtDice$Twins" 23 ⟨"KingdomAtDice$Draws", "next", "(I)I"⟩ "KingdomAtDice", .methodLinkNest "KingdomAtDice$Dice" 32 ⟨"KingdomAtDice$Draws", "next", "(I)I"⟩ "KingdomAtDice", .methodLinkNest "KingdomAtDice" 234 ⟨"KingdomAtDice$Draws", "seedNow", "()I"⟩ "KingdomAtDice", .methodLinkNest "KingdomAtDice" 237 ⟨"KingdomAtDice$Standing", "copy", "(LKingdomAtDice$Standing;)V"⟩ "KingdomAtDice", .methodLinkNest "KingdomAtDice$Standing" 58 ⟨"KingdomAtDice$Thing", "copy", "(LKingdomAtDice$Thing;)V"⟩ "KingdomAtDice", .methodLinkNest "KingdomAtDice" 241 ⟨"KingdomAtDice$Standing", "wrongMany", "()I"⟩ "KingdomAtDice", .methodLinkNest "KingdomAtDice$Standing" 97 ⟨"KingdomAtDice$Thing", "isWronglyLost", "()Z"⟩ "KingdomAtDice", .methodLinkNest "KingdomAtDice" 266 ⟨"KingdomAtDice$Page", "codeAt", "(I)I"⟩ "KingdomAtDice", .fieldLinkNest "KingdomAtDice" 244 "KingdomAtDice$Page" "length" "I" "KingdomAtDice", .fieldLinkNest "KingdomAtDice" 167 "KingdomAtDice$Odds" "total" "I" "KingdomAtDice", .fieldLinkNest "KingdomAtDice$Standing" 91 "KingdomAtDice$Thing" "sort" "I" "KingdomAtDice", .fieldLinkNest "KingdomAtDice$Standing" 74 "KingdomAtDice$Thing" "worth" "I" "KingdomAtDice", .fieldLinkNest "KingdomAtDice$Standing" 70 "KingdomAtDice$Thing" "isKings" "Z" "KingdomAtDice", .fieldLinkNest "KingdomAtDice" 178 "KingdomAtDice$Thing" "isKings" "Z" "KingdomAtDice", .fieldLinkNest "KingdomAtDice" 125 "KingdomAtDice$Standing" "things" "[LKingdomAtDice$Thing;" "KingdomAtDice", .fieldLinkNest "KingdomAtDice" 114 "KingdomAtDice$Standing" "thingMany" "I" "KingdomAtDice", .fieldLinkNest "KingdomAtDice" 216 "KingdomAtDice$Standing" "gold" "I" "KingdomAtDice", .fieldLinkNest "KingdomAtDice" 154 "KingdomAtDice$Standing" "throwMany" "I" "KingdomAtDice", .fieldLinkNest "KingdomAtDice" 200 "KingdomAtDice$Standing" "seenMany" "I" "KingdomAtDice", .castable "KingdomAtDice$Bone" "KingdomAtDice$Heavy", .castable "KingdomAtDice$Heavy" "KingdomAtDice$Dice", .castable "KingdomAtDice$Twins" "KingdomAtDice$Dice", .castable "KingdomAtDice$Light" "KingdomAtDice$Dice", .castable "KingdomAtDice$Bone" "KingdomAtDice$Dice"]
def kd_nc : List (String × String) := [("KingdomAtDice$Dice", "KingdomAtDice$Heavy"), ("KingdomAtDice$Dice", "KingdomAtDice$Twins"), ("KingdomAtDice$Dice", "KingdomAtDice$Light"), ("KingdomAtDice$Dice", "KingdomAtDice$Bone"), ("KingdomAtDice$Heavy", "KingdomAtDice$Twins"), ("KingdomAtDice$Heavy", "KingdomAtDice$Light"), ("KingdomAtDice$Heavy", "KingdomAtDice$Bone"), ("KingdomAtDice$Twins", "KingdomAtDice$Heavy"), ("KingdomAtDice$Twins", "KingdomAtDice$Light"), ("KingdomAtDice$Twins", "KingdomAtDice$Bone"), ("KingdomAtDice$Light", "KingdomAtDice$Heavy"), ("KingdomAtDice$Light", "KingdomAtDice$Twins"), ("KingdomAtDice$Light", "KingdomAtDice$Bone"), ("KingdomAtDice$Bone", "KingdomAtDice$Twins"), ("KingdomAtDice$Bone", "KingdomAtDice$Light")]
theorem kd_nw_ok : kd_nw.all kd_isN = true := by decide +kernel
theorem kd_nw_in : ∀ w ∈ kd_nw, w ∈ tables_1 := by decide +kernel
def kd_len : List Nat := [3, 5]
def kd_byt : List (List Int32) := [[106, 98, 115], [100, 104, 116, 108, 98]]
/-- what holds of the launch and of the String constants, outside of A -/
def kd_E (g : kd_G) (A : Nat → Prop) (U : State) : Prop :=
  (∀ w ∈ kd_nw, va_Nw w U) ∧ (va_AO "KingdomAtDice$Dice" U ∧ va_AO "KingdomAtDice$Thing" U) ∧ (∀ q ∈ kd_nc, va_Nc q.1 q.2 U) ∧
  vk_S 2 kd_len kd_byt g.2.2.1 g.2.2.2 A U U.heap ∧ va_Z "java/lang/String" "COMPACT_STRINGS" "Z" (.int 1) A U U.heap ∧
  (vk_R "KingdomAtDice$Page" 38 "jbs" (g.2.2.1 0) U ∧ vk_R "KingdomAtDice$Page" 45 "dhtlb" (g.2.2.1 1) U ∧ vk_R "KingdomAtDice" 290 "dhtlb" (g.2.2.1 1) U)
theorem kd_N {g : kd_G} {A : Nat → Prop} {U : State} (h : kd_E g A U) (i : Nat) {w : Cond} (hi : kd_nw[i]? = some w) : va_Nw w U := h.1 w (List.mem_of_getElem? hi)
theorem kd_Nb {g : kd_G} {A : Nat → Prop} {U : State} (h : kd_E g A U) (i : Nat) {w : Cond} (hi : kd_nw[i]? = some w) {args : Array Value} : w.before args U = true :=
  va_Nw.use (kd_isN_tab (List.all_eq_true.mp kd_nw_ok w (List.mem_of_getElem? hi))) (kd_N h i hi)
theorem kd_NC {g : kd_G} {A : Nat → Prop} {U : State} (h : kd_E g A U) (i : Nat) {q : String × String} (hi : kd_nc[i]? = some q) : va_Nc q.1 q.2 U := h.2.2.1 q (List.mem_of_getElem? hi)
theorem kd_E.call {g : kd_G} {A : Nat → Prop} {s U : State} {H : Heap} {locs : List Loc} {wc : va_W} (h : kd_E g A s) (hS : va_S A s.heap H locs) (hF : ∀ q, va_A wc H.size q → A q) (hU : U.heap = H) (hW : s.WarmedH U.vm) : kd_E g (va_A wc H.size) U := by
  refine ⟨fun w hw => kd_isN_warm (List.all_eq_true.mp kd_nw_ok w hw) hW (h.1 w hw), ⟨h.2.1.1.moved hW.alike, h.2.1.2.moved hW.alike⟩, fun q hq => (h.2.2.1 q hq).moved hW.alike, ?_, ?_, vk_R.warm hW h.2.2.2.2.2.1, vk_R.warm hW h.2.2.2.2.2.2.1, vk_R.warm hW h.2.2.2.2.2.2.2⟩
  · rw [hU]; exact ((h.2.2.2.1.kept hS.2.1).narrow hF).moved hW.alike
  · rw [hU]; exact ((h.2.2.2.2.1.kept hS.2.1).narrow hF).moved hW.alike
theorem kd_E.same {g : kd_G} {A : Nat → Prop} {s U : State} (h : kd_E g A s) (hh : U.heap = s.heap) (hv : U.vm = s.vm) : kd_E g A U := by
  have hal : s.vm.Alike U.vm := by rw [hv]; exact Vm.Alike.refl _
  refine ⟨fun w hw => va_Nw.same (kd_isN_tab (List.all_eq_true.mp kd_nw_ok w hw)) hv.symm (h.1 w hw), ⟨h.2.1.1.moved hal, h.2.1.2.moved hal⟩, fun q hq => (h.2.2.1 q hq).moved hal, ?_, ?_, vk_R.same hv h.2.2.2.2.2.1, vk_R.same hv h.2.2.2.2.2.2.1, vk_R.same hv h.2.2.2.2.2.2.2⟩
  · rw [hh]; exact h.2.2.2.1.moved hal
  · rw [hh]; exact h.2.2.2.2.1.moved hal
/-- a method's start and end -/
def kd_pre (g : kd_G) (WS : va_W) (sz : Nat) (U : State) : Prop := U.heap.size = sz ∧ va_P g.1 vwCl WS U.heap ∧ va_K g.1 vwCl (kd_ty g) U ∧ va_D (fun _ => True) WS ∧ kd_E g (va_A WS sz) U
def kd_post (g : kd_G) (A : Nat → Prop) (WS : va_W) (t : State) : Prop := va_P g.1 vwCl WS t.heap ∧ va_K g.1 vwCl (kd_ty g) t ∧ va_D A WS
theorem kd_blind {g : kd_G} {WS : va_W} {sz : Nat} {av : List Value} : FrameBlind (va_Pc av (kd_pre g WS sz)) := fun a U gf mk q => by
  obtain ⟨q0, q1, qP, qK, qD, qE⟩ := q
  exact ⟨q0, q1, qP, va_K.moved (u := U) (U := U.calling gf mk a) (Vm.Alike.refl U.vm) qK, qD, qE.same rfl rfl⟩
abbrev kd_MI (l : Launch) (y : MethodName) (ws : List Cond) (rm : Room) (av : List Value) (g : kd_G) (WS : va_W) (sz : Nat) {S : Type} (post : Int32 → S → Prop) (Wf : S → va_W) (mc ms : Nat) : Prop := Met l y ws rm (va_Pc av (kd_pre g WS sz)) (va_Qi post (fun u t => kd_post g (va_A WS sz) (Wf u) t) (va_A WS sz)) mc ms (va_A WS sz)
abbrev kd_ML (l : Launch) (y : MethodName) (ws : List Cond) (rm : Room) (av : List Value) (g : kd_G) (WS : va_W) (sz : Nat) {S : Type} (post : Int64 → S → Prop) (Wf : S → va_W) (mc ms : Nat) : Prop := Met l y ws rm (va_Pc av (kd_pre g WS sz)) (va_Ql post (fun u t => kd_post g (va_A WS sz) (Wf u) t) (va_A WS sz)) mc ms (va_A WS sz)
abbrev kd_MV (l : Launch) (y : MethodName) (ws : List Cond) (rm : Room) (av : List Value) (g : kd_G) (WS : va_W) (sz : Nat) {S : Type} (post : S → Prop) (Wf : S → va_W) (mc ms : Nat) : Prop := Met l y ws rm (va_Pc av (kd_pre g WS sz)) (va_Qv post (fun u t => kd_post g (va_A WS sz) (Wf u) t) (va_A WS sz)) mc ms (va_A WS sz)
abbrev kd_MR (l : Launch) (y : MethodName) (ws : List Cond) (rm : Room) (av : List Value) (g : kd_G) (WS : va_W) (sz : Nat) {S : Type} (post : S → Prop) (ad : S → Nat) (Wf : S → va_W) (mc ms : Nat) : Prop := Met l y ws rm (va_Pc av (kd_pre g WS sz)) (va_Qr post (fun u a t => a = ad u ∧ kd_post g (va_A WS sz) (Wf u) t) (va_A WS sz)) mc ms (va_A WS sz)
theorem kd_met {l : Launch} {y : MethodName} {ws ws' : List Cond} {rm : Room} {av : List Value} {g : kd_G} {WS : va_W} {sz mc ms maxL : Nat} {cc : ByteArray} {ret : Option FieldType} {own : String} (Qf : (Nat → Prop) → Array Value → State → Outcome → State → Prop)
    (hy : plainName y.cls = true) (hw : ws = Cond.code y cc maxL ret :: ws') (ho : y.cls = own) (hn : (lg_sl av).length ≤ maxL)
    (K : ∀ (p : Program) (e : Env) (s : State) (m : MethodId) (below : List Frame) (meth : Method) (c : Code) (A : Nat → Prop) (ls : Array Slot), p.tables.exec = Jvm.exec → c.code = cc → meth.sig.returnType = ret → c.maxLocals = maxL → (∀ w ∈ ws, w.before av.toArray s = true) → s.vm.findClass own = some m.cls → meth.locks = false → meth.name = y.name → (∀ q : Nat, s.heap.size ≤ q → A q) → va_P g.1 vwCl WS s.heap → va_K g.1 vwCl (kd_ty g) s → va_D A WS → va_S A s.heap s.heap [] → kd_E g A s → lv_has ls maxL (lv_args 0 av) →
      W p l e rm s m av.toArray below meth c s.heap [] 0 0 (MQ below (Qf A) av.toArray s mc ms A) (F0 m 0 ls [])) :
    Met l y ws rm (va_Pc av (kd_pre g WS sz)) (Qf (va_A WS sz)) mc ms (va_A WS sz) := by
  refine Met.ofW (cc := cc) (maxL := maxL) (ret := ret) hy hw ?_
  intro p e s m args below meth c s₁ B hml hv
  obtain ⟨rfl, hsz, hP, hK, hD0, hE⟩ := hv
  subst hsz
  have hl := lv_entry av (n := maxL) hn
  rw [lg_entry_eq]
  exact K p e s m below meth c (va_A WS s.heap.size) _ B.exec B.bytes B.returns hml (atoms_spec (ws := ws) B.pre) (by rw [← ho]; exact findClass_of_methodNamed B.named) B.notSynchronized (name_of_methodNamed B.named B.method).1 (fun q h => Or.inr h) hP hK hD0.self va_S.rf hE hl
section KDB
variable {p : Program} {l : Launch} {e : Env} {R : Room} {s : State} {m : MethodId} {args : Array Value} {below : List Frame} {meth : Method} {c : Code} {H : Heap} {locs : List Loc} {cells slots : Nat} {Q : State → Prop} {cc : ByteArray} {pc : Nat} {ls : Array Slot} {rest st0 : List Value} {A : Nat → Prop} {g : kd_G} {ws wc : va_W} {S : Type} {Wf : S → va_W} {mc ms : Nat}
theorem kd_iret {post : Int32 → S → Prop} {v : Int32} (hx : p.tables.exec = Jvm.exec) (hb : c.code = cc) (hr : meth.sig.returnType = some .int) (hlocks : meth.locks = false) (hK : va_K g.1 vwCl (kd_ty g) s) (hS : va_S A s.heap H locs) (hd : decode cc pc = .ok (.ireturn, 1)) (u : S) (hw : post v u) (hP : va_P g.1 vwCl (Wf u) H) (hD : va_D A (Wf u)) : W p l e R s m args below meth c H locs cells slots (MQ below (va_Qi post (fun u t => kd_post g A (Wf u) t) A) args s cells slots A) (F0 m pc ls [.int v]) :=
  W.iret (v := v) hx hb hr (fun t ht hW => ⟨⟨v, u, rfl, hw, by rw [ht]; exact hP, va_K.moved hW.alike hK, hD⟩, hS.F ht⟩) hS.2.2 hd hlocks
theorem kd_zret {post : Int32 → S → Prop} {v : Int32} (hx : p.tables.exec = Jvm.exec) (hb : c.code = cc) (hr : meth.sig.returnType = some .boolean) (hlocks : meth.locks = false) (hK : va_K g.1 vwCl (kd_ty g) s) (hS : va_S A s.heap H locs) (hd : decode cc pc = .ok (.ireturn, 1)) (hv : v = 0 ∨ v = 1) (u : S) (hw : post v u) (hP : va_P g.1 vwCl (Wf u) H) (hD : va_D A (Wf u)) : W p l e R s m args below meth c H locs cells slots (MQ below (va_Qi post (fun u t => kd_post g A (Wf u) t) A) args s cells slots A) (F0 m pc ls [.int v]) :=
  W.zret (v := v) hx hb hr (by rcases hv with rfl | rfl <;> rfl) (fun t ht hW => ⟨⟨v, u, rfl, hw, by rw [ht]; exact hP, va_K.moved hW.alike hK, hD⟩, hS.F ht⟩) hS.2.2 hd hlocks
theorem kd_lret {post : Int64 → S → Prop} {v : Int64} (hx : p.tables.exec = Jvm.exec) (hb : c.code = cc) (hr : meth.sig.returnType = some .long) (hlocks : meth.locks = false) (hK : va_K g.1 vwCl (kd_ty g) s) (hS : va_S A s.heap H locs) (hd : decode cc pc = .ok (.lreturn, 1)) (u : S) (hw : post v u) (hP : va_P g.1 vwCl (Wf u) H) (hD : va_D A (Wf u)) : W p l e R s m args below meth c H locs cells slots (MQ below (va_Ql post (fun u t => kd_post g A (Wf u) t) A) args s cells slots A) (F0 m pc ls [.long v]) :=
  W.lret (v := v) hx hb hr (fun t ht hW => ⟨⟨v, u, rfl, hw, by rw [ht]; exact hP, va_K.moved hW.alike hK, hD⟩, hS.F ht⟩) hS.2.2 hd hlocks
theorem kd_vret {post : S → Prop} (hx : p.tables.exec = Jvm.exec) (hb : c.code = cc) (hr : meth.sig.returnType = none) (hlocks : meth.locks = false) (hK : va_K g.1 vwCl (kd_ty g) s) (hS : va_S A s.heap H locs) (hd : decode cc pc = .ok (.return_, 1)) (u : S) (hw : post u) (hP : va_P g.1 vwCl (Wf u) H) (hD : va_D A (Wf u)) : W p l e R s m args below meth c H locs cells slots (MQ below (va_Qv post (fun u t => kd_post g A (Wf u) t) A) args s cells slots A) (F0 m pc ls []) :=
  W.vret hx hb hr (fun t ht hW => ⟨⟨u, rfl, hw, by rw [ht]; exact hP, va_K.moved hW.alike hK, hD⟩, hS.F ht⟩) hS.2.2 hd hlocks
theorem kd_aret {post : S → Prop} {ad : S → Nat} {n : String} (hx : p.tables.exec = Jvm.exec) (hb : c.code = cc) (hr : meth.sig.returnType = some (.object n)) (hlocks : meth.locks = false) (hK : va_K g.1 vwCl (kd_ty g) s) (hS : va_S A s.heap H locs) (hd : decode cc pc = .ok (.areturn, 1)) (u : S) {a : Nat} (ha : a = ad u) (hw : post u) (hP : va_P g.1 vwCl (Wf u) H) (hD : va_D A (Wf u)) : W p l e R s m args below meth c H locs cells slots (MQ below (va_Qr post (fun u a t => a = ad u ∧ kd_post g A (Wf u) t) A) args s cells slots A) (F0 m pc ls [.ref a]) :=
  W.aret (v := .ref a) hx hb hr (Or.inl ⟨n, rfl⟩) (Or.inr ⟨a, rfl⟩) (fun t ht hW => ⟨⟨u, a, rfl, hw, ha, by rw [ht]; exact hP, va_K.moved hW.alike hK, hD⟩, hS.F ht⟩) hS.2.2 hd hlocks
/-- a callee's cells out of the caller's -/
theorem kd_fm {isC : List Nat} (hC : isC.map (fun i => ws[i]?) = wc.map some) : isC.filterMap (fun i => ws[i]?) = wc := by
  have h : ∀ (l : List Nat) (w : va_W), l.map (fun i => ws[i]?) = w.map some → l.filterMap (fun i => ws[i]?) = w := by
    intro l
    induction l with
    | nil => intro w h; cases w with
      | nil => rfl
      | cons a w => simp at h
    | cons i l ih => intro w h; cases w with
      | nil => simp at h
      | cons a w =>
        simp only [List.map_cons, List.cons.injEq] at h
        rw [List.filterMap_cons, h.1, ih w h.2]
  exact h isC wc hC
theorem kd_preS {av : List Value} (hP : va_P g.1 vwCl ws H) (hD : va_D A ws) (hS : va_S A s.heap H locs) (hA : ∀ q : Nat, s.heap.size ≤ q → A q) (hK : va_K g.1 vwCl (kd_ty g) s) (hE : kd_E g A s) (isC : List Nat) (hC : isC.map (fun i => ws[i]?) = wc.map some) (hn : va_nd isC = true) : PreS s H (va_Pc av (kd_pre g wc H.size)) av :=
  ⟨kd_blind, fun U hU hW => ⟨rfl, by rw [hU], by rw [hU]; exact hP.sub isC (kd_fm hC), va_K.moved hW.alike hK, (hD.sub isC hn hC).weaken (fun _ _ _ _ => trivial), hE.call hS (va_free hD hS hA isC hC) hU hW⟩⟩
theorem kd_preV {As : List Value} {b : Nat} {C : String} (hrec : ∃ cell : Cell, H[b]? = some cell ∧ cell.vm.isStatics = false ∧ s.vm.findClass C = some cell.cls) (hP : va_P g.1 vwCl ws H) (hD : va_D A ws) (hS : va_S A s.heap H locs) (hA : ∀ q : Nat, s.heap.size ≤ q → A q) (hK : va_K g.1 vwCl (kd_ty g) s) (hE : kd_E g A s) (isC : List Nat) (hC : isC.map (fun i => ws[i]?) = wc.map some) (hn : va_nd isC = true) : PreV s H C b (va_Pc (.ref b :: As) (kd_pre g wc H.size)) As :=
  ⟨kd_blind, hrec, (kd_preS (av := .ref b :: As) hP hD hS hA hK hE isC hC hn).2⟩
/-- cells put into their places -/
def kd_repl : va_W → List Nat → va_W → va_W
  | ws, i :: is, c :: cs => kd_repl (ws.set i c) is cs
  | ws, _, _ => ws
theorem kd_repl_at : ∀ (is : List Nat) (cs ws : va_W) (k : Nat) (q : Nat × va_E), va_nd is = true → is.length = cs.length → (kd_repl ws is cs)[k]? = some q → (∃ j, is[j]? = some k ∧ cs[j]? = some q) ∨ (k ∉ is ∧ ws[k]? = some q)
  | [], [], ws, k, q, _, _, h => Or.inr ⟨List.not_mem_nil, by simpa [kd_repl] using h⟩
  | [], c :: cs, ws, k, q, _, hl, _ => by simp at hl
  | i :: is, [], ws, k, q, _, hl, _ => by simp at hl
  | i :: is, c :: cs, ws, k, q, hn, hl, h => by
    simp only [va_nd, Bool.and_eq_true, decide_eq_true_eq] at hn
    rcases kd_repl_at is cs (ws.set i c) k q hn.2 (by simpa using hl) h with ⟨j, h1, h2⟩ | ⟨h1, h2⟩
    · exact Or.inl ⟨j + 1, by simpa using h1, by simpa using h2⟩
    · by_cases hk : k = i
      · subst hk
        rw [List.getElem?_set] at h2
        simp only [if_true] at h2
        split at h2
        · exact Or.inl ⟨0, rfl, by simpa using h2⟩
        · cases h2
      · refine Or.inr ⟨by simp [hk, h1], ?_⟩
        rw [List.getElem?_set] at h2
        simpa [Ne.symm hk] using h2
theorem kd_repl_ad : ∀ (is : List Nat) (cs ws : va_W), is.map (fun i => (ws[i]?).map (·.1)) = cs.map (fun c => some c.1) → va_nd is = true → (kd_repl ws is cs).map (·.1) = ws.map (·.1)
  | [], _, ws, _, _ => by simp [kd_repl]
  | i :: is, [], ws, _, _ => by simp [kd_repl]
  | i :: is, c :: cs, ws, h, hn => by
    simp only [va_nd, Bool.and_eq_true, decide_eq_true_eq] at hn
    simp only [List.map_cons, List.cons.injEq] at h
    have hs : (ws.set i c).map (·.1) = ws.map (·.1) := by
      rw [List.map_set]
      apply List.ext_getElem?
      intro n
      rw [List.getElem?_set]
      by_cases hi : i = n
      · subst hi
        simp only [if_true, List.length_map, List.getElem?_map]
        split
        · rw [h.1]
        · rename_i hx; rw [List.getElem?_eq_none (by omega)]; rfl
      · simp [hi]
    rw [kd_repl, kd_repl_ad is cs (ws.set i c) ?_ hn.2, hs]
    rw [← h.2]
    apply List.map_congr_left
    intro j hj
    rw [List.getElem?_set]
    have hij : i ≠ j := fun e => hn.1 (e ▸ hj)
    simp [hij]
theorem kd_D_ad {ws' : va_W} (hD : va_D A ws) (h : ws'.map (·.1) = ws.map (·.1)) : va_D A ws' := by
  have hg : ∀ (k : Nat) (q : Nat × va_E), ws'[k]? = some q → ∃ q', ws[k]? = some q' ∧ q'.1 = q.1 := by
    intro k q hk
    have h1 : (ws'.map (·.1))[k]? = some q.1 := by rw [List.getElem?_map, hk]; rfl
    rw [h, List.getElem?_map] at h1
    cases hq : ws[k]? with
    | none => rw [hq] at h1; cases h1
    | some q' => rw [hq] at h1; exact ⟨q', rfl, by simpa using h1⟩
  refine ⟨fun i j p q hi hj e => ?_, fun k q hk => ?_⟩
  · obtain ⟨p', h1, e1⟩ := hg i p hi
    obtain ⟨q', h2, e2⟩ := hg j q hj
    exact hD.1 i j p' q' h1 h2 (by rw [e1, e2, e])
  · obtain ⟨q', h1, e1⟩ := hg k q hk
    rw [← e1]
    exact hD.2 k q' h1
/-- behind a call: the callee's cells in their old places -/
theorem kd_back {H1 : Heap} {isC : List Nat} {w1 : va_W} (hP : va_P g.1 vwCl ws H) (hD : va_D A ws) (hC : isC.map (fun i => ws[i]?) = wc.map some) (hn : va_nd isC = true) (had : w1.map (·.1) = wc.map (·.1)) (hk : ∀ q : Nat, q < H.size → ¬ va_A wc H.size q → H1[q]? = H[q]?) (hP1 : va_P g.1 vwCl w1 H1) : va_P g.1 vwCl (kd_repl ws isC w1) H1 ∧ va_D A (kd_repl ws isC w1) := by
  have hlen : isC.length = w1.length := by
    have h1 := congrArg List.length hC
    have h2 := congrArg List.length had
    simp only [List.length_map] at h1 h2
    omega
  constructor
  · intro k q hq
    rcases kd_repl_at isC w1 ws k q hn hlen hq with ⟨j, h1, h2⟩ | ⟨h1, h2⟩
    · exact hP1 j q h2
    · refine (hP k q h2).kept (hk q.1 (hP k q h2).lt ?_)
      rintro (⟨j, ee, hj⟩ | hge)
      · obtain ⟨i, hi1, hi2⟩ := va_in_of isC hC hj
        have := hD.1 k i q (q.1, ee) h2 hi2 rfl
        subst this
        exact h1 (List.mem_of_getElem? hi1)
      · exact absurd (hP k q h2).lt (by omega)
  · refine kd_D_ad hD (kd_repl_ad isC w1 ws ?_ hn)
    have h1 : isC.map (fun i => (ws[i]?).map (·.1)) = (isC.map (fun i => ws[i]?)).map (Option.map (·.1)) := by simp
    have h2 : w1.map (fun c => some c.1) = (w1.map (·.1)).map some := by simp
    rw [h1, hC, h2, had]
    simp
theorem kd_keep {H1 : Heap} {isC : List Nat} (hP : va_P g.1 vwCl ws H) (hD : va_D A ws) (hC : isC.map (fun i => ws[i]?) = wc.map some) (hk : ∀ q : Nat, q < H.size → ¬ va_A wc H.size q → H1[q]? = H[q]?) (hP1 : va_P g.1 vwCl wc H1) : va_P g.1 vwCl ws H1 := by
  intro k q hq
  by_cases h : ∃ (j : Nat) (ee : va_E), wc[j]? = some (q.1, ee)
  · obtain ⟨j, ee, hj⟩ := h
    obtain ⟨i, hi1, hi2⟩ := va_in_of isC hC hj
    have hki := hD.1 k i q (q.1, ee) hq hi2 rfl
    subst hki
    rw [hq] at hi2
    cases hi2
    exact hP1 j _ hj
  · refine (hP k q hq).kept (hk q.1 (hP k q hq).lt ?_)
    rintro (hx | hge)
    · exact h hx
    · exact absurd (hP k q hq).lt (by omega)
/-! calls: K the callee writes nothing; M it writes its cells -/
theorem kd_callIK {post : Int32 → S → Prop} {a : Array Value} (hr : va_Run p l e R s m args below meth c H locs cells slots mc ms (F0 m pc ls st0) rest (va_Qi post (fun _ t => kd_post g (va_A wc H.size) wc t) (va_A wc H.size) a) (va_A wc H.size)) (hP : va_P g.1 vwCl ws H) (hD : va_D A ws) (hS : va_S A s.heap H locs) (hA : ∀ q : Nat, s.heap.size ≤ q → A q) (isC : List Nat) (hC : isC.map (fun i => ws[i]?) = wc.map some)
    (kk : ∀ (r : Int32) (u : S) (H1 : Heap) (locs1 : List Loc), post r u → va_P g.1 vwCl ws H1 → va_S A s.heap H1 locs1 → W p l e R s m args below meth c H1 locs1 (cells + mc) (slots + ms) Q (F0 m (pc + 3) ls (.int r :: rest))) : W p l e R s m args below meth c H locs cells slots Q (F0 m pc ls st0) := by
  have hF := va_free (wc := wc) hD hS hA isC hC
  refine va_calli hr hS (fun q _ h => hF q h) hF (fun r u t H1 locs1 ht hvm hw hB hz1 hk1 hS1 => ?_)
  exact kk r u H1 locs1 hw (kd_keep hP hD hC hk1 (by rw [← ht]; exact hB.1)) hS1
theorem kd_callLK {post : Int64 → S → Prop} {a : Array Value} (hr : va_Run p l e R s m args below meth c H locs cells slots mc ms (F0 m pc ls st0) rest (va_Ql post (fun _ t => kd_post g (va_A wc H.size) wc t) (va_A wc H.size) a) (va_A wc H.size)) (hP : va_P g.1 vwCl ws H) (hD : va_D A ws) (hS : va_S A s.heap H locs) (hA : ∀ q : Nat, s.heap.size ≤ q → A q) (isC : List Nat) (hC : isC.map (fun i => ws[i]?) = wc.map some)
    (kk : ∀ (r : Int64) (u : S) (H1 : Heap) (locs1 : List Loc), post r u → va_P g.1 vwCl ws H1 → va_S A s.heap H1 locs1 → W p l e R s m args below meth c H1 locs1 (cells + mc) (slots + ms) Q (F0 m (pc + 3) ls (.long r :: rest))) : W p l e R s m args below meth c H locs cells slots Q (F0 m pc ls st0) := by
  have hF := va_free (wc := wc) hD hS hA isC hC
  refine va_calll hr hS (fun q _ h => hF q h) hF (fun r u t H1 locs1 ht hvm hw hB hz1 hk1 hS1 => ?_)
  exact kk r u H1 locs1 hw (kd_keep hP hD hC hk1 (by rw [← ht]; exact hB.1)) hS1
theorem kd_callRK {post : S → Prop} {ad : S → Nat} {a : Array Value} (hr : va_Run p l e R s m args below meth c H locs cells slots mc ms (F0 m pc ls st0) rest (va_Qr post (fun u a t => a = ad u ∧ kd_post g (va_A wc H.size) wc t) (va_A wc H.size) a) (va_A wc H.size)) (hP : va_P g.1 vwCl ws H) (hD : va_D A ws) (hS : va_S A s.heap H locs) (hA : ∀ q : Nat, s.heap.size ≤ q → A q) (isC : List Nat) (hC : isC.map (fun i => ws[i]?) = wc.map some)
    (kk : ∀ (u : S) (H1 : Heap) (locs1 : List Loc), post u → va_P g.1 vwCl ws H1 → va_S A s.heap H1 locs1 → W p l e R s m args below meth c H1 locs1 (cells + mc) (slots + ms) Q (F0 m (pc + 3) ls (.ref (ad u) :: rest))) : W p l e R s m args below meth c H locs cells slots Q (F0 m pc ls st0) := by
  have hF := va_free (wc := wc) hD hS hA isC hC
  refine va_callr hr hS (fun q _ h => hF q h) hF (fun u ra t H1 locs1 ht hvm hw hB hz1 hk1 hS1 => ?_)
  rw [hB.1]
  exact kk u H1 locs1 hw (kd_keep hP hD hC hk1 (by rw [← ht]; exact hB.2.1)) hS1
theorem kd_callIM {post : Int32 → S → Prop} {a : Array Value} (hr : va_Run p l e R s m args below meth c H locs cells slots mc ms (F0 m pc ls st0) rest (va_Qi post (fun u t => kd_post g (va_A wc H.size) (Wf u) t) (va_A wc H.size) a) (va_A wc H.size)) (hP : va_P g.1 vwCl ws H) (hD : va_D A ws) (hS : va_S A s.heap H locs) (hA : ∀ q : Nat, s.heap.size ≤ q → A q) (isC : List Nat) (hC : isC.map (fun i => ws[i]?) = wc.map some) (hn : va_nd isC = true) (had : ∀ u, (Wf u).map (·.1) = wc.map (·.1))
    (kk : ∀ (r : Int32) (u : S) (H1 : Heap) (locs1 : List Loc), post r u → va_P g.1 vwCl (kd_repl ws isC (Wf u)) H1 → va_D A (kd_repl ws isC (Wf u)) → va_S A s.heap H1 locs1 → W p l e R s m args below meth c H1 locs1 (cells + mc) (slots + ms) Q (F0 m (pc + 3) ls (.int r :: rest))) : W p l e R s m args below meth c H locs cells slots Q (F0 m pc ls st0) := by
  have hF := va_free (wc := wc) hD hS hA isC hC
  refine va_calli hr hS (fun q _ h => hF q h) hF (fun r u t H1 locs1 ht hvm hw hB hz1 hk1 hS1 => ?_)
  obtain ⟨h1, h2⟩ := kd_back hP hD hC hn (had u) hk1 (by rw [← ht]; exact hB.1)
  exact kk r u H1 locs1 hw h1 h2 hS1
theorem kd_callLM {post : Int64 → S → Prop} {a : Array Value} (hr : va_Run p l e R s m args below meth c H locs cells slots mc ms (F0 m pc ls st0) rest (va_Ql post (fun u t => kd_post g (va_A wc H.size) (Wf u) t) (va_A wc H.size) a) (va_A wc H.size)) (hP : va_P g.1 vwCl ws H) (hD : va_D A ws) (hS : va_S A s.heap H locs) (hA : ∀ q : Nat, s.heap.size ≤ q → A q) (isC : List Nat) (hC : isC.map (fun i => ws[i]?) = wc.map some) (hn : va_nd isC = true) (had : ∀ u, (Wf u).map (·.1) = wc.map (·.1))
    (kk : ∀ (r : Int64) (u : S) (H1 : Heap) (locs1 : List Loc), post r u → va_P g.1 vwCl (kd_repl ws isC (Wf u)) H1 → va_D A (kd_repl ws isC (Wf u)) → va_S A s.heap H1 locs1 → W p l e R s m args below meth c H1 locs1 (cells + mc) (slots + ms) Q (F0 m (pc + 3) ls (.long r :: rest))) : W p l e R s m args below meth c H locs cells slots Q (F0 m pc ls st0) := by
  have hF := va_free (wc := wc) hD hS hA isC hC
  refine va_calll hr hS (fun q _ h => hF q h) hF (fun r u t H1 locs1 ht hvm hw hB hz1 hk1 hS1 => ?_)
  obtain ⟨h1, h2⟩ := kd_back hP hD hC hn (had u) hk1 (by rw [← ht]; exact hB.1)
  exact kk r u H1 locs1 hw h1 h2 hS1
theorem kd_callVM {post : S → Prop} {a : Array Value} (hr : va_Run p l e R s m args below meth c H locs cells slots mc ms (F0 m pc ls st0) rest (va_Qv post (fun u t => kd_post g (va_A wc H.size) (Wf u) t) (va_A wc H.size) a) (va_A wc H.size)) (hP : va_P g.1 vwCl ws H) (hD : va_D A ws) (hS : va_S A s.heap H locs) (hA : ∀ q : Nat, s.heap.size ≤ q → A q) (isC : List Nat) (hC : isC.map (fun i => ws[i]?) = wc.map some) (hn : va_nd isC = true) (had : ∀ u, (Wf u).map (·.1) = wc.map (·.1))
    (kk : ∀ (u : S) (H1 : Heap) (locs1 : List Loc), post u → va_P g.1 vwCl (kd_repl ws isC (Wf u)) H1 → va_D A (kd_repl ws isC (Wf u)) → va_S A s.heap H1 locs1 → W p l e R s m args below meth c H1 locs1 (cells + mc) (slots + ms) Q (F0 m (pc + 3) ls rest)) : W p l e R s m args below meth c H locs cells slots Q (F0 m pc ls st0) := by
  have hF := va_free (wc := wc) hD hS hA isC hC
  refine va_callv hr hS (fun q _ h => hF q h) hF (fun u t H1 locs1 ht hvm hw hB hz1 hk1 hS1 => ?_)
  obtain ⟨h1, h2⟩ := kd_back hP hD hC hn (had u) hk1 (by rw [← ht]; exact hB.1)
  exact kk u H1 locs1 hw h1 h2 hS1
/-- a constructor's call: its cells come behind the others -/
theorem kd_callVJ {post : S → Prop} {a : Array Value} {wr : va_W} (hr : va_Run p l e R s m args below meth c H locs cells slots mc ms (F0 m pc ls st0) rest (va_Qv post (fun u t => kd_post g (va_A wc H.size) (Wf u) t) (va_A wc H.size) a) (va_A wc H.size)) (hP : va_P g.1 vwCl ws H) (hD : va_D A ws) (hS : va_S A s.heap H locs) (hA : ∀ q : Nat, s.heap.size ≤ q → A q) (isC isR : List Nat) (hC : isC.map (fun i => ws[i]?) = wc.map some) (hR : isR.map (fun i => ws[i]?) = wr.map some) (hn : va_nd isR = true) (hdis : ∀ i ∈ isR, i ∉ isC)
    (kk : ∀ (u : S) (H1 : Heap) (locs1 : List Loc), post u → va_P g.1 vwCl (wr ++ Wf u) H1 → va_D A (wr ++ Wf u) → va_S A s.heap H1 locs1 → W p l e R s m args below meth c H1 locs1 (cells + mc) (slots + ms) Q (F0 m (pc + 3) ls rest)) : W p l e R s m args below meth c H locs cells slots Q (F0 m pc ls st0) := by
  have hF := va_free (wc := wc) hD hS hA isC hC
  refine va_callv hr hS (fun q _ h => hF q h) hF (fun u t H1 locs1 ht hvm hw hB hz1 hk1 hS1 => ?_)
  obtain ⟨h1, h2⟩ := va_join hP hD isC isR hC hR hn hdis hk1 hF (by rw [← ht]; exact hB.1) hB.2.2
  exact kk u H1 locs1 hw h1 h2 hS1
/-! arrays at a natural index -/
theorem kd_iald (hx : p.tables.exec = Jvm.exec) (hb : c.code = cc) (hK : va_K g.1 vwCl (kd_ty g) s) (hP : va_P g.1 vwCl ws H) (q0 : Nat) {a n k : Nat} {f : Nat → Int32} (ha : ws[q0]? = some (a, .inl (g.2.1 0, n, .inl f))) (hk : k < n) (hn : n < 2 ^ 31) (hd : decode cc pc = .ok (.iaload, 1)) (kk : W p l e R s m args below meth c H locs cells slots Q (F0 m (pc + 1) ls (.int (f k) :: rest))) : W p l e R s m args below meth c H locs cells slots Q (F0 m pc ls (.int (nI k) :: .ref a :: rest)) := by
  refine va_iald hx hb hK hP q0 0 ha rfl (vp_in_nI hk hn) hd ?_
  rw [nI_clamp (Nat.lt_trans hk hn)]
  exact kk
theorem kd_lald (hx : p.tables.exec = Jvm.exec) (hb : c.code = cc) (hK : va_K g.1 vwCl (kd_ty g) s) (hP : va_P g.1 vwCl ws H) (q0 : Nat) {a n k : Nat} {f : Nat → Int64} (ha : ws[q0]? = some (a, .inl (g.2.1 1, n, .inr (.inl f)))) (hk : k < n) (hn : n < 2 ^ 31) (hd : decode cc pc = .ok (.laload, 1)) (kk : W p l e R s m args below meth c H locs cells slots Q (F0 m (pc + 1) ls (.long (f k) :: rest))) : W p l e R s m args below meth c H locs cells slots Q (F0 m pc ls (.int (nI k) :: .ref a :: rest)) := by
  refine va_lald hx hb hK hP q0 1 ha rfl (vp_in_nI hk hn) hd ?_
  rw [nI_clamp (Nat.lt_trans hk hn)]
  exact kk
theorem kd_iast (hx : p.tables.exec = Jvm.exec) (hb : c.code = cc) (hK : va_K g.1 vwCl (kd_ty g) s) (hP : va_P g.1 vwCl ws H) (hD : va_D A ws) (hS : va_S A s.heap H locs) (q0 : Nat) {a n k : Nat} {f : Nat → Int32} {x : Int32} (ha : ws[q0]? = some (a, .inl (g.2.1 0, n, .inl f))) (hk : k < n) (hn : n < 2 ^ 31) (hd : decode cc pc = .ok (.iastore, 1)) (kk : ∀ (H1 : Heap) (locs1 : List Loc), va_P g.1 vwCl (ws.set q0 (a, .inl (g.2.1 0, n, .inl (upd f k x)))) H1 → va_D A (ws.set q0 (a, .inl (g.2.1 0, n, .inl (upd f k x)))) → va_S A s.heap H1 locs1 → W p l e R s m args below meth c H1 locs1 cells slots Q (F0 m (pc + 1) ls rest)) : W p l e R s m args below meth c H locs cells slots Q (F0 m pc ls (.int x :: .int (nI k) :: .ref a :: rest)) := by
  refine va_iast hx hb hK hP hD hS q0 0 ha rfl (vp_in_nI hk hn) hd ?_
  rw [nI_clamp (Nat.lt_trans hk hn)]
  exact kk
theorem kd_last (hx : p.tables.exec = Jvm.exec) (hb : c.code = cc) (hK : va_K g.1 vwCl (kd_ty g) s) (hP : va_P g.1 vwCl ws H) (hD : va_D A ws) (hS : va_S A s.heap H locs) (q0 : Nat) {a n k : Nat} {f : Nat → Int64} {x : Int64} (ha : ws[q0]? = some (a, .inl (g.2.1 1, n, .inr (.inl f)))) (hk : k < n) (hn : n < 2 ^ 31) (hd : decode cc pc = .ok (.lastore, 1)) (kk : ∀ (H1 : Heap) (locs1 : List Loc), va_P g.1 vwCl (ws.set q0 (a, .inl (g.2.1 1, n, .inr (.inl (vp_updL f k x))))) H1 → va_D A (ws.set q0 (a, .inl (g.2.1 1, n, .inr (.inl (vp_updL f k x))))) → va_S A s.heap H1 locs1 → W p l e R s m args below meth c H1 locs1 cells slots Q (F0 m (pc + 1) ls rest)) : W p l e R s m args below meth c H locs cells slots Q (F0 m pc ls (.long x :: .int (nI k) :: .ref a :: rest)) := by
  refine va_last hx hb hK hP hD hS q0 1 ha rfl (vp_in_nI hk hn) hd ?_
  rw [nI_clamp (Nat.lt_trans hk hn)]
  exact kk
/-- an array of references, none of them null, at any index in range -/
theorem kd_aldq (hx : p.tables.exec = Jvm.exec) (hb : c.code = cc) (hK : va_K g.1 vwCl (kd_ty g) s) (hP : va_P g.1 vwCl ws H) (q0 t0 : Nat) {a n : Nat} {cA : ClassId} {C : String} {i : Int32} {f : Nat → Nat} (ha : ws[q0]? = some (a, .inl (cA, n, .inr (.inr (.inr (.inr (fun j => some (f j)))))))) (ht : (kd_ty g)[t0]? = some (cA, .object C)) (hi : vp_in i n) (hd : decode cc pc = .ok (.aaload, 1)) (kk : W p l e R s m args below meth c H locs cells slots Q (F0 m (pc + 1) ls (.ref (f i.toNatClampNeg) :: rest))) : W p l e R s m args below meth c H locs cells slots Q (F0 m pc ls (.int i :: .ref a :: rest)) :=
  va_aldq hx hb hK hP q0 t0 ha ht hi hd kk
theorem kd_aldN (hx : p.tables.exec = Jvm.exec) (hb : c.code = cc) (hK : va_K g.1 vwCl (kd_ty g) s) (hP : va_P g.1 vwCl ws H) (q0 t0 : Nat) {a n k : Nat} {cA : ClassId} {C : String} {f : Nat → Nat} (ha : ws[q0]? = some (a, .inl (cA, n, .inr (.inr (.inr (.inr (fun j => some (f j)))))))) (ht : (kd_ty g)[t0]? = some (cA, .object C)) (hk : k < n) (hn : n < 2 ^ 31) (hd : decode cc pc = .ok (.aaload, 1)) (kk : W p l e R s m args below meth c H locs cells slots Q (F0 m (pc + 1) ls (.ref (f k) :: rest))) : W p l e R s m args below meth c H locs cells slots Q (F0 m pc ls (.int (nI k) :: .ref a :: rest)) := by
  refine va_aldq hx hb hK hP q0 t0 ha ht (vp_in_nI hk hn) hd ?_
  rw [nI_clamp (Nat.lt_trans hk hn)]
  exact kk
end KDB
theorem kd_pair {α β : Type} {a : α} {b : β} {x : α × β} (h : (a, b) = x) : a = x.1 ∧ b = x.2 := by rw [← h]; exact ⟨rfl, rfl⟩
theorem kd_inlt {i : Int32} {n : Nat} (h : vp_in i n) : i.toNatClampNeg < n := Nat.not_le.mp fun q => h (Or.inr q)
theorem kd_ne {x y : Int32} (h : ¬ x = y) : x.toInt ≠ y.toInt := fun e => h (Int32.toInt_inj.mp e)
/-! the six THINGS of a standing, and the five dice -/
abbrev kd_row (r : Nat → Int32) : List Value := [.int (r 0), .int (r 1), .int (r 2), .int (r 3), .int (r 4), .int (r 5)]
abbrev kd_th (q : Nat → Nat) (R : Nat → Nat → Int32) : va_W := [(q 0, .inr (8, kd_row (R 0))), (q 1, .inr (8, kd_row (R 1))), (q 2, .inr (8, kd_row (R 2))), (q 3, .inr (8, kd_row (R 3))), (q 4, .inr (8, kd_row (R 4))), (q 5, .inr (8, kd_row (R 5)))]
def kd_up (R : Nat → Nat → Int32) (t j : Nat) (v : Int32) : Nat → Nat → Int32 := fun a b => if a = t ∧ b = j then v else R a b
theorem kd_th_at {q : Nat → Nat} {R : Nat → Nat → Int32} {rest : va_W} : ∀ {t : Nat}, t < 6 → (kd_th q R ++ rest)[t]? = some (q t, .inr (8, kd_row (R t)))
  | 0, _ => rfl
  | 1, _ => rfl
  | 2, _ => rfl
  | 3, _ => rfl
  | 4, _ => rfl
  | 5, _ => rfl
  | n + 6, h => absurd h (by omega)
theorem kd_th_at0 {q : Nat → Nat} {R : Nat → Nat → Int32} {t : Nat} (h : t < 6) : (kd_th q R)[t]? = some (q t, .inr (8, kd_row (R t))) := by
  have := kd_th_at (q := q) (R := R) (rest := []) h
  rwa [List.append_nil] at this
theorem kd_th_set {q : Nat → Nat} {R : Nat → Nat → Int32} {rest : va_W} {v : Int32} : ∀ {t j : Nat}, t < 6 → j < 6 → (kd_th q R ++ rest).set t (q t, .inr (8, (kd_row (R t)).set j (.int v))) = kd_th q (kd_up R t j v) ++ rest := by
  intro t j ht hj
  rcases (show t = 0 ∨ t = 1 ∨ t = 2 ∨ t = 3 ∨ t = 4 ∨ t = 5 by omega) with rfl | rfl | rfl | rfl | rfl | rfl <;> rcases (show j = 0 ∨ j = 1 ∨ j = 2 ∨ j = 3 ∨ j = 4 ∨ j = 5 by omega) with rfl | rfl | rfl | rfl | rfl | rfl <;> simp [kd_up]
theorem kd_th_set0 {q : Nat → Nat} {R : Nat → Nat → Int32} {v : Int32} {t j : Nat} (ht : t < 6) (hj : j < 6) : (kd_th q R).set t (q t, .inr (8, (kd_row (R t)).set j (.int v))) = kd_th q (kd_up R t j v) := by
  have := kd_th_set (q := q) (R := R) (rest := []) (v := v) ht hj
  rwa [List.append_nil, List.append_nil] at this
abbrev kd_dc (d : Nat → Nat) : va_W := [(d 0, .inr (1, [.int 0, .int 1, .int 6])), (d 1, .inr (3, [.int 1, .int 2, .int 6])), (d 2, .inr (9, [.int 2, .int 1, .int 6])), (d 3, .inr (4, [.int 3, .int 1, .int 3])), (d 4, .inr (0, [.int 4, .int 4, .int 6]))]
end
