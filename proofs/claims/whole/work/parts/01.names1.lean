-- ===== PART A: goes FIRST, ahead of the names: the tables' words, and 'selects' of the private methods out of them =====
/-- a private method of a class that the tables say can be made, by its rows of tables_1 -/
def lw_okq (q : MethodName × Nat) : Prop := (q.1.cls ≠ "java/lang/invoke/MethodHandle" ∧ q.1.cls ≠ "java/lang/invoke/VarHandle") ∧ Cond.instantiable q.1.cls q.2 ∈ tables_1 ∧ Cond.privateMethod q.1 ∈ tables_1 ∧ Cond.instanceMethod q.1 ∈ tables_1
theorem lw_p0 : lw_okq (⟨"SelfSteer$Bicycle", "valueOf", "(I)I"⟩, 1) := ⟨⟨by decide +kernel, by decide +kernel⟩, List.mem_of_getElem? (i := 29) (by decide +kernel), List.mem_of_getElem? (i := 280) (by decide +kernel), List.mem_of_getElem? (i := 281) (by decide +kernel)⟩
theorem lw_p1 : lw_okq (⟨"SelfSteer$Bicycle", "put", "(II)V"⟩, 1) := ⟨⟨by decide +kernel, by decide +kernel⟩, List.mem_of_getElem? (i := 29) (by decide +kernel), List.mem_of_getElem? (i := 285) (by decide +kernel), List.mem_of_getElem? (i := 286) (by decide +kernel)⟩
theorem lw_p2 : lw_okq (⟨"SelfSteer$Bicycle", "signThree", "()J"⟩, 1) := ⟨⟨by decide +kernel, by decide +kernel⟩, List.mem_of_getElem? (i := 29) (by decide +kernel), List.mem_of_getElem? (i := 304) (by decide +kernel), List.mem_of_getElem? (i := 305) (by decide +kernel)⟩
theorem lw_p3 : lw_okq (⟨"SelfSteer$Bicycle", "signTwo", "(II)J"⟩, 1) := ⟨⟨by decide +kernel, by decide +kernel⟩, List.mem_of_getElem? (i := 29) (by decide +kernel), List.mem_of_getElem? (i := 309) (by decide +kernel), List.mem_of_getElem? (i := 310) (by decide +kernel)⟩
theorem lw_p4 : lw_okq (⟨"SelfSteer$Bicycle", "signOne", "(III)J"⟩, 1) := ⟨⟨by decide +kernel, by decide +kernel⟩, List.mem_of_getElem? (i := 29) (by decide +kernel), List.mem_of_getElem? (i := 314) (by decide +kernel), List.mem_of_getElem? (i := 315) (by decide +kernel)⟩
theorem lw_p5 : lw_okq (⟨"SelfSteer$Bicycle", "signZero", "(II)J"⟩, 1) := ⟨⟨by decide +kernel, by decide +kernel⟩, List.mem_of_getElem? (i := 29) (by decide +kernel), List.mem_of_getElem? (i := 318) (by decide +kernel), List.mem_of_getElem? (i := 319) (by decide +kernel)⟩
theorem lw_p6 : lw_okq (⟨"SelfSteer$Bicycle", "staysUp", "(III)Z"⟩, 1) := ⟨⟨by decide +kernel, by decide +kernel⟩, List.mem_of_getElem? (i := 29) (by decide +kernel), List.mem_of_getElem? (i := 326) (by decide +kernel), List.mem_of_getElem? (i := 327) (by decide +kernel)⟩
theorem lw_p7 : lw_okq (⟨"SelfSteer$Bicycle", "speeds", "()J"⟩, 1) := ⟨⟨by decide +kernel, by decide +kernel⟩, List.mem_of_getElem? (i := 29) (by decide +kernel), List.mem_of_getElem? (i := 338) (by decide +kernel), List.mem_of_getElem? (i := 339) (by decide +kernel)⟩
theorem lw_p8 : lw_okq (⟨"SelfSteer", "speedsWith", "(LSelfSteer$Bicycle;II)J"⟩, 16) := ⟨⟨by decide +kernel, by decide +kernel⟩, List.mem_of_getElem? (i := 20) (by decide +kernel), List.mem_of_getElem? (i := 351) (by decide +kernel), List.mem_of_getElem? (i := 352) (by decide +kernel)⟩
theorem lw_p9 : lw_okq (⟨"SelfSteer$Bicycle", "copyFrom", "(LSelfSteer$Bicycle;)V"⟩, 1) := ⟨⟨by decide +kernel, by decide +kernel⟩, List.mem_of_getElem? (i := 29) (by decide +kernel), List.mem_of_getElem? (i := 355) (by decide +kernel), List.mem_of_getElem? (i := 356) (by decide +kernel)⟩
theorem lw_p10 : lw_okq (⟨"SelfSteer$Change", "leastWithout", "(LSelfSteer$Bicycle;I)I"⟩, 1) := ⟨⟨by decide +kernel, by decide +kernel⟩, List.mem_of_getElem? (i := 46) (by decide +kernel), List.mem_of_getElem? (i := 363) (by decide +kernel), List.mem_of_getElem? (i := 364) (by decide +kernel)⟩
theorem lw_p11 : lw_okq (⟨"SelfSteer$Change", "findsFrom", "(IILSelfSteer$Bicycle;I)Z"⟩, 1) := ⟨⟨by decide +kernel, by decide +kernel⟩, List.mem_of_getElem? (i := 46) (by decide +kernel), List.mem_of_getElem? (i := 367) (by decide +kernel), List.mem_of_getElem? (i := 368) (by decide +kernel)⟩
theorem lw_p12 : lw_okq (⟨"SelfSteer$Change", "valueFound", "(I)I"⟩, 1) := ⟨⟨by decide +kernel, by decide +kernel⟩, List.mem_of_getElem? (i := 46) (by decide +kernel), List.mem_of_getElem? (i := 385) (by decide +kernel), List.mem_of_getElem? (i := 386) (by decide +kernel)⟩
theorem lw_p13 : lw_okq (⟨"SelfSteer$Bicycle", "speedCount", "()I"⟩, 1) := ⟨⟨by decide +kernel, by decide +kernel⟩, List.mem_of_getElem? (i := 29) (by decide +kernel), List.mem_of_getElem? (i := 402) (by decide +kernel), List.mem_of_getElem? (i := 403) (by decide +kernel)⟩
theorem lw_p14 : lw_okq (⟨"SelfSteer$Doubt", "weigh", "(LSelfSteer$Bicycle;I)V"⟩, 3) := ⟨⟨by decide +kernel, by decide +kernel⟩, List.mem_of_getElem? (i := 58) (by decide +kernel), List.mem_of_getElem? (i := 420) (by decide +kernel), List.mem_of_getElem? (i := 421) (by decide +kernel)⟩
theorem lw_p15 : lw_okq (⟨"SelfSteer$Doubt", "mayBe", "(LSelfSteer$Bicycle;I)Z"⟩, 3) := ⟨⟨by decide +kernel, by decide +kernel⟩, List.mem_of_getElem? (i := 58) (by decide +kernel), List.mem_of_getElem? (i := 424) (by decide +kernel), List.mem_of_getElem? (i := 425) (by decide +kernel)⟩
def lw_privs_1 : List (MethodName × Nat) := [(⟨"SelfSteer$Bicycle", "valueOf", "(I)I"⟩, 1), (⟨"SelfSteer$Bicycle", "put", "(II)V"⟩, 1), (⟨"SelfSteer$Bicycle", "signThree", "()J"⟩, 1), (⟨"SelfSteer$Bicycle", "signTwo", "(II)J"⟩, 1), (⟨"SelfSteer$Bicycle", "signOne", "(III)J"⟩, 1), (⟨"SelfSteer$Bicycle", "signZero", "(II)J"⟩, 1), (⟨"SelfSteer$Bicycle", "staysUp", "(III)Z"⟩, 1), (⟨"SelfSteer$Bicycle", "speeds", "()J"⟩, 1), (⟨"SelfSteer", "speedsWith", "(LSelfSteer$Bicycle;II)J"⟩, 16), (⟨"SelfSteer$Bicycle", "copyFrom", "(LSelfSteer$Bicycle;)V"⟩, 1), (⟨"SelfSteer$Change", "leastWithout", "(LSelfSteer$Bicycle;I)I"⟩, 1), (⟨"SelfSteer$Change", "findsFrom", "(IILSelfSteer$Bicycle;I)Z"⟩, 1), (⟨"SelfSteer$Change", "valueFound", "(I)I"⟩, 1), (⟨"SelfSteer$Bicycle", "speedCount", "()I"⟩, 1), (⟨"SelfSteer$Doubt", "weigh", "(LSelfSteer$Bicycle;I)V"⟩, 3), (⟨"SelfSteer$Doubt", "mayBe", "(LSelfSteer$Bicycle;I)Z"⟩, 3)]
theorem lw_r1 : ∀ q ∈ lw_privs_1, lw_okq q := List.forall_mem_cons.mpr ⟨lw_p0, List.forall_mem_cons.mpr ⟨lw_p1, List.forall_mem_cons.mpr ⟨lw_p2, List.forall_mem_cons.mpr ⟨lw_p3, List.forall_mem_cons.mpr ⟨lw_p4, List.forall_mem_cons.mpr ⟨lw_p5, List.forall_mem_cons.mpr ⟨lw_p6, List.forall_mem_cons.mpr ⟨lw_p7, List.forall_mem_cons.mpr ⟨lw_p8, List.forall_mem_cons.mpr ⟨lw_p9, List.forall_mem_cons.mpr ⟨lw_p10, List.forall_mem_cons.mpr ⟨lw_p11, List.forall_mem_cons.mpr ⟨lw_p12, List.forall_mem_cons.mpr ⟨lw_p13, List.forall_mem_cons.mpr ⟨lw_p14, List.forall_mem_cons.mpr ⟨lw_p15, fun _ h => absurd h List.not_mem_nil⟩⟩⟩⟩⟩⟩⟩⟩⟩⟩⟩⟩⟩⟩⟩⟩
theorem lw_p16 : lw_okq (⟨"SelfSteer$Doubt", "spreadOf", "(I)I"⟩, 3) := ⟨⟨by decide +kernel, by decide +kernel⟩, List.mem_of_getElem? (i := 58) (by decide +kernel), List.mem_of_getElem? (i := 434) (by decide +kernel), List.mem_of_getElem? (i := 435) (by decide +kernel)⟩
theorem lw_p17 : lw_okq (⟨"SelfSteer$Doubt", "fewestFor", "(I)I"⟩, 3) := ⟨⟨by decide +kernel, by decide +kernel⟩, List.mem_of_getElem? (i := 58) (by decide +kernel), List.mem_of_getElem? (i := 444) (by decide +kernel), List.mem_of_getElem? (i := 445) (by decide +kernel)⟩
theorem lw_p18 : lw_okq (⟨"SelfSteer$Reader", "faultOf", "([IILSelfSteer$Rider;)I"⟩, 6) := ⟨⟨by decide +kernel, by decide +kernel⟩, List.mem_of_getElem? (i := 79) (by decide +kernel), List.mem_of_getElem? (i := 468) (by decide +kernel), List.mem_of_getElem? (i := 469) (by decide +kernel)⟩
theorem lw_p19 : lw_okq (⟨"SelfSteer$Rider", "forget", "()V"⟩, 2) := ⟨⟨by decide +kernel, by decide +kernel⟩, List.mem_of_getElem? (i := 104) (by decide +kernel), List.mem_of_getElem? (i := 473) (by decide +kernel), List.mem_of_getElem? (i := 474) (by decide +kernel)⟩
theorem lw_p20 : lw_okq (⟨"SelfSteer$Reader", "next", "()V"⟩, 6) := ⟨⟨by decide +kernel, by decide +kernel⟩, List.mem_of_getElem? (i := 79) (by decide +kernel), List.mem_of_getElem? (i := 477) (by decide +kernel), List.mem_of_getElem? (i := 478) (by decide +kernel)⟩
theorem lw_p21 : lw_okq (⟨"SelfSteer$Reader", "readWord", "()V"⟩, 6) := ⟨⟨by decide +kernel, by decide +kernel⟩, List.mem_of_getElem? (i := 79) (by decide +kernel), List.mem_of_getElem? (i := 485) (by decide +kernel), List.mem_of_getElem? (i := 486) (by decide +kernel)⟩
theorem lw_p22 : lw_okq (⟨"SelfSteer$Reader", "isWord", "(I)Z"⟩, 6) := ⟨⟨by decide +kernel, by decide +kernel⟩, List.mem_of_getElem? (i := 79) (by decide +kernel), List.mem_of_getElem? (i := 489) (by decide +kernel), List.mem_of_getElem? (i := 490) (by decide +kernel)⟩
theorem lw_p23 : lw_okq (⟨"SelfSteer$Reader", "readAmount", "()V"⟩, 6) := ⟨⟨by decide +kernel, by decide +kernel⟩, List.mem_of_getElem? (i := 79) (by decide +kernel), List.mem_of_getElem? (i := 537) (by decide +kernel), List.mem_of_getElem? (i := 538) (by decide +kernel)⟩
theorem lw_p24 : lw_okq (⟨"SelfSteer$Reader", "readsItem", "(LSelfSteer$Rider;)Z"⟩, 6) := ⟨⟨by decide +kernel, by decide +kernel⟩, List.mem_of_getElem? (i := 79) (by decide +kernel), List.mem_of_getElem? (i := 541) (by decide +kernel), List.mem_of_getElem? (i := 542) (by decide +kernel)⟩
theorem lw_p25 : lw_okq (⟨"SelfSteer$Rider", "wasTold", "(I)Z"⟩, 2) := ⟨⟨by decide +kernel, by decide +kernel⟩, List.mem_of_getElem? (i := 104) (by decide +kernel), List.mem_of_getElem? (i := 545) (by decide +kernel), List.mem_of_getElem? (i := 546) (by decide +kernel)⟩
theorem lw_p26 : lw_okq (⟨"SelfSteer$Rider", "tell", "(II)V"⟩, 2) := ⟨⟨by decide +kernel, by decide +kernel⟩, List.mem_of_getElem? (i := 104) (by decide +kernel), List.mem_of_getElem? (i := 553) (by decide +kernel), List.mem_of_getElem? (i := 554) (by decide +kernel)⟩
theorem lw_p27 : lw_okq (⟨"SelfSteer$Rider", "copyFrom", "(LSelfSteer$Rider;)V"⟩, 2) := ⟨⟨by decide +kernel, by decide +kernel⟩, List.mem_of_getElem? (i := 104) (by decide +kernel), List.mem_of_getElem? (i := 558) (by decide +kernel), List.mem_of_getElem? (i := 559) (by decide +kernel)⟩
theorem lw_p28 : lw_okq (⟨"SelfSteer$Rider", "itemCount", "()I"⟩, 2) := ⟨⟨by decide +kernel, by decide +kernel⟩, List.mem_of_getElem? (i := 104) (by decide +kernel), List.mem_of_getElem? (i := 562) (by decide +kernel), List.mem_of_getElem? (i := 563) (by decide +kernel)⟩
theorem lw_p29 : lw_okq (⟨"SelfSteer$Ride", "begin", "(IIZ)V"⟩, 13) := ⟨⟨by decide +kernel, by decide +kernel⟩, List.mem_of_getElem? (i := 121) (by decide +kernel), List.mem_of_getElem? (i := 572) (by decide +kernel), List.mem_of_getElem? (i := 573) (by decide +kernel)⟩
theorem lw_p30 : lw_okq (⟨"SelfSteer$Ride", "takePush", "(I)V"⟩, 13) := ⟨⟨by decide +kernel, by decide +kernel⟩, List.mem_of_getElem? (i := 121) (by decide +kernel), List.mem_of_getElem? (i := 580) (by decide +kernel), List.mem_of_getElem? (i := 581) (by decide +kernel)⟩
theorem lw_p31 : lw_okq (⟨"SelfSteer$Ride", "lookWhetherItFalls", "()V"⟩, 13) := ⟨⟨by decide +kernel, by decide +kernel⟩, List.mem_of_getElem? (i := 121) (by decide +kernel), List.mem_of_getElem? (i := 584) (by decide +kernel), List.mem_of_getElem? (i := 585) (by decide +kernel)⟩
def lw_privs_2 : List (MethodName × Nat) := [(⟨"SelfSteer$Doubt", "spreadOf", "(I)I"⟩, 3), (⟨"SelfSteer$Doubt", "fewestFor", "(I)I"⟩, 3), (⟨"SelfSteer$Reader", "faultOf", "([IILSelfSteer$Rider;)I"⟩, 6), (⟨"SelfSteer$Rider", "forget", "()V"⟩, 2), (⟨"SelfSteer$Reader", "next", "()V"⟩, 6), (⟨"SelfSteer$Reader", "readWord", "()V"⟩, 6), (⟨"SelfSteer$Reader", "isWord", "(I)Z"⟩, 6), (⟨"SelfSteer$Reader", "readAmount", "()V"⟩, 6), (⟨"SelfSteer$Reader", "readsItem", "(LSelfSteer$Rider;)Z"⟩, 6), (⟨"SelfSteer$Rider", "wasTold", "(I)Z"⟩, 2), (⟨"SelfSteer$Rider", "tell", "(II)V"⟩, 2), (⟨"SelfSteer$Rider", "copyFrom", "(LSelfSteer$Rider;)V"⟩, 2), (⟨"SelfSteer$Rider", "itemCount", "()I"⟩, 2), (⟨"SelfSteer$Ride", "begin", "(IIZ)V"⟩, 13), (⟨"SelfSteer$Ride", "takePush", "(I)V"⟩, 13), (⟨"SelfSteer$Ride", "lookWhetherItFalls", "()V"⟩, 13)]
theorem lw_r2 : ∀ q ∈ lw_privs_2, lw_okq q := List.forall_mem_cons.mpr ⟨lw_p16, List.forall_mem_cons.mpr ⟨lw_p17, List.forall_mem_cons.mpr ⟨lw_p18, List.forall_mem_cons.mpr ⟨lw_p19, List.forall_mem_cons.mpr ⟨lw_p20, List.forall_mem_cons.mpr ⟨lw_p21, List.forall_mem_cons.mpr ⟨lw_p22, List.forall_mem_cons.mpr ⟨lw_p23, List.forall_mem_cons.mpr ⟨lw_p24, List.forall_mem_cons.mpr ⟨lw_p25, List.forall_mem_cons.mpr ⟨lw_p26, List.forall_mem_cons.mpr ⟨lw_p27, List.forall_mem_cons.mpr ⟨lw_p28, List.forall_mem_cons.mpr ⟨lw_p29, List.forall_mem_cons.mpr ⟨lw_p30, List.forall_mem_cons.mpr ⟨lw_p31, fun _ h => absurd h List.not_mem_nil⟩⟩⟩⟩⟩⟩⟩⟩⟩⟩⟩⟩⟩⟩⟩⟩
theorem lw_p32 : lw_okq (⟨"SelfSteer$Ride", "goOn", "(ILSelfSteer$Bicycle;LSelfSteer$Rider;)I"⟩, 13) := ⟨⟨by decide +kernel, by decide +kernel⟩, List.mem_of_getElem? (i := 121) (by decide +kernel), List.mem_of_getElem? (i := 592) (by decide +kernel), List.mem_of_getElem? (i := 593) (by decide +kernel)⟩
theorem lw_p33 : lw_okq (⟨"SelfSteer$Ride", "doTick", "(LSelfSteer$Bicycle;LSelfSteer$Rider;)V"⟩, 13) := ⟨⟨by decide +kernel, by decide +kernel⟩, List.mem_of_getElem? (i := 121) (by decide +kernel), List.mem_of_getElem? (i := 596) (by decide +kernel), List.mem_of_getElem? (i := 597) (by decide +kernel)⟩
theorem lw_p34 : lw_okq (⟨"SelfSteer$Ride", "remember", "()V"⟩, 13) := ⟨⟨by decide +kernel, by decide +kernel⟩, List.mem_of_getElem? (i := 121) (by decide +kernel), List.mem_of_getElem? (i := 600) (by decide +kernel), List.mem_of_getElem? (i := 601) (by decide +kernel)⟩
theorem lw_p35 : lw_okq (⟨"SelfSteer$Ride", "handOf", "(LSelfSteer$Rider;)I"⟩, 13) := ⟨⟨by decide +kernel, by decide +kernel⟩, List.mem_of_getElem? (i := 121) (by decide +kernel), List.mem_of_getElem? (i := 607) (by decide +kernel), List.mem_of_getElem? (i := 608) (by decide +kernel)⟩
theorem lw_p36 : lw_okq (⟨"SelfSteer$Habits", "practise", "(III)V"⟩, 2) := ⟨⟨by decide +kernel, by decide +kernel⟩, List.mem_of_getElem? (i := 177) (by decide +kernel), List.mem_of_getElem? (i := 633) (by decide +kernel), List.mem_of_getElem? (i := 634) (by decide +kernel)⟩
theorem lw_p37 : lw_okq (⟨"SelfSteer$Habits", "valueOf", "(I)I"⟩, 2) := ⟨⟨by decide +kernel, by decide +kernel⟩, List.mem_of_getElem? (i := 177) (by decide +kernel), List.mem_of_getElem? (i := 640) (by decide +kernel), List.mem_of_getElem? (i := 641) (by decide +kernel)⟩
theorem lw_p38 : lw_okq (⟨"SelfSteer$Habits", "weeksTillWhole", "(II)I"⟩, 2) := ⟨⟨by decide +kernel, by decide +kernel⟩, List.mem_of_getElem? (i := 177) (by decide +kernel), List.mem_of_getElem? (i := 652) (by decide +kernel), List.mem_of_getElem? (i := 653) (by decide +kernel)⟩
theorem lw_p39 : lw_okq (⟨"SelfSteer", "askKind", "(ILSelfSteer$Bicycle;I)I"⟩, 16) := ⟨⟨by decide +kernel, by decide +kernel⟩, List.mem_of_getElem? (i := 20) (by decide +kernel), List.mem_of_getElem? (i := 660) (by decide +kernel), List.mem_of_getElem? (i := 661) (by decide +kernel)⟩
theorem lw_p40 : lw_okq (⟨"SelfSteer$Image", "take", "(LSelfSteer$Ride;LSelfSteer$Habits;)V"⟩, 3) := ⟨⟨by decide +kernel, by decide +kernel⟩, List.mem_of_getElem? (i := 192) (by decide +kernel), List.mem_of_getElem? (i := 675) (by decide +kernel), List.mem_of_getElem? (i := 676) (by decide +kernel)⟩
theorem lw_p41 : lw_okq (⟨"SelfSteer$Ride", "copyFrom", "(LSelfSteer$Ride;)V"⟩, 13) := ⟨⟨by decide +kernel, by decide +kernel⟩, List.mem_of_getElem? (i := 121) (by decide +kernel), List.mem_of_getElem? (i := 679) (by decide +kernel), List.mem_of_getElem? (i := 680) (by decide +kernel)⟩
theorem lw_p42 : lw_okq (⟨"SelfSteer$Habits", "copyFrom", "(LSelfSteer$Habits;)V"⟩, 2) := ⟨⟨by decide +kernel, by decide +kernel⟩, List.mem_of_getElem? (i := 177) (by decide +kernel), List.mem_of_getElem? (i := 684) (by decide +kernel), List.mem_of_getElem? (i := 685) (by decide +kernel)⟩
theorem lw_p43 : lw_okq (⟨"SelfSteer$Image", "giveBack", "(LSelfSteer$Ride;LSelfSteer$Habits;)V"⟩, 3) := ⟨⟨by decide +kernel, by decide +kernel⟩, List.mem_of_getElem? (i := 192) (by decide +kernel), List.mem_of_getElem? (i := 692) (by decide +kernel), List.mem_of_getElem? (i := 693) (by decide +kernel)⟩
theorem lw_p44 : lw_okq (⟨"SelfSteer", "speedsOfAll", "()I"⟩, 16) := ⟨⟨by decide +kernel, by decide +kernel⟩, List.mem_of_getElem? (i := 20) (by decide +kernel), List.mem_of_getElem? (i := 700) (by decide +kernel), List.mem_of_getElem? (i := 701) (by decide +kernel)⟩
theorem lw_p45 : lw_okq (⟨"SelfSteerModel", "takes", "(I)V"⟩, 21) := ⟨⟨by decide +kernel, by decide +kernel⟩, List.mem_of_getElem? (i := 708) (by decide +kernel), List.mem_of_getElem? (i := 810) (by decide +kernel), List.mem_of_getElem? (i := 811) (by decide +kernel)⟩
theorem lw_p46 : lw_okq (⟨"SelfSteerModel", "signOf", "(JJJI)J"⟩, 21) := ⟨⟨by decide +kernel, by decide +kernel⟩, List.mem_of_getElem? (i := 708) (by decide +kernel), List.mem_of_getElem? (i := 814) (by decide +kernel), List.mem_of_getElem? (i := 815) (by decide +kernel)⟩
theorem lw_p47 : lw_okq (⟨"SelfSteerModel", "isUp", "(III)Z"⟩, 21) := ⟨⟨by decide +kernel, by decide +kernel⟩, List.mem_of_getElem? (i := 708) (by decide +kernel), List.mem_of_getElem? (i := 824) (by decide +kernel), List.mem_of_getElem? (i := 825) (by decide +kernel)⟩
def lw_privs_3 : List (MethodName × Nat) := [(⟨"SelfSteer$Ride", "goOn", "(ILSelfSteer$Bicycle;LSelfSteer$Rider;)I"⟩, 13), (⟨"SelfSteer$Ride", "doTick", "(LSelfSteer$Bicycle;LSelfSteer$Rider;)V"⟩, 13), (⟨"SelfSteer$Ride", "remember", "()V"⟩, 13), (⟨"SelfSteer$Ride", "handOf", "(LSelfSteer$Rider;)I"⟩, 13), (⟨"SelfSteer$Habits", "practise", "(III)V"⟩, 2), (⟨"SelfSteer$Habits", "valueOf", "(I)I"⟩, 2), (⟨"SelfSteer$Habits", "weeksTillWhole", "(II)I"⟩, 2), (⟨"SelfSteer", "askKind", "(ILSelfSteer$Bicycle;I)I"⟩, 16), (⟨"SelfSteer$Image", "take", "(LSelfSteer$Ride;LSelfSteer$Habits;)V"⟩, 3), (⟨"SelfSteer$Ride", "copyFrom", "(LSelfSteer$Ride;)V"⟩, 13), (⟨"SelfSteer$Habits", "copyFrom", "(LSelfSteer$Habits;)V"⟩, 2), (⟨"SelfSteer$Image", "giveBack", "(LSelfSteer$Ride;LSelfSteer$Habits;)V"⟩, 3), (⟨"SelfSteer", "speedsOfAll", "()I"⟩, 16), (⟨"SelfSteerModel", "takes", "(I)V"⟩, 21), (⟨"SelfSteerModel", "signOf", "(JJJI)J"⟩, 21), (⟨"SelfSteerModel", "isUp", "(III)Z"⟩, 21)]
theorem lw_r3 : ∀ q ∈ lw_privs_3, lw_okq q := List.forall_mem_cons.mpr ⟨lw_p32, List.forall_mem_cons.mpr ⟨lw_p33, List.forall_mem_cons.mpr ⟨lw_p34, List.forall_mem_cons.mpr ⟨lw_p35, List.forall_mem_cons.mpr ⟨lw_p36, List.forall_mem_cons.mpr ⟨lw_p37, List.forall_mem_cons.mpr ⟨lw_p38, List.forall_mem_cons.mpr ⟨lw_p39, List.forall_mem_cons.mpr ⟨lw_p40, List.forall_mem_cons.mpr ⟨lw_p41, List.forall_mem_cons.mpr ⟨lw_p42, List.forall_mem_cons.mpr ⟨lw_p43, List.forall_mem_cons.mpr ⟨lw_p44, List.forall_mem_cons.mpr ⟨lw_p45, List.forall_mem_cons.mpr ⟨lw_p46, List.forall_mem_cons.mpr ⟨lw_p47, fun _ h => absurd h List.not_mem_nil⟩⟩⟩⟩⟩⟩⟩⟩⟩⟩⟩⟩⟩⟩⟩⟩
theorem lw_p48 : lw_okq (⟨"SelfSteerModel", "speeds", "()J"⟩, 21) := ⟨⟨by decide +kernel, by decide +kernel⟩, List.mem_of_getElem? (i := 708) (by decide +kernel), List.mem_of_getElem? (i := 833) (by decide +kernel), List.mem_of_getElem? (i := 834) (by decide +kernel)⟩
theorem lw_p49 : lw_okq (⟨"SelfSteerModel", "rangeWithout", "(II)J"⟩, 21) := ⟨⟨by decide +kernel, by decide +kernel⟩, List.mem_of_getElem? (i := 708) (by decide +kernel), List.mem_of_getElem? (i := 841) (by decide +kernel), List.mem_of_getElem? (i := 842) (by decide +kernel)⟩
theorem lw_p50 : lw_okq (⟨"SelfSteerModel", "allTheSame", "(II)I"⟩, 21) := ⟨⟨by decide +kernel, by decide +kernel⟩, List.mem_of_getElem? (i := 708) (by decide +kernel), List.mem_of_getElem? (i := 849) (by decide +kernel), List.mem_of_getElem? (i := 850) (by decide +kernel)⟩
theorem lw_p51 : lw_okq (⟨"SelfSteerModel", "manySpeeds", "()I"⟩, 21) := ⟨⟨by decide +kernel, by decide +kernel⟩, List.mem_of_getElem? (i := 708) (by decide +kernel), List.mem_of_getElem? (i := 858) (by decide +kernel), List.mem_of_getElem? (i := 859) (by decide +kernel)⟩
theorem lw_p52 : lw_okq (⟨"SelfSteerModel", "tries", "(I)V"⟩, 21) := ⟨⟨by decide +kernel, by decide +kernel⟩, List.mem_of_getElem? (i := 708) (by decide +kernel), List.mem_of_getElem? (i := 874) (by decide +kernel), List.mem_of_getElem? (i := 875) (by decide +kernel)⟩
theorem lw_p53 : lw_okq (⟨"SelfSteerModel", "spreadOf", "(I)I"⟩, 21) := ⟨⟨by decide +kernel, by decide +kernel⟩, List.mem_of_getElem? (i := 708) (by decide +kernel), List.mem_of_getElem? (i := 878) (by decide +kernel), List.mem_of_getElem? (i := 879) (by decide +kernel)⟩
theorem lw_p54 : lw_okq (⟨"SelfSteerModel", "advances", "()V"⟩, 21) := ⟨⟨by decide +kernel, by decide +kernel⟩, List.mem_of_getElem? (i := 708) (by decide +kernel), List.mem_of_getElem? (i := 902) (by decide +kernel), List.mem_of_getElem? (i := 903) (by decide +kernel)⟩
theorem lw_p55 : lw_okq (⟨"SelfSteerModel", "byteAt", "(I)I"⟩, 21) := ⟨⟨by decide +kernel, by decide +kernel⟩, List.mem_of_getElem? (i := 708) (by decide +kernel), List.mem_of_getElem? (i := 906) (by decide +kernel), List.mem_of_getElem? (i := 907) (by decide +kernel)⟩
theorem lw_p56 : lw_okq (⟨"SelfSteerModel", "isWell", "()Z"⟩, 21) := ⟨⟨by decide +kernel, by decide +kernel⟩, List.mem_of_getElem? (i := 708) (by decide +kernel), List.mem_of_getElem? (i := 918) (by decide +kernel), List.mem_of_getElem? (i := 919) (by decide +kernel)⟩
theorem lw_p57 : lw_okq (⟨"SelfSteerModel", "reads", "(Z)I"⟩, 21) := ⟨⟨by decide +kernel, by decide +kernel⟩, List.mem_of_getElem? (i := 708) (by decide +kernel), List.mem_of_getElem? (i := 922) (by decide +kernel), List.mem_of_getElem? (i := 923) (by decide +kernel)⟩
theorem lw_p58 : lw_okq (⟨"SelfSteerModel", "sets", "(III)V"⟩, 21) := ⟨⟨by decide +kernel, by decide +kernel⟩, List.mem_of_getElem? (i := 708) (by decide +kernel), List.mem_of_getElem? (i := 930) (by decide +kernel), List.mem_of_getElem? (i := 931) (by decide +kernel)⟩
theorem lw_p59 : lw_okq (⟨"SelfSteerModel", "tick", "()V"⟩, 21) := ⟨⟨by decide +kernel, by decide +kernel⟩, List.mem_of_getElem? (i := 708) (by decide +kernel), List.mem_of_getElem? (i := 942) (by decide +kernel), List.mem_of_getElem? (i := 943) (by decide +kernel)⟩
def lw_privs_4 : List (MethodName × Nat) := [(⟨"SelfSteerModel", "speeds", "()J"⟩, 21), (⟨"SelfSteerModel", "rangeWithout", "(II)J"⟩, 21), (⟨"SelfSteerModel", "allTheSame", "(II)I"⟩, 21), (⟨"SelfSteerModel", "manySpeeds", "()I"⟩, 21), (⟨"SelfSteerModel", "tries", "(I)V"⟩, 21), (⟨"SelfSteerModel", "spreadOf", "(I)I"⟩, 21), (⟨"SelfSteerModel", "advances", "()V"⟩, 21), (⟨"SelfSteerModel", "byteAt", "(I)I"⟩, 21), (⟨"SelfSteerModel", "isWell", "()Z"⟩, 21), (⟨"SelfSteerModel", "reads", "(Z)I"⟩, 21), (⟨"SelfSteerModel", "sets", "(III)V"⟩, 21), (⟨"SelfSteerModel", "tick", "()V"⟩, 21)]
theorem lw_r4 : ∀ q ∈ lw_privs_4, lw_okq q := List.forall_mem_cons.mpr ⟨lw_p48, List.forall_mem_cons.mpr ⟨lw_p49, List.forall_mem_cons.mpr ⟨lw_p50, List.forall_mem_cons.mpr ⟨lw_p51, List.forall_mem_cons.mpr ⟨lw_p52, List.forall_mem_cons.mpr ⟨lw_p53, List.forall_mem_cons.mpr ⟨lw_p54, List.forall_mem_cons.mpr ⟨lw_p55, List.forall_mem_cons.mpr ⟨lw_p56, List.forall_mem_cons.mpr ⟨lw_p57, List.forall_mem_cons.mpr ⟨lw_p58, List.forall_mem_cons.mpr ⟨lw_p59, fun _ h => absurd h List.not_mem_nil⟩⟩⟩⟩⟩⟩⟩⟩⟩⟩⟩⟩
def lw_privs : List (MethodName × Nat) := lw_privs_1 ++ (lw_privs_2 ++ (lw_privs_3 ++ (lw_privs_4)))
def lw_tbl : List Cond := k2_sels lw_privs ++ tables_1
theorem lw_privs_ok : ∀ q ∈ lw_privs, lw_okq q := by
  show ∀ q ∈ lw_privs_1 ++ (lw_privs_2 ++ (lw_privs_3 ++ (lw_privs_4))), lw_okq q
  exact List.forall_mem_append.mpr ⟨lw_r1, List.forall_mem_append.mpr ⟨lw_r2, List.forall_mem_append.mpr ⟨lw_r3, lw_r4⟩⟩⟩
/-! ===== BEGIN words of one list among another's, by their places ===== -/
theorem goodIn_r {big : List Cond} (ws : List Cond) (ps : List Nat) (hp : ws = ps.filterMap (fun i => big[i]?)) (h : ws.all goodWord = true) : GoodIn big ws := by
  intro w hw
  have h1 := List.all_eq_true.mp h w hw
  rw [hp] at hw
  obtain ⟨i, -, hi⟩ := List.mem_filterMap.mp hw
  have hm : w ∈ big := by first | exact List.mem_of_getElem? hi | exact List.getElem?_mem hi
  exact ⟨hm, good_of_word h1⟩
theorem goodIn_app {big a b : List Cond} (ha : GoodIn big a) (hb : GoodIn big b) : GoodIn big (a ++ b) := fun w h => (List.mem_append.mp h).elim (ha w) (hb w)
theorem goodIn_ca {big a b : List Cond} {c : Cond} (ha : GoodIn big (c :: a)) (hb : GoodIn big b) : GoodIn big (c :: (a ++ b)) := fun w h => (List.mem_cons.mp h).elim (fun e => ha w (List.mem_cons.mpr (Or.inl e))) (fun h => (List.mem_append.mp h).elim (fun h => ha w (List.mem_cons.mpr (Or.inr h))) (hb w))
theorem goodIn_sub {big ws : List Cond} (hm : ∀ w ∈ ws, w ∈ big) (h : ws.all goodWord = true) : GoodIn big ws := fun w hw => ⟨hm w hw, good_of_word (List.all_eq_true.mp h w hw)⟩
/-! ===== END ===== -/

/-! ===== BEGIN printed: names, fields, word lists, decode rows ===== -/
def RX0 : String := "SelfSteer$Bicycle"
def TX0 : u_T := fun k => match k with
  | _ => ("SelfSteer$Bicycle", "numbers", "[I", true)
def tyX0 : Nat → FieldType := fun k => match k with
  | _ => .array .int
abbrev wsX00 : List Cond := u_ws RX0 TX0 1
theorem nmX0 : ∀ a, a < 1 → ∀ b, b < 1 → a ≠ b → (TX0 a).2.1 ≠ (TX0 b).2.1 := by decide +kernel
theorem tyX0_ok : ∀ k, k < 1 → parseFieldDescriptor (TX0 k).2.2.1 = some (tyX0 k) := by decide +kernel
abbrev cX0_init : ByteArray := prog_2_method_1_code
def yX0_init : MethodName := ⟨RX0, "<init>", "()V"⟩
abbrev cX0_valueOf : ByteArray := prog_2_method_2_code
def yX0_valueOf : MethodName := ⟨RX0, "valueOf", "(I)I"⟩
abbrev cX0_put : ByteArray := prog_2_method_3_code
def yX0_put : MethodName := ⟨RX0, "put", "(II)V"⟩
abbrev cX0_copyFrom : ByteArray := prog_2_method_4_code
def yX0_copyFrom : MethodName := ⟨RX0, "copyFrom", "(LSelfSteer$Bicycle;)V"⟩
abbrev cX0_signThree : ByteArray := prog_2_method_5_code
def yX0_signThree : MethodName := ⟨RX0, "signThree", "()J"⟩
abbrev cX0_signTwo : ByteArray := prog_2_method_6_code
def yX0_signTwo : MethodName := ⟨RX0, "signTwo", "(II)J"⟩
abbrev cX0_signOne : ByteArray := prog_2_method_7_code
def yX0_signOne : MethodName := ⟨RX0, "signOne", "(III)J"⟩
abbrev cX0_signZero : ByteArray := prog_2_method_8_code
def yX0_signZero : MethodName := ⟨RX0, "signZero", "(II)J"⟩
abbrev cX0_staysUp : ByteArray := prog_2_method_9_code
def yX0_staysUp : MethodName := ⟨RX0, "staysUp", "(III)Z"⟩
abbrev cX0_speeds : ByteArray := prog_2_method_10_code
def yX0_speeds : MethodName := ⟨RX0, "speeds", "()J"⟩
abbrev cX0_speedCount : ByteArray := prog_2_method_11_code
def yX0_speedCount : MethodName := ⟨RX0, "speedCount", "()I"⟩
def RX1 : String := "SelfSteer$Change"
def TX1 : u_T := fun k => match k with
  | _ => ("SelfSteer$Change", "tried", "LSelfSteer$Bicycle;", true)
def tyX1 : Nat → FieldType := fun k => match k with
  | _ => .object "SelfSteer$Bicycle"
abbrev wsX10 : List Cond := u_ws RX1 TX1 1
theorem nmX1 : ∀ a, a < 1 → ∀ b, b < 1 → a ≠ b → (TX1 a).2.1 ≠ (TX1 b).2.1 := by decide +kernel
theorem tyX1_ok : ∀ k, k < 1 → parseFieldDescriptor (TX1 k).2.2.1 = some (tyX1 k) := by decide +kernel
abbrev cX1_init : ByteArray := prog_3_method_1_code
def yX1_init : MethodName := ⟨RX1, "<init>", "()V"⟩
abbrev cX1_leastWithout : ByteArray := prog_3_method_2_code
def yX1_leastWithout : MethodName := ⟨RX1, "leastWithout", "(LSelfSteer$Bicycle;I)I"⟩
abbrev cX1_valueFound : ByteArray := prog_3_method_3_code
def yX1_valueFound : MethodName := ⟨RX1, "valueFound", "(I)I"⟩
abbrev cX1_findsFrom : ByteArray := prog_3_method_4_code
def yX1_findsFrom : MethodName := ⟨RX1, "findsFrom", "(IILSelfSteer$Bicycle;I)Z"⟩
def RX2 : String := "SelfSteer$Doubt"
def TX2 : u_T := fun k => match k with
  | 0 => ("SelfSteer$Doubt", "tried", "LSelfSteer$Bicycle;", true)
  | 1 => ("SelfSteer$Doubt", "changed", "[I", true)
  | _ => ("SelfSteer$Doubt", "speedCounts", "[I", true)
def tyX2 : Nat → FieldType := fun k => match k with
  | 0 => .object "SelfSteer$Bicycle"
  | 1 => .array .int
  | _ => .array .int
abbrev wsX20 : List Cond := u_ws RX2 TX2 3
theorem nmX2 : ∀ a, a < 3 → ∀ b, b < 3 → a ≠ b → (TX2 a).2.1 ≠ (TX2 b).2.1 := by decide +kernel
theorem tyX2_ok : ∀ k, k < 3 → parseFieldDescriptor (TX2 k).2.2.1 = some (tyX2 k) := by decide +kernel
abbrev cX2_init : ByteArray := prog_4_method_1_code
def yX2_init : MethodName := ⟨RX2, "<init>", "()V"⟩
abbrev cX2_changedIn : ByteArray := prog_4_method_2_code
def yX2_changedIn : MethodName := ⟨RX2, "changedIn", "(I)I"⟩
abbrev cX2_weigh : ByteArray := prog_4_method_3_code
def yX2_weigh : MethodName := ⟨RX2, "weigh", "(LSelfSteer$Bicycle;I)V"⟩
abbrev cX2_mayBe : ByteArray := prog_4_method_4_code
def yX2_mayBe : MethodName := ⟨RX2, "mayBe", "(LSelfSteer$Bicycle;I)Z"⟩
abbrev cX2_spreadOf : ByteArray := prog_4_method_5_code
def yX2_spreadOf : MethodName := ⟨RX2, "spreadOf", "(I)I"⟩
abbrev cX2_fewestFor : ByteArray := prog_4_method_6_code
def yX2_fewestFor : MethodName := ⟨RX2, "fewestFor", "(I)I"⟩
def RX3 : String := "SelfSteer$Habits"
def TX3 : u_T := fun k => match k with
  | 0 => ("SelfSteer$Habits", "values", "[I", true)
  | _ => ("SelfSteer$Habits", "wasWhole", "[Z", true)
def tyX3 : Nat → FieldType := fun k => match k with
  | 0 => .array .int
  | _ => .array .boolean
abbrev wsX30 : List Cond := u_ws RX3 TX3 2
theorem nmX3 : ∀ a, a < 2 → ∀ b, b < 2 → a ≠ b → (TX3 a).2.1 ≠ (TX3 b).2.1 := by decide +kernel
theorem tyX3_ok : ∀ k, k < 2 → parseFieldDescriptor (TX3 k).2.2.1 = some (tyX3 k) := by decide +kernel
abbrev cX3_init : ByteArray := prog_5_method_1_code
def yX3_init : MethodName := ⟨RX3, "<init>", "()V"⟩
abbrev cX3_valueOf : ByteArray := prog_5_method_2_code
def yX3_valueOf : MethodName := ⟨RX3, "valueOf", "(I)I"⟩
abbrev cX3_practise : ByteArray := prog_5_method_3_code
def yX3_practise : MethodName := ⟨RX3, "practise", "(III)V"⟩
abbrev cX3_weeksTillWhole : ByteArray := prog_5_method_4_code
def yX3_weeksTillWhole : MethodName := ⟨RX3, "weeksTillWhole", "(II)I"⟩
abbrev cX3_copyFrom : ByteArray := prog_5_method_5_code
def yX3_copyFrom : MethodName := ⟨RX3, "copyFrom", "(LSelfSteer$Habits;)V"⟩
def RX4 : String := "SelfSteer$Image"
def TX4 : u_T := fun k => match k with
  | 0 => ("SelfSteer$Image", "ride", "LSelfSteer$Ride;", true)
  | 1 => ("SelfSteer$Image", "habits", "LSelfSteer$Habits;", true)
  | _ => ("SelfSteer$Image", "kept", "Z", false)
def tyX4 : Nat → FieldType := fun k => match k with
  | 0 => .object "SelfSteer$Ride"
  | 1 => .object "SelfSteer$Habits"
  | _ => .boolean
abbrev wsX40 : List Cond := u_ws RX4 TX4 3
theorem nmX4 : ∀ a, a < 3 → ∀ b, b < 3 → a ≠ b → (TX4 a).2.1 ≠ (TX4 b).2.1 := by decide +kernel
theorem tyX4_ok : ∀ k, k < 3 → parseFieldDescriptor (TX4 k).2.2.1 = some (tyX4 k) := by decide +kernel
abbrev cX4_init : ByteArray := prog_6_method_1_code
def yX4_init : MethodName := ⟨RX4, "<init>", "()V"⟩
abbrev cX4_take : ByteArray := prog_6_method_2_code
def yX4_take : MethodName := ⟨RX4, "take", "(LSelfSteer$Ride;LSelfSteer$Habits;)V"⟩
abbrev cX4_giveBack : ByteArray := prog_6_method_3_code
def yX4_giveBack : MethodName := ⟨RX4, "giveBack", "(LSelfSteer$Ride;LSelfSteer$Habits;)V"⟩
def RX5 : String := "SelfSteer$Reader"
def TX5 : u_T := fun k => match k with
  | 0 => ("SelfSteer$Reader", "bytes", "[I", false)
  | 1 => ("SelfSteer$Reader", "length", "I", false)
  | 2 => ("SelfSteer$Reader", "place", "I", false)
  | 3 => ("SelfSteer$Reader", "begin", "I", false)
  | 4 => ("SelfSteer$Reader", "token", "I", false)
  | _ => ("SelfSteer$Reader", "value", "I", false)
def tyX5 : Nat → FieldType := fun k => match k with
  | 0 => .array .int
  | 1 => .int
  | 2 => .int
  | 3 => .int
  | 4 => .int
  | _ => .int
abbrev wsX50 : List Cond := u_ws RX5 TX5 6
theorem nmX5 : ∀ a, a < 6 → ∀ b, b < 6 → a ≠ b → (TX5 a).2.1 ≠ (TX5 b).2.1 := by decide +kernel
theorem tyX5_ok : ∀ k, k < 6 → parseFieldDescriptor (TX5 k).2.2.1 = some (tyX5 k) := by decide +kernel
abbrev cX5_init : ByteArray := prog_7_method_1_code
def yX5_init : MethodName := ⟨RX5, "<init>", "()V"⟩
abbrev cX5_faultOf : ByteArray := prog_7_method_2_code
def yX5_faultOf : MethodName := ⟨RX5, "faultOf", "([IILSelfSteer$Rider;)I"⟩
abbrev cX5_readsItem : ByteArray := prog_7_method_3_code
def yX5_readsItem : MethodName := ⟨RX5, "readsItem", "(LSelfSteer$Rider;)Z"⟩
abbrev cX5_next : ByteArray := prog_7_method_4_code
def yX5_next : MethodName := ⟨RX5, "next", "()V"⟩
abbrev cX5_readWord : ByteArray := prog_7_method_5_code
def yX5_readWord : MethodName := ⟨RX5, "readWord", "()V"⟩
abbrev cX5_isWord : ByteArray := prog_7_method_6_code
def yX5_isWord : MethodName := ⟨RX5, "isWord", "(I)Z"⟩
abbrev cX5_readAmount : ByteArray := prog_7_method_7_code
def yX5_readAmount : MethodName := ⟨RX5, "readAmount", "()V"⟩
abbrev cX5_isLetter : ByteArray := prog_7_method_8_code
def yX5_isLetter : MethodName := ⟨RX5, "isLetter", "(I)Z"⟩
abbrev cX5_isDigit : ByteArray := prog_7_method_9_code
def yX5_isDigit : MethodName := ⟨RX5, "isDigit", "(I)Z"⟩
def RX6 : String := "SelfSteer$Ride"
def TX6 : u_T := fun k => match k with
  | 0 => ("SelfSteer$Ride", "bicycle", "I", false)
  | 1 => ("SelfSteer$Ride", "speed", "I", false)
  | 2 => ("SelfSteer$Ride", "reversed", "Z", false)
  | 3 => ("SelfSteer$Ride", "lean", "I", false)
  | 4 => ("SelfSteer$Ride", "bar", "I", false)
  | 5 => ("SelfSteer$Ride", "leanChange", "I", false)
  | 6 => ("SelfSteer$Ride", "barChange", "I", false)
  | 7 => ("SelfSteer$Ride", "hand", "I", false)
  | 8 => ("SelfSteer$Ride", "ticks", "I", false)
  | 9 => ("SelfSteer$Ride", "lies", "Z", false)
  | 10 => ("SelfSteer$Ride", "pastLean", "[I", true)
  | 11 => ("SelfSteer$Ride", "pastLeanChange", "[I", true)
  | _ => ("SelfSteer$Ride", "pastBar", "[I", true)
def tyX6 : Nat → FieldType := fun k => match k with
  | 0 => .int
  | 1 => .int
  | 2 => .boolean
  | 3 => .int
  | 4 => .int
  | 5 => .int
  | 6 => .int
  | 7 => .int
  | 8 => .int
  | 9 => .boolean
  | 10 => .array .int
  | 11 => .array .int
  | _ => .array .int
abbrev wsX60 : List Cond := u_ws RX6 TX6 13
theorem nmX6 : ∀ a, a < 13 → ∀ b, b < 13 → a ≠ b → (TX6 a).2.1 ≠ (TX6 b).2.1 := by decide +kernel
theorem tyX6_ok : ∀ k, k < 13 → parseFieldDescriptor (TX6 k).2.2.1 = some (tyX6 k) := by decide +kernel
abbrev cX6_init : ByteArray := prog_8_method_1_code
def yX6_init : MethodName := ⟨RX6, "<init>", "()V"⟩
abbrev cX6_begin : ByteArray := prog_8_method_2_code
def yX6_begin : MethodName := ⟨RX6, "begin", "(IIZ)V"⟩
abbrev cX6_copyFrom : ByteArray := prog_8_method_3_code
def yX6_copyFrom : MethodName := ⟨RX6, "copyFrom", "(LSelfSteer$Ride;)V"⟩
abbrev cX6_takePush : ByteArray := prog_8_method_4_code
def yX6_takePush : MethodName := ⟨RX6, "takePush", "(I)V"⟩
abbrev cX6_goOn : ByteArray := prog_8_method_5_code
def yX6_goOn : MethodName := ⟨RX6, "goOn", "(ILSelfSteer$Bicycle;LSelfSteer$Rider;)I"⟩
abbrev cX6_doTick : ByteArray := prog_8_method_6_code
def yX6_doTick : MethodName := ⟨RX6, "doTick", "(LSelfSteer$Bicycle;LSelfSteer$Rider;)V"⟩
abbrev cX6_remember : ByteArray := prog_8_method_7_code
def yX6_remember : MethodName := ⟨RX6, "remember", "()V"⟩
abbrev cX6_handOf : ByteArray := prog_8_method_8_code
def yX6_handOf : MethodName := ⟨RX6, "handOf", "(LSelfSteer$Rider;)I"⟩
abbrev cX6_lookWhetherItFalls : ByteArray := prog_8_method_9_code
def yX6_lookWhetherItFalls : MethodName := ⟨RX6, "lookWhetherItFalls", "()V"⟩
def RX7 : String := "SelfSteer$Rider"
def TX7 : u_T := fun k => match k with
  | 0 => ("SelfSteer$Rider", "values", "[I", true)
  | _ => ("SelfSteer$Rider", "toldBits", "I", false)
def tyX7 : Nat → FieldType := fun k => match k with
  | 0 => .array .int
  | _ => .int
abbrev wsX70 : List Cond := u_ws RX7 TX7 2
theorem nmX7 : ∀ a, a < 2 → ∀ b, b < 2 → a ≠ b → (TX7 a).2.1 ≠ (TX7 b).2.1 := by decide +kernel
theorem tyX7_ok : ∀ k, k < 2 → parseFieldDescriptor (TX7 k).2.2.1 = some (tyX7 k) := by decide +kernel
abbrev cX7_init : ByteArray := prog_9_method_1_code
def yX7_init : MethodName := ⟨RX7, "<init>", "()V"⟩
abbrev cX7_forget : ByteArray := prog_9_method_2_code
def yX7_forget : MethodName := ⟨RX7, "forget", "()V"⟩
abbrev cX7_copyFrom : ByteArray := prog_9_method_3_code
def yX7_copyFrom : MethodName := ⟨RX7, "copyFrom", "(LSelfSteer$Rider;)V"⟩
abbrev cX7_wasTold : ByteArray := prog_9_method_4_code
def yX7_wasTold : MethodName := ⟨RX7, "wasTold", "(I)Z"⟩
abbrev cX7_tell : ByteArray := prog_9_method_5_code
def yX7_tell : MethodName := ⟨RX7, "tell", "(II)V"⟩
abbrev cX7_itemCount : ByteArray := prog_9_method_6_code
def yX7_itemCount : MethodName := ⟨RX7, "itemCount", "()I"⟩
def RX8 : String := "SelfSteer"
def TX8 : u_T := fun k => match k with
  | 0 => ("SelfSteer", "bicycles", "[LSelfSteer$Bicycle;", true)
  | 1 => ("SelfSteer", "trial", "LSelfSteer$Bicycle;", true)
  | 2 => ("SelfSteer", "change", "LSelfSteer$Change;", true)
  | 3 => ("SelfSteer", "doubt", "LSelfSteer$Doubt;", true)
  | 4 => ("SelfSteer", "text", "[I", true)
  | 5 => ("SelfSteer", "textLength", "I", false)
  | 6 => ("SelfSteer", "reader", "LSelfSteer$Reader;", true)
  | 7 => ("SelfSteer", "draft", "LSelfSteer$Rider;", true)
  | 8 => ("SelfSteer", "theRider", "LSelfSteer$Rider;", true)
  | 9 => ("SelfSteer", "theRide", "LSelfSteer$Ride;", true)
  | 10 => ("SelfSteer", "trialRide", "LSelfSteer$Ride;", true)
  | 11 => ("SelfSteer", "habits", "LSelfSteer$Habits;", true)
  | 12 => ("SelfSteer", "weekUp", "I", false)
  | 13 => ("SelfSteer", "weekDown", "I", false)
  | 14 => ("SelfSteer", "images", "[LSelfSteer$Image;", true)
  | _ => ("SelfSteer", "traced", "J", false)
def tyX8 : Nat → FieldType := fun k => match k with
  | 0 => .array (.object "SelfSteer$Bicycle")
  | 1 => .object "SelfSteer$Bicycle"
  | 2 => .object "SelfSteer$Change"
  | 3 => .object "SelfSteer$Doubt"
  | 4 => .array .int
  | 5 => .int
  | 6 => .object "SelfSteer$Reader"
  | 7 => .object "SelfSteer$Rider"
  | 8 => .object "SelfSteer$Rider"
  | 9 => .object "SelfSteer$Ride"
  | 10 => .object "SelfSteer$Ride"
  | 11 => .object "SelfSteer$Habits"
  | 12 => .int
  | 13 => .int
  | 14 => .array (.object "SelfSteer$Image")
  | _ => .long
abbrev wsX80 : List Cond := u_ws RX8 TX8 16
theorem nmX8 : ∀ a, a < 16 → ∀ b, b < 16 → a ≠ b → (TX8 a).2.1 ≠ (TX8 b).2.1 := by decide +kernel
theorem tyX8_ok : ∀ k, k < 16 → parseFieldDescriptor (TX8 k).2.2.1 = some (tyX8 k) := by decide +kernel
abbrev cX8_init : ByteArray := prog_1_method_1_code
def yX8_init : MethodName := ⟨RX8, "<init>", "()V"⟩
abbrev cX8_number : ByteArray := prog_1_method_2_code
def yX8_number : MethodName := ⟨RX8, "number", "(III)I"⟩
abbrev cX8_has : ByteArray := prog_1_method_3_code
def yX8_has : MethodName := ⟨RX8, "has", "(II)I"⟩
abbrev cX8_sign : ByteArray := prog_1_method_4_code
def yX8_sign : MethodName := ⟨RX8, "sign", "(IIIII)J"⟩
abbrev cX8_stays : ByteArray := prog_1_method_5_code
def yX8_stays : MethodName := ⟨RX8, "stays", "(IIII)I"⟩
abbrev cX8_range : ByteArray := prog_1_method_6_code
def yX8_range : MethodName := ⟨RX8, "range", "(I)J"⟩
abbrev cX8_without : ByteArray := prog_1_method_7_code
def yX8_without : MethodName := ⟨RX8, "without", "(II)J"⟩
abbrev cX8_reason : ByteArray := prog_1_method_8_code
def yX8_reason : MethodName := ⟨RX8, "reason", "(III)I"⟩
abbrev cX8_moves : ByteArray := prog_1_method_9_code
def yX8_moves : MethodName := ⟨RX8, "moves", "(III)I"⟩
abbrev cX8_grid : ByteArray := prog_1_method_10_code
def yX8_grid : MethodName := ⟨RX8, "grid", "(IIII)I"⟩
abbrev cX8_least : ByteArray := prog_1_method_11_code
def yX8_least : MethodName := ⟨RX8, "least", "(III)I"⟩
abbrev cX8_spread : ByteArray := prog_1_method_12_code
def yX8_spread : MethodName := ⟨RX8, "spread", "(II)I"⟩
abbrev cX8_fewest : ByteArray := prog_1_method_13_code
def yX8_fewest : MethodName := ⟨RX8, "fewest", "(III)I"⟩
abbrev cX8_type : ByteArray := prog_1_method_14_code
def yX8_type : MethodName := ⟨RX8, "type", "(JI)I"⟩
abbrev cX8_clear : ByteArray := prog_1_method_15_code
def yX8_clear : MethodName := ⟨RX8, "clear", "()I"⟩
abbrev cX8_rider : ByteArray := prog_1_method_16_code
def yX8_rider : MethodName := ⟨RX8, "rider", "()I"⟩
abbrev cX8_ride : ByteArray := prog_1_method_17_code
def yX8_ride : MethodName := ⟨RX8, "ride", "(III)I"⟩
abbrev cX8_push : ByteArray := prog_1_method_18_code
def yX8_push : MethodName := ⟨RX8, "push", "(I)I"⟩
abbrev cX8_ticks : ByteArray := prog_1_method_19_code
def yX8_ticks : MethodName := ⟨RX8, "ticks", "(I)I"⟩
abbrev cX8_at : ByteArray := prog_1_method_20_code
def yX8_at : MethodName := ⟨RX8, "at", "(I)I"⟩
abbrev cX8_bears : ByteArray := prog_1_method_21_code
def yX8_bears : MethodName := ⟨RX8, "bears", "(I)I"⟩
abbrev cX8_weeks : ByteArray := prog_1_method_22_code
def yX8_weeks : MethodName := ⟨RX8, "weeks", "(II)I"⟩
abbrev cX8_tune : ByteArray := prog_1_method_23_code
def yX8_tune : MethodName := ⟨RX8, "tune", "(II)I"⟩
abbrev cX8_habit : ByteArray := prog_1_method_24_code
def yX8_habit : MethodName := ⟨RX8, "habit", "(II)I"⟩
abbrev cX8_score : ByteArray := prog_1_method_25_code
def yX8_score : MethodName := ⟨RX8, "score", "(II)I"⟩
abbrev cX8_keep : ByteArray := prog_1_method_26_code
def yX8_keep : MethodName := ⟨RX8, "keep", "(I)I"⟩
abbrev cX8_back : ByteArray := prog_1_method_27_code
def yX8_back : MethodName := ⟨RX8, "back", "(I)I"⟩
abbrev cX8_count : ByteArray := prog_1_method_28_code
def yX8_count : MethodName := ⟨RX8, "count", "(I)I"⟩
abbrev cX8_trace : ByteArray := prog_1_method_29_code
def yX8_trace : MethodName := ⟨RX8, "trace", "()J"⟩
abbrev cX8_askKind : ByteArray := prog_1_method_30_code
def yX8_askKind : MethodName := ⟨RX8, "askKind", "(ILSelfSteer$Bicycle;I)I"⟩
abbrev cX8_speedsWith : ByteArray := prog_1_method_31_code
def yX8_speedsWith : MethodName := ⟨RX8, "speedsWith", "(LSelfSteer$Bicycle;II)J"⟩
abbrev cX8_speedsOfAll : ByteArray := prog_1_method_32_code
def yX8_speedsOfAll : MethodName := ⟨RX8, "speedsOfAll", "()I"⟩
abbrev cX8_within : ByteArray := prog_1_method_33_code
def yX8_within : MethodName := ⟨RX8, "within", "(III)Z"⟩
abbrev cX8_clamp : ByteArray := prog_1_method_34_code
def yX8_clamp : MethodName := ⟨RX8, "clamp", "(II)I"⟩
abbrev cX8_isBicycle : ByteArray := prog_1_method_35_code
def yX8_isBicycle : MethodName := ⟨RX8, "isBicycle", "(I)Z"⟩
abbrev cX8_isNumber : ByteArray := prog_1_method_36_code
def yX8_isNumber : MethodName := ⟨RX8, "isNumber", "(I)Z"⟩
abbrev cX8_isReason : ByteArray := prog_1_method_37_code
def yX8_isReason : MethodName := ⟨RX8, "isReason", "(I)Z"⟩
abbrev cX8_isSpeed : ByteArray := prog_1_method_38_code
def yX8_isSpeed : MethodName := ⟨RX8, "isSpeed", "(I)Z"⟩
abbrev cX8_isHand : ByteArray := prog_1_method_39_code
def yX8_isHand : MethodName := ⟨RX8, "isHand", "(I)Z"⟩
abbrev cX8_isFlag : ByteArray := prog_1_method_40_code
def yX8_isFlag : MethodName := ⟨RX8, "isFlag", "(I)Z"⟩
abbrev cX8_isBar : ByteArray := prog_1_method_41_code
def yX8_isBar : MethodName := ⟨RX8, "isBar", "(I)Z"⟩
abbrev cX8_isImage : ByteArray := prog_1_method_42_code
def yX8_isImage : MethodName := ⟨RX8, "isImage", "(I)Z"⟩
def RX9 : String := "SelfSteerModel"
def TX9 : u_T := fun k => match k with
  | 0 => ("SelfSteerModel", "thrown", "I", false)
  | 1 => ("SelfSteerModel", "trace", "J", false)
  | 2 => ("SelfSteerModel", "numbers", "[I", true)
  | 3 => ("SelfSteerModel", "tried", "[I", true)
  | 4 => ("SelfSteerModel", "s", "[I", true)
  | 5 => ("SelfSteerModel", "kept", "[I", true)
  | 6 => ("SelfSteerModel", "spare", "[I", true)
  | 7 => ("SelfSteerModel", "isKept", "[Z", true)
  | 8 => ("SelfSteerModel", "law", "[I", true)
  | 9 => ("SelfSteerModel", "items", "I", false)
  | 10 => ("SelfSteerModel", "upBy", "I", false)
  | 11 => ("SelfSteerModel", "downBy", "I", false)
  | 12 => ("SelfSteerModel", "text", "[I", true)
  | 13 => ("SelfSteerModel", "typed", "I", false)
  | 14 => ("SelfSteerModel", "next", "I", false)
  | 15 => ("SelfSteerModel", "token", "I", false)
  | 16 => ("SelfSteerModel", "place", "I", false)
  | 17 => ("SelfSteerModel", "value", "I", false)
  | 18 => ("SelfSteerModel", "fault", "I", false)
  | 19 => ("SelfSteerModel", "counts", "[I", true)
  | _ => ("SelfSteerModel", "found", "[I", true)
def tyX9 : Nat → FieldType := fun k => match k with
  | 0 => .int
  | 1 => .long
  | 2 => .array .int
  | 3 => .array .int
  | 4 => .array .int
  | 5 => .array .int
  | 6 => .array .int
  | 7 => .array .boolean
  | 8 => .array .int
  | 9 => .int
  | 10 => .int
  | 11 => .int
  | 12 => .array .int
  | 13 => .int
  | 14 => .int
  | 15 => .int
  | 16 => .int
  | 17 => .int
  | 18 => .int
  | 19 => .array .int
  | _ => .array .int
abbrev wsX90 : List Cond := u_ws RX9 TX9 21
theorem nmX9 : ∀ a, a < 21 → ∀ b, b < 21 → a ≠ b → (TX9 a).2.1 ≠ (TX9 b).2.1 := by decide +kernel
theorem tyX9_ok : ∀ k, k < 21 → parseFieldDescriptor (TX9 k).2.2.1 = some (tyX9 k) := by decide +kernel
abbrev cX9_init : ByteArray := prog_11_method_1_code
def yX9_init : MethodName := ⟨RX9, "<init>", "()V"⟩
abbrev cX9_in : ByteArray := prog_11_method_3_code
def yX9_in : MethodName := ⟨RX9, "in", "(III)Z"⟩
abbrev cX9_isBicycle : ByteArray := prog_11_method_4_code
def yX9_isBicycle : MethodName := ⟨RX9, "isBicycle", "(I)Z"⟩
abbrev cX9_isNumber : ByteArray := prog_11_method_5_code
def yX9_isNumber : MethodName := ⟨RX9, "isNumber", "(I)Z"⟩
abbrev cX9_bottom : ByteArray := prog_11_method_6_code
def yX9_bottom : MethodName := ⟨RX9, "bottom", "(I)I"⟩
abbrev cX9_mayBe : ByteArray := prog_11_method_7_code
def yX9_mayBe : MethodName := ⟨RX9, "mayBe", "(II)Z"⟩
abbrev cX9_number : ByteArray := prog_11_method_8_code
def yX9_number : MethodName := ⟨RX9, "number", "(III)I"⟩
abbrev cX9_has : ByteArray := prog_11_method_9_code
def yX9_has : MethodName := ⟨RX9, "has", "(II)I"⟩
abbrev cX9_takes : ByteArray := prog_11_method_10_code
def yX9_takes : MethodName := ⟨RX9, "takes", "(I)V"⟩
abbrev cX9_signOf : ByteArray := prog_11_method_11_code
def yX9_signOf : MethodName := ⟨RX9, "signOf", "(JJJI)J"⟩
abbrev cX9_isUp : ByteArray := prog_11_method_12_code
def yX9_isUp : MethodName := ⟨RX9, "isUp", "(III)Z"⟩
abbrev cX9_isAsked : ByteArray := prog_11_method_13_code
def yX9_isAsked : MethodName := ⟨RX9, "isAsked", "(IIII)Z"⟩
abbrev cX9_sign : ByteArray := prog_11_method_14_code
def yX9_sign : MethodName := ⟨RX9, "sign", "(IIIII)J"⟩
abbrev cX9_stays : ByteArray := prog_11_method_15_code
def yX9_stays : MethodName := ⟨RX9, "stays", "(IIII)I"⟩
abbrev cX9_speeds : ByteArray := prog_11_method_16_code
def yX9_speeds : MethodName := ⟨RX9, "speeds", "()J"⟩
abbrev cX9_manySpeeds : ByteArray := prog_11_method_17_code
def yX9_manySpeeds : MethodName := ⟨RX9, "manySpeeds", "()I"⟩
abbrev cX9_range : ByteArray := prog_11_method_18_code
def yX9_range : MethodName := ⟨RX9, "range", "(I)J"⟩
abbrev cX9_rangeWithout : ByteArray := prog_11_method_19_code
def yX9_rangeWithout : MethodName := ⟨RX9, "rangeWithout", "(II)J"⟩
abbrev cX9_without : ByteArray := prog_11_method_20_code
def yX9_without : MethodName := ⟨RX9, "without", "(II)J"⟩
abbrev cX9_allTheSame : ByteArray := prog_11_method_21_code
def yX9_allTheSame : MethodName := ⟨RX9, "allTheSame", "(II)I"⟩
abbrev cX9_reason : ByteArray := prog_11_method_22_code
def yX9_reason : MethodName := ⟨RX9, "reason", "(III)I"⟩
abbrev cX9_moves : ByteArray := prog_11_method_23_code
def yX9_moves : MethodName := ⟨RX9, "moves", "(III)I"⟩
abbrev cX9_grid : ByteArray := prog_11_method_24_code
def yX9_grid : MethodName := ⟨RX9, "grid", "(IIII)I"⟩
abbrev cX9_least : ByteArray := prog_11_method_25_code
def yX9_least : MethodName := ⟨RX9, "least", "(III)I"⟩
abbrev cX9_tries : ByteArray := prog_11_method_26_code
def yX9_tries : MethodName := ⟨RX9, "tries", "(I)V"⟩
abbrev cX9_spreadOf : ByteArray := prog_11_method_27_code
def yX9_spreadOf : MethodName := ⟨RX9, "spreadOf", "(I)I"⟩
abbrev cX9_spread : ByteArray := prog_11_method_28_code
def yX9_spread : MethodName := ⟨RX9, "spread", "(II)I"⟩
abbrev cX9_ones : ByteArray := prog_11_method_29_code
def yX9_ones : MethodName := ⟨RX9, "ones", "(I)I"⟩
abbrev cX9_fewest : ByteArray := prog_11_method_30_code
def yX9_fewest : MethodName := ⟨RX9, "fewest", "(III)I"⟩
abbrev cX9_type : ByteArray := prog_11_method_31_code
def yX9_type : MethodName := ⟨RX9, "type", "(JI)I"⟩
abbrev cX9_clear : ByteArray := prog_11_method_32_code
def yX9_clear : MethodName := ⟨RX9, "clear", "()I"⟩
abbrev cX9_byteAt : ByteArray := prog_11_method_33_code
def yX9_byteAt : MethodName := ⟨RX9, "byteAt", "(I)I"⟩
abbrev cX9_word : ByteArray := prog_11_method_34_code
def yX9_word : MethodName := ⟨RX9, "word", "(IIII)J"⟩
abbrev cX9_wordOf : ByteArray := prog_11_method_35_code
def yX9_wordOf : MethodName := ⟨RX9, "wordOf", "(J)I"⟩
abbrev cX9_advances : ByteArray := prog_11_method_36_code
def yX9_advances : MethodName := ⟨RX9, "advances", "()V"⟩
abbrev cX9_isWell : ByteArray := prog_11_method_37_code
def yX9_isWell : MethodName := ⟨RX9, "isWell", "()Z"⟩
abbrev cX9_reads : ByteArray := prog_11_method_38_code
def yX9_reads : MethodName := ⟨RX9, "reads", "(Z)I"⟩
abbrev cX9_rider : ByteArray := prog_11_method_39_code
def yX9_rider : MethodName := ⟨RX9, "rider", "()I"⟩
abbrev cX9_sets : ByteArray := prog_11_method_40_code
def yX9_sets : MethodName := ⟨RX9, "sets", "(III)V"⟩
abbrev cX9_ride : ByteArray := prog_11_method_41_code
def yX9_ride : MethodName := ⟨RX9, "ride", "(III)I"⟩
abbrev cX9_push : ByteArray := prog_11_method_42_code
def yX9_push : MethodName := ⟨RX9, "push", "(I)I"⟩
abbrev cX9_within : ByteArray := prog_11_method_43_code
def yX9_within : MethodName := ⟨RX9, "within", "(II)I"⟩
abbrev cX9_tick : ByteArray := prog_11_method_44_code
def yX9_tick : MethodName := ⟨RX9, "tick", "()V"⟩
abbrev cX9_ticks : ByteArray := prog_11_method_45_code
def yX9_ticks : MethodName := ⟨RX9, "ticks", "(I)I"⟩
abbrev cX9_at : ByteArray := prog_11_method_46_code
def yX9_at : MethodName := ⟨RX9, "at", "(I)I"⟩
abbrev cX9_bears : ByteArray := prog_11_method_47_code
def yX9_bears : MethodName := ⟨RX9, "bears", "(I)I"⟩
abbrev cX9_weeks : ByteArray := prog_11_method_48_code
def yX9_weeks : MethodName := ⟨RX9, "weeks", "(II)I"⟩
abbrev cX9_tune : ByteArray := prog_11_method_49_code
def yX9_tune : MethodName := ⟨RX9, "tune", "(II)I"⟩
abbrev cX9_habit : ByteArray := prog_11_method_50_code
def yX9_habit : MethodName := ⟨RX9, "habit", "(II)I"⟩
abbrev cX9_many : ByteArray := prog_11_method_51_code
def yX9_many : MethodName := ⟨RX9, "many", "(J)I"⟩
abbrev cX9_score : ByteArray := prog_11_method_52_code
def yX9_score : MethodName := ⟨RX9, "score", "(II)I"⟩
abbrev cX9_keep : ByteArray := prog_11_method_53_code
def yX9_keep : MethodName := ⟨RX9, "keep", "(I)I"⟩
abbrev cX9_back : ByteArray := prog_11_method_54_code
def yX9_back : MethodName := ⟨RX9, "back", "(I)I"⟩
abbrev cX9_count : ByteArray := prog_11_method_55_code
def yX9_count : MethodName := ⟨RX9, "count", "(I)I"⟩
abbrev cX9_trace : ByteArray := prog_11_method_56_code
def yX9_trace : MethodName := ⟨RX9, "trace", "()J"⟩
def RJ6 : String := "java/lang/Integer"
def TJ6 : u_T := fun k => match k with
  | _ => ("", "", "", false)
def tyJ6 : Nat → FieldType := fun k => match k with
  | _ => .int
abbrev wsJ60 : List Cond := u_ws RJ6 TJ6 0
theorem nmJ6 : ∀ a, a < 0 → ∀ b, b < 0 → a ≠ b → (TJ6 a).2.1 ≠ (TJ6 b).2.1 := by decide +kernel
theorem tyJ6_ok : ∀ k, k < 0 → parseFieldDescriptor (TJ6 k).2.2.1 = some (tyJ6 k) := by decide +kernel
abbrev cJ6_bitCount_0f7a4 : ByteArray := prog_12_method_49_code
def yJ6_bitCount_0f7a4 : MethodName := ⟨RJ6, "bitCount", "(I)I"⟩
def RJ13 : String := "java/lang/Long"
def TJ13 : u_T := fun k => match k with
  | _ => ("", "", "", false)
def tyJ13 : Nat → FieldType := fun k => match k with
  | _ => .int
abbrev wsJ130 : List Cond := u_ws RJ13 TJ13 0
theorem nmJ13 : ∀ a, a < 0 → ∀ b, b < 0 → a ≠ b → (TJ13 a).2.1 ≠ (TJ13 b).2.1 := by decide +kernel
theorem tyJ13_ok : ∀ k, k < 0 → parseFieldDescriptor (TJ13 k).2.2.1 = some (tyJ13 k) := by decide +kernel
abbrev cJ13_bitCount_95d88 : ByteArray := prog_13_method_50_code
def yJ13_bitCount_95d88 : MethodName := ⟨RJ13, "bitCount", "(J)I"⟩
def RJ9 : String := "java/lang/Math"
def TJ9 : u_T := fun k => match k with
  | _ => ("", "", "", false)
def tyJ9 : Nat → FieldType := fun k => match k with
  | _ => .int
abbrev wsJ90 : List Cond := u_ws RJ9 TJ9 0
theorem nmJ9 : ∀ a, a < 0 → ∀ b, b < 0 → a ≠ b → (TJ9 a).2.1 ≠ (TJ9 b).2.1 := by decide +kernel
theorem tyJ9_ok : ∀ k, k < 0 → parseFieldDescriptor (TJ9 k).2.2.1 = some (tyJ9 k) := by decide +kernel
abbrev cJ9_floorMod_7cf53 : ByteArray := prog_14_method_50_code
def yJ9_floorMod_7cf53 : MethodName := ⟨RJ9, "floorMod", "(II)I"⟩
abbrev cJ9_abs_0f7a4 : ByteArray := prog_14_method_59_code
def yJ9_abs_0f7a4 : MethodName := ⟨RJ9, "abs", "(I)I"⟩
abbrev cJ9_max_7cf53 : ByteArray := prog_14_method_65_code
def yJ9_max_7cf53 : MethodName := ⟨RJ9, "max", "(II)I"⟩
abbrev cJ9_min_7cf53 : ByteArray := prog_14_method_69_code
def yJ9_min_7cf53 : MethodName := ⟨RJ9, "min", "(II)I"⟩
def RJ0 : String := "java/lang/String"
def TJ0 : u_T := fun k => match k with
  | _ => ("", "", "", false)
def tyJ0 : Nat → FieldType := fun k => match k with
  | _ => .int
abbrev wsJ00 : List Cond := u_ws RJ0 TJ0 0
theorem nmJ0 : ∀ a, a < 0 → ∀ b, b < 0 → a ≠ b → (TJ0 a).2.1 ≠ (TJ0 b).2.1 := by decide +kernel
theorem tyJ0_ok : ∀ k, k < 0 → parseFieldDescriptor (TJ0 k).2.2.1 = some (tyJ0 k) := by decide +kernel
abbrev cJ0_charAt_5068e : ByteArray := prog_15_method_56_code
def yJ0_charAt_5068e : MethodName := ⟨RJ0, "charAt", "(I)C"⟩
abbrev cJ0_isLatin1_aae02 : ByteArray := prog_15_method_154_code
def yJ0_isLatin1_aae02 : MethodName := ⟨RJ0, "isLatin1", "()Z"⟩
abbrev cJ0_checkIndex_df160 : ByteArray := prog_15_method_155_code
def yJ0_checkIndex_df160 : MethodName := ⟨RJ0, "checkIndex", "(II)V"⟩
def RJ1 : String := "java/lang/StringLatin1"
def TJ1 : u_T := fun k => match k with
  | _ => ("", "", "", false)
def tyJ1 : Nat → FieldType := fun k => match k with
  | _ => .int
abbrev wsJ10 : List Cond := u_ws RJ1 TJ1 0
theorem nmJ1 : ∀ a, a < 0 → ∀ b, b < 0 → a ≠ b → (TJ1 a).2.1 ≠ (TJ1 b).2.1 := by decide +kernel
theorem tyJ1_ok : ∀ k, k < 0 → parseFieldDescriptor (TJ1 k).2.2.1 = some (tyJ1 k) := by decide +kernel
abbrev cJ1_charAt_3b067 : ByteArray := prog_16_method_2_code
def yJ1_charAt_3b067 : MethodName := ⟨RJ1, "charAt", "([BI)C"⟩
def RJ2 : String := "java/lang/StringUTF16"
def TJ2 : u_T := fun k => match k with
  | _ => ("", "", "", false)
def tyJ2 : Nat → FieldType := fun k => match k with
  | _ => .int
abbrev wsJ20 : List Cond := u_ws RJ2 TJ2 0
theorem nmJ2 : ∀ a, a < 0 → ∀ b, b < 0 → a ≠ b → (TJ2 a).2.1 ≠ (TJ2 b).2.1 := by decide +kernel
theorem tyJ2_ok : ∀ k, k < 0 → parseFieldDescriptor (TJ2 k).2.2.1 = some (tyJ2 k) := by decide +kernel
abbrev cJ2_getChar_3b067 : ByteArray := prog_17_method_5_code
def yJ2_getChar_3b067 : MethodName := ⟨RJ2, "getChar", "([BI)C"⟩
abbrev cJ2_length_9d52b : ByteArray := prog_17_method_6_code
def yJ2_length_9d52b : MethodName := ⟨RJ2, "length", "([B)I"⟩
abbrev cJ2_charAt_3b067 : ByteArray := prog_17_method_83_code
def yJ2_charAt_3b067 : MethodName := ⟨RJ2, "charAt", "([BI)C"⟩
abbrev cJ2_checkIndex_2214a : ByteArray := prog_17_method_91_code
def yJ2_checkIndex_2214a : MethodName := ⟨RJ2, "checkIndex", "(I[B)V"⟩
def RJ10 : String := "java/lang/System"
def TJ10 : u_T := fun k => match k with
  | _ => ("", "", "", false)
def tyJ10 : Nat → FieldType := fun k => match k with
  | _ => .int
abbrev wsJ100 : List Cond := u_ws RJ10 TJ10 0
theorem nmJ10 : ∀ a, a < 0 → ∀ b, b < 0 → a ≠ b → (TJ10 a).2.1 ≠ (TJ10 b).2.1 := by decide +kernel
theorem tyJ10_ok : ∀ k, k < 0 → parseFieldDescriptor (TJ10 k).2.2.1 = some (tyJ10 k) := by decide +kernel
def RJ3 : String := "jdk/internal/util/Preconditions"
def TJ3 : u_T := fun k => match k with
  | _ => ("", "", "", false)
def tyJ3 : Nat → FieldType := fun k => match k with
  | _ => .int
abbrev wsJ30 : List Cond := u_ws RJ3 TJ3 0
theorem nmJ3 : ∀ a, a < 0 → ∀ b, b < 0 → a ≠ b → (TJ3 a).2.1 ≠ (TJ3 b).2.1 := by decide +kernel
theorem tyJ3_ok : ∀ k, k < 0 → parseFieldDescriptor (TJ3 k).2.2.1 = some (tyJ3 k) := by decide +kernel
abbrev cJ3_checkIndex_8e157 : ByteArray := prog_19_method_11_code
def yJ3_checkIndex_8e157 : MethodName := ⟨RJ3, "checkIndex", "(IILjava/util/function/BiFunction;)I"⟩
def RL : String := "SelfSteerLaw"
abbrev cL_law : ByteArray := code
def yL_law : MethodName := ⟨RL, "law", "([I)Z"⟩
def wsX0_init : List Cond := .code yX0_init cX0_init 1 none :: ([.methodLink RX0 3 objectInit, .instanceMethod objectInit, .code objectInit ⟨#[0xb1]⟩ 1 none, .arrayClass .int, .fieldLink RX0 9 "SelfSteer$Bicycle" "numbers" "[I", .methodLink RX0 18 arraycopyName, .native arraycopyName, .static arraycopyName, .initialized "java/lang/System"] ++ wsX00)
def wsX8_within : List Cond := .code yX8_within cX8_within 3 (some .boolean) :: ([])
def wsX8_isNumber : List Cond := .code yX8_isNumber cX8_isNumber 1 (some .boolean) :: ([.methodLink RX8 106 yX8_within, .static yX8_within, .initialized RX8, .code yX8_within cX8_within 3 (some .boolean)])
def wsX0_valueOf : List Cond := .code yX0_valueOf cX0_valueOf 2 (some .int) :: ([.fieldLink RX0 9 "SelfSteer$Bicycle" "numbers" "[I", .static yX8_isNumber, .initialized RX8, .code yX8_isNumber cX8_isNumber 1 (some .boolean), .methodLink RX8 106 yX8_within, .static yX8_within, .code yX8_within cX8_within 3 (some .boolean)] ++ wsX00)
def wsX0_put : List Cond := .code yX0_put cX0_put 3 none :: ([.fieldLink RX0 9 "SelfSteer$Bicycle" "numbers" "[I", .static yX8_isNumber, .initialized RX8, .code yX8_isNumber cX8_isNumber 1 (some .boolean), .methodLink RX8 106 yX8_within, .static yX8_within, .code yX8_within cX8_within 3 (some .boolean)] ++ wsX00)
def wsX0_copyFrom : List Cond := .code yX0_copyFrom cX0_copyFrom 2 none :: ([.fieldLink RX0 9 "SelfSteer$Bicycle" "numbers" "[I", .methodLink RX0 18 arraycopyName, .native arraycopyName, .static arraycopyName, .initialized "java/lang/System"] ++ wsX00)
def wsX0_signThree : List Cond := .code yX0_signThree cX0_signThree 1 (some .long) :: ([.constantLong RX0 28 (100), .fieldLink RX0 9 "SelfSteer$Bicycle" "numbers" "[I"] ++ wsX00)
def wsX0_signTwo : List Cond := .code yX0_signTwo cX0_signTwo 5 (some .long) :: ([.fieldLink RX0 9 "SelfSteer$Bicycle" "numbers" "[I", .constantLong RX0 30 (10), .constantLong RX0 28 (100)] ++ wsX00)
def wsX0_signOne : List Cond := .code yX0_signOne cX0_signOne 8 (some .long) :: ([.fieldLink RX0 9 "SelfSteer$Bicycle" "numbers" "[I", .constantLong RX0 30 (10), .constantLong RX0 28 (100)] ++ wsX00)
def wsX0_signZero : List Cond := .code yX0_signZero cX0_signZero 5 (some .long) :: ([.constantLong RX0 28 (100), .fieldLink RX0 9 "SelfSteer$Bicycle" "numbers" "[I", .constantLong RX0 30 (10)] ++ wsX00)
def wsX0_staysUp : List Cond := .code yX0_staysUp cX0_staysUp 12 (some .boolean) :: ([.constantLong RX0 28 (100), .fieldLink RX0 9 "SelfSteer$Bicycle" "numbers" "[I", .methodLink RX0 32 yX0_signZero, .instanceMethod yX0_signZero, .selects RX0 yX0_signZero yX0_signZero, .initialized RX0, .code yX0_signZero cX0_signZero 5 (some .long), .constantLong RX0 30 (10), .methodLink RX0 36 yX0_signTwo, .instanceMethod yX0_signTwo, .selects RX0 yX0_signTwo yX0_signTwo, .code yX0_signTwo cX0_signTwo 5 (some .long), .methodLink RX0 39 yX0_signOne, .instanceMethod yX0_signOne, .selects RX0 yX0_signOne yX0_signOne, .code yX0_signOne cX0_signOne 8 (some .long), .methodLink RX0 43 yX0_signThree, .instanceMethod yX0_signThree, .selects RX0 yX0_signThree yX0_signThree, .code yX0_signThree cX0_signThree 1 (some .long)] ++ wsX00)
def wsX0_speeds : List Cond := .code yX0_speeds cX0_speeds 4 (some .long) :: ([.fieldLink RX0 9 "SelfSteer$Bicycle" "numbers" "[I", .methodLink RX0 43 yX0_signThree, .instanceMethod yX0_signThree, .selects RX0 yX0_signThree yX0_signThree, .initialized RX0, .code yX0_signThree cX0_signThree 1 (some .long), .constantLong RX0 28 (100), .methodLink RX0 32 yX0_signZero, .instanceMethod yX0_signZero, .selects RX0 yX0_signZero yX0_signZero, .code yX0_signZero cX0_signZero 5 (some .long), .constantLong RX0 30 (10), .methodLink RX0 47 yX0_staysUp, .instanceMethod yX0_staysUp, .selects RX0 yX0_staysUp yX0_staysUp, .code yX0_staysUp cX0_staysUp 12 (some .boolean), .methodLink RX0 36 yX0_signTwo, .instanceMethod yX0_signTwo, .selects RX0 yX0_signTwo yX0_signTwo, .code yX0_signTwo cX0_signTwo 5 (some .long), .methodLink RX0 39 yX0_signOne, .instanceMethod yX0_signOne, .selects RX0 yX0_signOne yX0_signOne, .code yX0_signOne cX0_signOne 8 (some .long)] ++ wsX00)
def wsJ13_bitCount_95d88 : List Cond := .code yJ13_bitCount_95d88 cJ13_bitCount_95d88 2 (some .int) :: ([.constantLong RJ13 314 (6148914691236517205), .constantLong RJ13 316 (3689348814741910323), .constantLong RJ13 318 (1085102592571150095)])
def wsX0_speedCount_r1 : List Cond := [Cond.methodLink RX0 51 yX0_speeds, Cond.instanceMethod yX0_speeds, Cond.selects RX0 yX0_speeds yX0_speeds, Cond.initialized RX0, Cond.code yX0_speeds cX0_speeds 4 (some .long), Cond.fieldLink RX0 9 "SelfSteer$Bicycle" "numbers" "[I", Cond.methodLink RX0 43 yX0_signThree, Cond.instanceMethod yX0_signThree, Cond.selects RX0 yX0_signThree yX0_signThree, Cond.code yX0_signThree cX0_signThree 1 (some .long), Cond.constantLong RX0 28 (100), Cond.methodLink RX0 32 yX0_signZero, Cond.instanceMethod yX0_signZero, Cond.selects RX0 yX0_signZero yX0_signZero, Cond.code yX0_signZero cX0_signZero 5 (some .long), Cond.constantLong RX0 30 (10), Cond.methodLink RX0 47 yX0_staysUp, Cond.instanceMethod yX0_staysUp, Cond.selects RX0 yX0_staysUp yX0_staysUp, Cond.code yX0_staysUp cX0_staysUp 12 (some .boolean), Cond.methodLink RX0 36 yX0_signTwo, Cond.instanceMethod yX0_signTwo, Cond.selects RX0 yX0_signTwo yX0_signTwo, Cond.code yX0_signTwo cX0_signTwo 5 (some .long)]
def wsX0_speedCount_r2 : List Cond := [Cond.methodLink RX0 39 yX0_signOne, Cond.instanceMethod yX0_signOne, Cond.selects RX0 yX0_signOne yX0_signOne, Cond.code yX0_signOne cX0_signOne 8 (some .long), Cond.methodLink RX0 54 yJ13_bitCount_95d88, Cond.static yJ13_bitCount_95d88, Cond.initialized RJ13, Cond.code yJ13_bitCount_95d88 cJ13_bitCount_95d88 2 (some .int), Cond.constantLong RJ13 314 (6148914691236517205), Cond.constantLong RJ13 316 (3689348814741910323), Cond.constantLong RJ13 318 (1085102592571150095)]
def wsX0_speedCount : List Cond := .code yX0_speedCount cX0_speedCount 1 (some .int) :: ((wsX0_speedCount_r1 ++ wsX0_speedCount_r2) ++ wsX00)
def wsX1_init : List Cond := .code yX1_init cX1_init 1 none :: ([.methodLink RX1 3 objectInit, .instanceMethod objectInit, .code objectInit ⟨#[0xb1]⟩ 1 none, .classLink RX1 9 RX0, .instantiable RX0 1, .initialized RX0, .fieldLink RX1 12 "SelfSteer$Change" "tried" "LSelfSteer$Bicycle;", .instanceMethod yX0_init, .code yX0_init cX0_init 1 none, .methodLink RX0 3 objectInit, .arrayClass .int, .fieldLink RX0 9 "SelfSteer$Bicycle" "numbers" "[I", .methodLink RX0 18 arraycopyName, .native arraycopyName, .static arraycopyName, .initialized "java/lang/System"] ++ wsX00 ++ wsX10)
def wsX1_findsFrom_r1 : List Cond := [Cond.fieldLink RX1 12 "SelfSteer$Change" "tried" "LSelfSteer$Bicycle;", Cond.methodLink RX1 38 Lib.Math.min.name, Cond.static Lib.Math.min.name, Cond.initialized "java/lang/Math", Cond.code Lib.Math.min.name Lib.Math.min.code 2 (some .int), Cond.methodLink RX1 47 Lib.Math.max.name, Cond.static Lib.Math.max.name, Cond.code Lib.Math.max.name Lib.Math.max.code 2 (some .int), Cond.methodLink RX1 50 Lib.Math.abs.name, Cond.static Lib.Math.abs.name, Cond.code Lib.Math.abs.name Lib.Math.abs.code 1 (some .int), Cond.instanceMethod yX0_speeds, Cond.initialized RX0, Cond.selects RX0 yX0_speeds yX0_speeds, Cond.code yX0_speeds cX0_speeds 4 (some .long), Cond.fieldLink RX0 9 "SelfSteer$Bicycle" "numbers" "[I", Cond.methodLink RX0 43 yX0_signThree, Cond.instanceMethod yX0_signThree, Cond.selects RX0 yX0_signThree yX0_signThree, Cond.code yX0_signThree cX0_signThree 1 (some .long), Cond.constantLong RX0 28 (100), Cond.methodLink RX0 32 yX0_signZero, Cond.instanceMethod yX0_signZero, Cond.selects RX0 yX0_signZero yX0_signZero]
def wsX1_findsFrom_r2 : List Cond := [Cond.code yX0_signZero cX0_signZero 5 (some .long), Cond.constantLong RX0 30 (10), Cond.methodLink RX0 47 yX0_staysUp, Cond.instanceMethod yX0_staysUp, Cond.selects RX0 yX0_staysUp yX0_staysUp, Cond.code yX0_staysUp cX0_staysUp 12 (some .boolean), Cond.methodLink RX0 36 yX0_signTwo, Cond.instanceMethod yX0_signTwo, Cond.selects RX0 yX0_signTwo yX0_signTwo, Cond.code yX0_signTwo cX0_signTwo 5 (some .long), Cond.methodLink RX0 39 yX0_signOne, Cond.instanceMethod yX0_signOne, Cond.selects RX0 yX0_signOne yX0_signOne, Cond.code yX0_signOne cX0_signOne 8 (some .long), Cond.instanceMethod yX0_put, Cond.selects RX0 yX0_put yX0_put, Cond.code yX0_put cX0_put 3 none, Cond.static yX8_isNumber, Cond.initialized RX8, Cond.code yX8_isNumber cX8_isNumber 1 (some .boolean), Cond.methodLink RX8 106 yX8_within, Cond.static yX8_within, Cond.code yX8_within cX8_within 3 (some .boolean), Cond.methodLink RX1 18 yX1_findsFrom]
def wsX1_findsFrom_r3 : List Cond := [Cond.instanceMethod yX1_findsFrom, Cond.selects RX1 yX1_findsFrom yX1_findsFrom, Cond.initialized RX1, Cond.instanceMethod yX0_valueOf, Cond.selects RX0 yX0_valueOf yX0_valueOf, Cond.code yX0_valueOf cX0_valueOf 2 (some .int)]
def wsX1_findsFrom : List Cond := .code yX1_findsFrom cX1_findsFrom 8 (some .boolean) :: ((wsX1_findsFrom_r1 ++ (wsX1_findsFrom_r2 ++ wsX1_findsFrom_r3)) ++ wsX10 ++ wsX00)
def wsX1_leastWithout_r1 : List Cond := [Cond.methodLink RX1 18 yX1_findsFrom, Cond.instanceMethod yX1_findsFrom, Cond.selects RX1 yX1_findsFrom yX1_findsFrom, Cond.initialized RX1, Cond.code yX1_findsFrom cX1_findsFrom 8 (some .boolean), Cond.fieldLink RX1 12 "SelfSteer$Change" "tried" "LSelfSteer$Bicycle;", Cond.methodLink RX1 38 Lib.Math.min.name, Cond.static Lib.Math.min.name, Cond.initialized "java/lang/Math", Cond.code Lib.Math.min.name Lib.Math.min.code 2 (some .int), Cond.methodLink RX1 47 Lib.Math.max.name, Cond.static Lib.Math.max.name, Cond.code Lib.Math.max.name Lib.Math.max.code 2 (some .int), Cond.methodLink RX1 50 Lib.Math.abs.name, Cond.static Lib.Math.abs.name, Cond.code Lib.Math.abs.name Lib.Math.abs.code 1 (some .int), Cond.instanceMethod yX0_speeds, Cond.initialized RX0, Cond.selects RX0 yX0_speeds yX0_speeds, Cond.code yX0_speeds cX0_speeds 4 (some .long), Cond.fieldLink RX0 9 "SelfSteer$Bicycle" "numbers" "[I", Cond.methodLink RX0 43 yX0_signThree, Cond.instanceMethod yX0_signThree, Cond.selects RX0 yX0_signThree yX0_signThree]
def wsX1_leastWithout_r2 : List Cond := [Cond.code yX0_signThree cX0_signThree 1 (some .long), Cond.constantLong RX0 28 (100), Cond.methodLink RX0 32 yX0_signZero, Cond.instanceMethod yX0_signZero, Cond.selects RX0 yX0_signZero yX0_signZero, Cond.code yX0_signZero cX0_signZero 5 (some .long), Cond.constantLong RX0 30 (10), Cond.methodLink RX0 47 yX0_staysUp, Cond.instanceMethod yX0_staysUp, Cond.selects RX0 yX0_staysUp yX0_staysUp, Cond.code yX0_staysUp cX0_staysUp 12 (some .boolean), Cond.methodLink RX0 36 yX0_signTwo, Cond.instanceMethod yX0_signTwo, Cond.selects RX0 yX0_signTwo yX0_signTwo, Cond.code yX0_signTwo cX0_signTwo 5 (some .long), Cond.methodLink RX0 39 yX0_signOne, Cond.instanceMethod yX0_signOne, Cond.selects RX0 yX0_signOne yX0_signOne, Cond.code yX0_signOne cX0_signOne 8 (some .long), Cond.instanceMethod yX0_put, Cond.selects RX0 yX0_put yX0_put, Cond.code yX0_put cX0_put 3 none, Cond.static yX8_isNumber, Cond.initialized RX8]
def wsX1_leastWithout_r3 : List Cond := [Cond.code yX8_isNumber cX8_isNumber 1 (some .boolean), Cond.methodLink RX8 106 yX8_within, Cond.static yX8_within, Cond.code yX8_within cX8_within 3 (some .boolean), Cond.instanceMethod yX0_valueOf, Cond.selects RX0 yX0_valueOf yX0_valueOf, Cond.code yX0_valueOf cX0_valueOf 2 (some .int)]
def wsX1_leastWithout : List Cond := .code yX1_leastWithout cX1_leastWithout 4 (some .int) :: ((wsX1_leastWithout_r1 ++ (wsX1_leastWithout_r2 ++ wsX1_leastWithout_r3)) ++ wsX10 ++ wsX00)
def wsX1_valueFound : List Cond := .code yX1_valueFound cX1_valueFound 2 (some .int) :: ([.fieldLink RX1 12 "SelfSteer$Change" "tried" "LSelfSteer$Bicycle;", .instanceMethod yX0_valueOf, .initialized RX0, .selects RX0 yX0_valueOf yX0_valueOf, .code yX0_valueOf cX0_valueOf 2 (some .int), .fieldLink RX0 9 "SelfSteer$Bicycle" "numbers" "[I", .static yX8_isNumber, .initialized RX8, .code yX8_isNumber cX8_isNumber 1 (some .boolean), .methodLink RX8 106 yX8_within, .static yX8_within, .code yX8_within cX8_within 3 (some .boolean)] ++ wsX10 ++ wsX00)
def wsX2_changedIn : List Cond := .code yX2_changedIn cX2_changedIn 4 (some .int) :: ([])
def wsX2_init : List Cond := .code yX2_init cX2_init 2 none :: ([.methodLink RX2 3 objectInit, .instanceMethod objectInit, .code objectInit ⟨#[0xb1]⟩ 1 none, .classLink RX2 9 RX0, .instantiable RX0 1, .initialized RX0, .fieldLink RX2 12 "SelfSteer$Doubt" "tried" "LSelfSteer$Bicycle;", .arrayClass .int, .fieldLink RX2 18 "SelfSteer$Doubt" "changed" "[I", .fieldLink RX2 22 "SelfSteer$Doubt" "speedCounts" "[I", .instanceMethod yX0_init, .code yX0_init cX0_init 1 none, .methodLink RX0 3 objectInit, .fieldLink RX0 9 "SelfSteer$Bicycle" "numbers" "[I", .methodLink RX0 18 arraycopyName, .native arraycopyName, .static arraycopyName, .initialized "java/lang/System", .methodLink RX2 25 yX2_changedIn, .static yX2_changedIn, .initialized RX2, .code yX2_changedIn cX2_changedIn 4 (some .int)] ++ wsX00 ++ wsX20)
def wsX2_mayBe : List Cond := .code yX2_mayBe cX2_mayBe 7 (some .boolean) :: ([.fieldLink RX2 12 "SelfSteer$Doubt" "tried" "LSelfSteer$Bicycle;", .instanceMethod yX0_valueOf, .initialized RX0, .selects RX0 yX0_valueOf yX0_valueOf, .code yX0_valueOf cX0_valueOf 2 (some .int), .fieldLink RX0 9 "SelfSteer$Bicycle" "numbers" "[I", .static yX8_isNumber, .initialized RX8, .code yX8_isNumber cX8_isNumber 1 (some .boolean), .methodLink RX8 106 yX8_within, .static yX8_within, .code yX8_within cX8_within 3 (some .boolean), .instanceMethod yX0_put, .selects RX0 yX0_put yX0_put, .code yX0_put cX0_put 3 none] ++ wsX20 ++ wsX00)
def wsX2_weigh_r1 : List Cond := [Cond.fieldLink RX2 18 "SelfSteer$Doubt" "changed" "[I", Cond.fieldLink RX2 22 "SelfSteer$Doubt" "speedCounts" "[I", Cond.fieldLink RX2 12 "SelfSteer$Doubt" "tried" "LSelfSteer$Bicycle;", Cond.methodLink RX2 29 yX2_mayBe, Cond.instanceMethod yX2_mayBe, Cond.selects RX2 yX2_mayBe yX2_mayBe, Cond.initialized RX2, Cond.code yX2_mayBe cX2_mayBe 7 (some .boolean), Cond.instanceMethod yX0_valueOf, Cond.initialized RX0, Cond.selects RX0 yX0_valueOf yX0_valueOf, Cond.code yX0_valueOf cX0_valueOf 2 (some .int), Cond.fieldLink RX0 9 "SelfSteer$Bicycle" "numbers" "[I", Cond.static yX8_isNumber, Cond.initialized RX8, Cond.code yX8_isNumber cX8_isNumber 1 (some .boolean), Cond.methodLink RX8 106 yX8_within, Cond.static yX8_within, Cond.code yX8_within cX8_within 3 (some .boolean), Cond.instanceMethod yX0_put, Cond.selects RX0 yX0_put yX0_put, Cond.code yX0_put cX0_put 3 none, Cond.instanceMethod yX0_speedCount, Cond.selects RX0 yX0_speedCount yX0_speedCount]
def wsX2_weigh_r2 : List Cond := [Cond.code yX0_speedCount cX0_speedCount 1 (some .int), Cond.methodLink RX0 51 yX0_speeds, Cond.instanceMethod yX0_speeds, Cond.selects RX0 yX0_speeds yX0_speeds, Cond.code yX0_speeds cX0_speeds 4 (some .long), Cond.methodLink RX0 43 yX0_signThree, Cond.instanceMethod yX0_signThree, Cond.selects RX0 yX0_signThree yX0_signThree, Cond.code yX0_signThree cX0_signThree 1 (some .long), Cond.constantLong RX0 28 (100), Cond.methodLink RX0 32 yX0_signZero, Cond.instanceMethod yX0_signZero, Cond.selects RX0 yX0_signZero yX0_signZero, Cond.code yX0_signZero cX0_signZero 5 (some .long), Cond.constantLong RX0 30 (10), Cond.methodLink RX0 47 yX0_staysUp, Cond.instanceMethod yX0_staysUp, Cond.selects RX0 yX0_staysUp yX0_staysUp, Cond.code yX0_staysUp cX0_staysUp 12 (some .boolean), Cond.methodLink RX0 36 yX0_signTwo, Cond.instanceMethod yX0_signTwo, Cond.selects RX0 yX0_signTwo yX0_signTwo, Cond.code yX0_signTwo cX0_signTwo 5 (some .long), Cond.methodLink RX0 39 yX0_signOne]
def wsX2_weigh_r3 : List Cond := [Cond.instanceMethod yX0_signOne, Cond.selects RX0 yX0_signOne yX0_signOne, Cond.code yX0_signOne cX0_signOne 8 (some .long), Cond.methodLink RX0 54 yJ13_bitCount_95d88, Cond.static yJ13_bitCount_95d88, Cond.initialized RJ13, Cond.code yJ13_bitCount_95d88 cJ13_bitCount_95d88 2 (some .int), Cond.constantLong RJ13 314 (6148914691236517205), Cond.constantLong RJ13 316 (3689348814741910323), Cond.constantLong RJ13 318 (1085102592571150095)]
def wsX2_weigh : List Cond := .code yX2_weigh cX2_weigh 4 none :: ((wsX2_weigh_r1 ++ (wsX2_weigh_r2 ++ wsX2_weigh_r3)) ++ wsX20 ++ wsX00)
def wsX2_spreadOf : List Cond := .code yX2_spreadOf cX2_spreadOf 5 (some .int) :: ([.fieldLink RX2 22 "SelfSteer$Doubt" "speedCounts" "[I", .fieldLink RX2 18 "SelfSteer$Doubt" "changed" "[I", .methodLink RX2 54 Lib.Math.min.name, .static Lib.Math.min.name, .initialized "java/lang/Math", .code Lib.Math.min.name Lib.Math.min.code 2 (some .int), .methodLink RX2 60 Lib.Math.max.name, .static Lib.Math.max.name, .code Lib.Math.max.name Lib.Math.max.code 2 (some .int)] ++ wsX20)
def wsJ6_bitCount_0f7a4 : List Cond := .code yJ6_bitCount_0f7a4 cJ6_bitCount_0f7a4 1 (some .int) :: ([.constant RJ6 265 (1431655765), .constant RJ6 266 (858993459), .constant RJ6 267 (252645135)])
def wsX2_fewestFor : List Cond := .code yX2_fewestFor cX2_fewestFor 4 (some .int) :: ([.methodLink RX2 63 yJ6_bitCount_0f7a4, .static yJ6_bitCount_0f7a4, .initialized RJ6, .code yJ6_bitCount_0f7a4 cJ6_bitCount_0f7a4 1 (some .int), .constant RJ6 265 (1431655765), .constant RJ6 266 (858993459), .constant RJ6 267 (252645135), .methodLink RX2 68 yX2_spreadOf, .instanceMethod yX2_spreadOf, .selects RX2 yX2_spreadOf yX2_spreadOf, .initialized RX2, .code yX2_spreadOf cX2_spreadOf 5 (some .int), .fieldLink RX2 22 "SelfSteer$Doubt" "speedCounts" "[I", .fieldLink RX2 18 "SelfSteer$Doubt" "changed" "[I", .methodLink RX2 54 Lib.Math.min.name, .static Lib.Math.min.name, .initialized "java/lang/Math", .code Lib.Math.min.name Lib.Math.min.code 2 (some .int), .methodLink RX2 60 Lib.Math.max.name, .static Lib.Math.max.name, .code Lib.Math.max.name Lib.Math.max.code 2 (some .int)] ++ wsX20)
def wsX3_init : List Cond := .code yX3_init cX3_init 1 none :: ([.methodLink RX3 1 objectInit, .instanceMethod objectInit, .code objectInit ⟨#[0xb1]⟩ 1 none, .arrayClass .int, .fieldLink RX3 9 "SelfSteer$Habits" "values" "[I", .arrayClass .boolean, .fieldLink RX3 13 "SelfSteer$Habits" "wasWhole" "[Z"] ++ wsX30)
def wsX8_isBar : List Cond := .code yX8_isBar cX8_isBar 1 (some .boolean) :: ([.methodLink RX8 106 yX8_within, .static yX8_within, .initialized RX8, .code yX8_within cX8_within 3 (some .boolean)])
def wsX3_valueOf : List Cond := .code yX3_valueOf cX3_valueOf 2 (some .int) :: ([.fieldLink RX3 9 "SelfSteer$Habits" "values" "[I", .static yX8_isBar, .initialized RX8, .code yX8_isBar cX8_isBar 1 (some .boolean), .methodLink RX8 106 yX8_within, .static yX8_within, .code yX8_within cX8_within 3 (some .boolean)] ++ wsX30)
def wsX3_practise : List Cond := .code yX3_practise cX3_practise 5 none :: ([.fieldLink RX3 9 "SelfSteer$Habits" "values" "[I", .fieldLink RX3 13 "SelfSteer$Habits" "wasWhole" "[Z", .methodLink RX3 23 Lib.Math.min.name, .static Lib.Math.min.name, .initialized "java/lang/Math", .code Lib.Math.min.name Lib.Math.min.code 2 (some .int), .methodLink RX3 29 Lib.Math.max.name, .static Lib.Math.max.name, .code Lib.Math.max.name Lib.Math.max.code 2 (some .int), .static yX8_isBar, .initialized RX8, .code yX8_isBar cX8_isBar 1 (some .boolean), .methodLink RX8 106 yX8_within, .static yX8_within, .code yX8_within cX8_within 3 (some .boolean)] ++ wsX30)
def wsX3_weeksTillWhole : List Cond := .code yX3_weeksTillWhole cX3_weeksTillWhole 5 (some .int) :: ([.fieldLink RX3 9 "SelfSteer$Habits" "values" "[I", .fieldLink RX3 13 "SelfSteer$Habits" "wasWhole" "[Z", .methodLink RX3 23 Lib.Math.min.name, .static Lib.Math.min.name, .initialized "java/lang/Math", .code Lib.Math.min.name Lib.Math.min.code 2 (some .int), .methodLink RX3 29 Lib.Math.max.name, .static Lib.Math.max.name, .code Lib.Math.max.name Lib.Math.max.code 2 (some .int), .static yX8_isBar, .initialized RX8, .code yX8_isBar cX8_isBar 1 (some .boolean), .methodLink RX8 106 yX8_within, .static yX8_within, .code yX8_within cX8_within 3 (some .boolean)] ++ wsX30)
def wsX3_copyFrom : List Cond := .code yX3_copyFrom cX3_copyFrom 3 none :: ([.fieldLink RX3 9 "SelfSteer$Habits" "values" "[I", .fieldLink RX3 13 "SelfSteer$Habits" "wasWhole" "[Z"] ++ wsX30)
def wsX6_init : List Cond := .code yX6_init cX6_init 1 none :: ([.methodLink RX6 3 objectInit, .instanceMethod objectInit, .code objectInit ⟨#[0xb1]⟩ 1 none, .fieldLink RX6 9 "SelfSteer$Ride" "bicycle" "I", .fieldLink RX6 15 "SelfSteer$Ride" "speed" "I", .fieldLink RX6 18 "SelfSteer$Ride" "reversed" "Z", .fieldLink RX6 22 "SelfSteer$Ride" "lean" "I", .fieldLink RX6 25 "SelfSteer$Ride" "bar" "I", .fieldLink RX6 28 "SelfSteer$Ride" "leanChange" "I", .fieldLink RX6 31 "SelfSteer$Ride" "barChange" "I", .fieldLink RX6 34 "SelfSteer$Ride" "hand" "I", .fieldLink RX6 37 "SelfSteer$Ride" "ticks" "I", .fieldLink RX6 40 "SelfSteer$Ride" "lies" "Z", .arrayClass .int, .fieldLink RX6 43 "SelfSteer$Ride" "pastLean" "[I", .fieldLink RX6 47 "SelfSteer$Ride" "pastLeanChange" "[I", .fieldLink RX6 50 "SelfSteer$Ride" "pastBar" "[I"] ++ wsX60)
def wsX4_init_r1 : List Cond := [Cond.methodLink RX4 1 objectInit, Cond.instanceMethod objectInit, Cond.code objectInit ⟨#[0xb1]⟩ 1 none, Cond.classLink RX4 7 RX6, Cond.instantiable RX6 13, Cond.initialized RX6, Cond.fieldLink RX4 10 "SelfSteer$Image" "ride" "LSelfSteer$Ride;", Cond.classLink RX4 16 RX3, Cond.instantiable RX3 2, Cond.initialized RX3, Cond.fieldLink RX4 19 "SelfSteer$Image" "habits" "LSelfSteer$Habits;", Cond.fieldLink RX4 23 "SelfSteer$Image" "kept" "Z", Cond.instanceMethod yX6_init, Cond.code yX6_init cX6_init 1 none, Cond.methodLink RX6 3 objectInit, Cond.fieldLink RX6 9 "SelfSteer$Ride" "bicycle" "I", Cond.fieldLink RX6 15 "SelfSteer$Ride" "speed" "I", Cond.fieldLink RX6 18 "SelfSteer$Ride" "reversed" "Z", Cond.fieldLink RX6 22 "SelfSteer$Ride" "lean" "I", Cond.fieldLink RX6 25 "SelfSteer$Ride" "bar" "I", Cond.fieldLink RX6 28 "SelfSteer$Ride" "leanChange" "I", Cond.fieldLink RX6 31 "SelfSteer$Ride" "barChange" "I", Cond.fieldLink RX6 34 "SelfSteer$Ride" "hand" "I", Cond.fieldLink RX6 37 "SelfSteer$Ride" "ticks" "I"]
def wsX4_init_r2 : List Cond := [Cond.fieldLink RX6 40 "SelfSteer$Ride" "lies" "Z", Cond.arrayClass .int, Cond.fieldLink RX6 43 "SelfSteer$Ride" "pastLean" "[I", Cond.fieldLink RX6 47 "SelfSteer$Ride" "pastLeanChange" "[I", Cond.fieldLink RX6 50 "SelfSteer$Ride" "pastBar" "[I", Cond.instanceMethod yX3_init, Cond.code yX3_init cX3_init 1 none, Cond.methodLink RX3 1 objectInit, Cond.fieldLink RX3 9 "SelfSteer$Habits" "values" "[I", Cond.arrayClass .boolean, Cond.fieldLink RX3 13 "SelfSteer$Habits" "wasWhole" "[Z"]
def wsX4_init : List Cond := .code yX4_init cX4_init 1 none :: ((wsX4_init_r1 ++ wsX4_init_r2) ++ wsX60 ++ wsX40 ++ wsX30)
def wsX6_copyFrom : List Cond := .code yX6_copyFrom cX6_copyFrom 2 none :: ([.fieldLink RX6 9 "SelfSteer$Ride" "bicycle" "I", .fieldLink RX6 15 "SelfSteer$Ride" "speed" "I", .fieldLink RX6 18 "SelfSteer$Ride" "reversed" "Z", .fieldLink RX6 22 "SelfSteer$Ride" "lean" "I", .fieldLink RX6 25 "SelfSteer$Ride" "bar" "I", .fieldLink RX6 28 "SelfSteer$Ride" "leanChange" "I", .fieldLink RX6 31 "SelfSteer$Ride" "barChange" "I", .fieldLink RX6 34 "SelfSteer$Ride" "hand" "I", .fieldLink RX6 37 "SelfSteer$Ride" "ticks" "I", .fieldLink RX6 40 "SelfSteer$Ride" "lies" "Z", .fieldLink RX6 43 "SelfSteer$Ride" "pastLean" "[I", .methodLink RX6 53 arraycopyName, .native arraycopyName, .static arraycopyName, .initialized "java/lang/System", .fieldLink RX6 47 "SelfSteer$Ride" "pastLeanChange" "[I", .fieldLink RX6 50 "SelfSteer$Ride" "pastBar" "[I"] ++ wsX60)
def wsX4_take_r1 : List Cond := [Cond.fieldLink RX4 10 "SelfSteer$Image" "ride" "LSelfSteer$Ride;", Cond.fieldLink RX4 19 "SelfSteer$Image" "habits" "LSelfSteer$Habits;", Cond.fieldLink RX4 23 "SelfSteer$Image" "kept" "Z", Cond.instanceMethod yX6_copyFrom, Cond.initialized RX6, Cond.selects RX6 yX6_copyFrom yX6_copyFrom, Cond.code yX6_copyFrom cX6_copyFrom 2 none, Cond.fieldLink RX6 9 "SelfSteer$Ride" "bicycle" "I", Cond.fieldLink RX6 15 "SelfSteer$Ride" "speed" "I", Cond.fieldLink RX6 18 "SelfSteer$Ride" "reversed" "Z", Cond.fieldLink RX6 22 "SelfSteer$Ride" "lean" "I", Cond.fieldLink RX6 25 "SelfSteer$Ride" "bar" "I", Cond.fieldLink RX6 28 "SelfSteer$Ride" "leanChange" "I", Cond.fieldLink RX6 31 "SelfSteer$Ride" "barChange" "I", Cond.fieldLink RX6 34 "SelfSteer$Ride" "hand" "I", Cond.fieldLink RX6 37 "SelfSteer$Ride" "ticks" "I", Cond.fieldLink RX6 40 "SelfSteer$Ride" "lies" "Z", Cond.fieldLink RX6 43 "SelfSteer$Ride" "pastLean" "[I", Cond.methodLink RX6 53 arraycopyName, Cond.native arraycopyName, Cond.static arraycopyName, Cond.initialized "java/lang/System", Cond.fieldLink RX6 47 "SelfSteer$Ride" "pastLeanChange" "[I", Cond.fieldLink RX6 50 "SelfSteer$Ride" "pastBar" "[I"]
def wsX4_take_r2 : List Cond := [Cond.instanceMethod yX3_copyFrom, Cond.initialized RX3, Cond.selects RX3 yX3_copyFrom yX3_copyFrom, Cond.code yX3_copyFrom cX3_copyFrom 3 none, Cond.fieldLink RX3 9 "SelfSteer$Habits" "values" "[I", Cond.fieldLink RX3 13 "SelfSteer$Habits" "wasWhole" "[Z"]
def wsX4_take : List Cond := .code yX4_take cX4_take 3 none :: ((wsX4_take_r1 ++ wsX4_take_r2) ++ wsX40 ++ wsX60 ++ wsX30)
def wsX4_giveBack_r1 : List Cond := [Cond.fieldLink RX4 10 "SelfSteer$Image" "ride" "LSelfSteer$Ride;", Cond.fieldLink RX4 19 "SelfSteer$Image" "habits" "LSelfSteer$Habits;", Cond.instanceMethod yX6_copyFrom, Cond.initialized RX6, Cond.selects RX6 yX6_copyFrom yX6_copyFrom, Cond.code yX6_copyFrom cX6_copyFrom 2 none, Cond.fieldLink RX6 9 "SelfSteer$Ride" "bicycle" "I", Cond.fieldLink RX6 15 "SelfSteer$Ride" "speed" "I", Cond.fieldLink RX6 18 "SelfSteer$Ride" "reversed" "Z", Cond.fieldLink RX6 22 "SelfSteer$Ride" "lean" "I", Cond.fieldLink RX6 25 "SelfSteer$Ride" "bar" "I", Cond.fieldLink RX6 28 "SelfSteer$Ride" "leanChange" "I", Cond.fieldLink RX6 31 "SelfSteer$Ride" "barChange" "I", Cond.fieldLink RX6 34 "SelfSteer$Ride" "hand" "I", Cond.fieldLink RX6 37 "SelfSteer$Ride" "ticks" "I", Cond.fieldLink RX6 40 "SelfSteer$Ride" "lies" "Z", Cond.fieldLink RX6 43 "SelfSteer$Ride" "pastLean" "[I", Cond.methodLink RX6 53 arraycopyName, Cond.native arraycopyName, Cond.static arraycopyName, Cond.initialized "java/lang/System", Cond.fieldLink RX6 47 "SelfSteer$Ride" "pastLeanChange" "[I", Cond.fieldLink RX6 50 "SelfSteer$Ride" "pastBar" "[I", Cond.instanceMethod yX3_copyFrom]
def wsX4_giveBack_r2 : List Cond := [Cond.initialized RX3, Cond.selects RX3 yX3_copyFrom yX3_copyFrom, Cond.code yX3_copyFrom cX3_copyFrom 3 none, Cond.fieldLink RX3 9 "SelfSteer$Habits" "values" "[I", Cond.fieldLink RX3 13 "SelfSteer$Habits" "wasWhole" "[Z"]
def wsX4_giveBack : List Cond := .code yX4_giveBack cX4_giveBack 3 none :: ((wsX4_giveBack_r1 ++ wsX4_giveBack_r2) ++ wsX40 ++ wsX60 ++ wsX30)
def wsX5_init : List Cond := .code yX5_init cX5_init 1 none :: ([.methodLink RX5 1 objectInit, .instanceMethod objectInit, .code objectInit ⟨#[0xb1]⟩ 1 none, .arrayClass .int, .fieldLink RX5 7 "SelfSteer$Reader" "bytes" "[I", .fieldLink RX5 13 "SelfSteer$Reader" "length" "I", .fieldLink RX5 17 "SelfSteer$Reader" "place" "I", .fieldLink RX5 20 "SelfSteer$Reader" "begin" "I", .fieldLink RX5 23 "SelfSteer$Reader" "token" "I", .fieldLink RX5 26 "SelfSteer$Reader" "value" "I"] ++ wsX50)
def wsX7_forget : List Cond := .code yX7_forget cX7_forget 1 none :: ([.fieldLink RX7 17 "SelfSteer$Rider" "UNTOLD" "[I", .fieldLink RX7 9 "SelfSteer$Rider" "values" "[I", .methodLink RX7 20 arraycopyName, .native arraycopyName, .static arraycopyName, .initialized "java/lang/System", .fieldLink RX7 13 "SelfSteer$Rider" "toldBits" "I"] ++ wsX70)
def wsX5_isLetter : List Cond := .code yX5_isLetter cX5_isLetter 1 (some .boolean) :: ([.static yX8_within, .initialized RX8, .code yX8_within cX8_within 3 (some .boolean)])
def wsJ0_isLatin1_aae02 : List Cond := .code yJ0_isLatin1_aae02 cJ0_isLatin1_aae02 1 (some .boolean) :: ([.fieldLink RJ0 38 "java/lang/String" "COMPACT_STRINGS" "Z", .fieldLink RJ0 15 "java/lang/String" "coder" "B"])
def wsJ3_checkIndex_8e157 : List Cond := .code yJ3_checkIndex_8e157 cJ3_checkIndex_8e157 3 (some .int) :: ([])
def wsJ0_checkIndex_df160 : List Cond := .code yJ0_checkIndex_df160 cJ0_checkIndex_df160 2 none :: ([.fieldLink RJ0 1053 "jdk/internal/util/Preconditions" "SIOOBE_FORMATTER" "Ljava/util/function/BiFunction;", .methodLink RJ0 1059 yJ3_checkIndex_8e157, .static yJ3_checkIndex_8e157, .initialized RJ3, .code yJ3_checkIndex_8e157 cJ3_checkIndex_8e157 3 (some .int)])
def wsJ1_charAt_3b067 : List Cond := .code yJ1_charAt_3b067 cJ1_charAt_3b067 2 (some .char) :: ([.methodLink RJ1 9 yJ0_checkIndex_df160, .static yJ0_checkIndex_df160, .initialized RJ0, .code yJ0_checkIndex_df160 cJ0_checkIndex_df160 2 none, .fieldLink RJ0 1053 "jdk/internal/util/Preconditions" "SIOOBE_FORMATTER" "Ljava/util/function/BiFunction;", .methodLink RJ0 1059 yJ3_checkIndex_8e157, .static yJ3_checkIndex_8e157, .initialized RJ3, .code yJ3_checkIndex_8e157 cJ3_checkIndex_8e157 3 (some .int)])
def wsJ2_length_9d52b : List Cond := .code yJ2_length_9d52b cJ2_length_9d52b 1 (some .int) :: ([])
def wsJ2_checkIndex_2214a : List Cond := .code yJ2_checkIndex_2214a cJ2_checkIndex_2214a 2 none :: ([.methodLink RJ2 48 yJ2_length_9d52b, .static yJ2_length_9d52b, .initialized RJ2, .code yJ2_length_9d52b cJ2_length_9d52b 1 (some .int), .methodLink RJ2 414 yJ0_checkIndex_df160, .static yJ0_checkIndex_df160, .initialized RJ0, .code yJ0_checkIndex_df160 cJ0_checkIndex_df160 2 none, .fieldLink RJ0 1053 "jdk/internal/util/Preconditions" "SIOOBE_FORMATTER" "Ljava/util/function/BiFunction;", .methodLink RJ0 1059 yJ3_checkIndex_8e157, .static yJ3_checkIndex_8e157, .initialized RJ3, .code yJ3_checkIndex_8e157 cJ3_checkIndex_8e157 3 (some .int)])
def wsJ2_getChar_3b067 : List Cond := .code yJ2_getChar_3b067 cJ2_getChar_3b067 2 (some .char) :: ([.fieldLink RJ2 44 "java/lang/StringUTF16" "$assertionsDisabled" "Z", .fieldLink RJ2 59 "java/lang/StringUTF16" "HI_BYTE_SHIFT" "I", .fieldLink RJ2 63 "java/lang/StringUTF16" "LO_BYTE_SHIFT" "I", .methodLink RJ2 48 yJ2_length_9d52b, .static yJ2_length_9d52b, .initialized RJ2, .code yJ2_length_9d52b cJ2_length_9d52b 1 (some .int)])
def wsJ2_charAt_3b067 : List Cond := .code yJ2_charAt_3b067 cJ2_charAt_3b067 2 (some .char) :: ([.methodLink RJ2 67 yJ2_checkIndex_2214a, .static yJ2_checkIndex_2214a, .initialized RJ2, .code yJ2_checkIndex_2214a cJ2_checkIndex_2214a 2 none, .methodLink RJ2 48 yJ2_length_9d52b, .static yJ2_length_9d52b, .code yJ2_length_9d52b cJ2_length_9d52b 1 (some .int), .methodLink RJ2 414 yJ0_checkIndex_df160, .static yJ0_checkIndex_df160, .initialized RJ0, .code yJ0_checkIndex_df160 cJ0_checkIndex_df160 2 none, .fieldLink RJ0 1053 "jdk/internal/util/Preconditions" "SIOOBE_FORMATTER" "Ljava/util/function/BiFunction;", .methodLink RJ0 1059 yJ3_checkIndex_8e157, .static yJ3_checkIndex_8e157, .initialized RJ3, .code yJ3_checkIndex_8e157 cJ3_checkIndex_8e157 3 (some .int), .methodLink RJ2 71 yJ2_getChar_3b067, .static yJ2_getChar_3b067, .code yJ2_getChar_3b067 cJ2_getChar_3b067 2 (some .char), .fieldLink RJ2 44 "java/lang/StringUTF16" "$assertionsDisabled" "Z", .fieldLink RJ2 59 "java/lang/StringUTF16" "HI_BYTE_SHIFT" "I", .fieldLink RJ2 63 "java/lang/StringUTF16" "LO_BYTE_SHIFT" "I"])
def wsJ0_charAt_5068e_r1 : List Cond := [Cond.fieldLink RJ0 9 "java/lang/String" "value" "[B", Cond.methodLink RJ0 492 yJ0_isLatin1_aae02, Cond.instanceMethod yJ0_isLatin1_aae02, Cond.selects RJ0 yJ0_isLatin1_aae02 yJ0_isLatin1_aae02, Cond.initialized RJ0, Cond.code yJ0_isLatin1_aae02 cJ0_isLatin1_aae02 1 (some .boolean), Cond.fieldLink RJ0 38 "java/lang/String" "COMPACT_STRINGS" "Z", Cond.fieldLink RJ0 15 "java/lang/String" "coder" "B", Cond.methodLink RJ0 495 yJ1_charAt_3b067, Cond.static yJ1_charAt_3b067, Cond.initialized RJ1, Cond.code yJ1_charAt_3b067 cJ1_charAt_3b067 2 (some .char), Cond.methodLink RJ1 9 yJ0_checkIndex_df160, Cond.static yJ0_checkIndex_df160, Cond.code yJ0_checkIndex_df160 cJ0_checkIndex_df160 2 none, Cond.fieldLink RJ0 1053 "jdk/internal/util/Preconditions" "SIOOBE_FORMATTER" "Ljava/util/function/BiFunction;", Cond.methodLink RJ0 1059 yJ3_checkIndex_8e157, Cond.static yJ3_checkIndex_8e157, Cond.initialized RJ3, Cond.code yJ3_checkIndex_8e157 cJ3_checkIndex_8e157 3 (some .int), Cond.methodLink RJ0 498 yJ2_charAt_3b067, Cond.static yJ2_charAt_3b067, Cond.initialized RJ2, Cond.code yJ2_charAt_3b067 cJ2_charAt_3b067 2 (some .char)]
def wsJ0_charAt_5068e_r2 : List Cond := [Cond.methodLink RJ2 67 yJ2_checkIndex_2214a, Cond.static yJ2_checkIndex_2214a, Cond.code yJ2_checkIndex_2214a cJ2_checkIndex_2214a 2 none, Cond.methodLink RJ2 48 yJ2_length_9d52b, Cond.static yJ2_length_9d52b, Cond.code yJ2_length_9d52b cJ2_length_9d52b 1 (some .int), Cond.methodLink RJ2 414 yJ0_checkIndex_df160, Cond.methodLink RJ2 71 yJ2_getChar_3b067, Cond.static yJ2_getChar_3b067, Cond.code yJ2_getChar_3b067 cJ2_getChar_3b067 2 (some .char), Cond.fieldLink RJ2 44 "java/lang/StringUTF16" "$assertionsDisabled" "Z", Cond.fieldLink RJ2 59 "java/lang/StringUTF16" "HI_BYTE_SHIFT" "I", Cond.fieldLink RJ2 63 "java/lang/StringUTF16" "LO_BYTE_SHIFT" "I"]
def wsJ0_charAt_5068e : List Cond := .code yJ0_charAt_5068e cJ0_charAt_5068e 2 (some .char) :: ((wsJ0_charAt_5068e_r1 ++ wsJ0_charAt_5068e_r2))
def wsX5_isWord_r1 : List Cond := [Cond.fieldLink RX5 17 "SelfSteer$Reader" "place" "I", Cond.fieldLink RX5 20 "SelfSteer$Reader" "begin" "I", Cond.fieldLink RX5 7 "SelfSteer$Reader" "bytes" "[I", Cond.methodLink RX5 78 yJ0_charAt_5068e, Cond.instanceMethod yJ0_charAt_5068e, Cond.selects RJ0 yJ0_charAt_5068e yJ0_charAt_5068e, Cond.initialized RJ0, Cond.code yJ0_charAt_5068e cJ0_charAt_5068e 2 (some .char), Cond.fieldLink RJ0 9 "java/lang/String" "value" "[B", Cond.methodLink RJ0 492 yJ0_isLatin1_aae02, Cond.instanceMethod yJ0_isLatin1_aae02, Cond.selects RJ0 yJ0_isLatin1_aae02 yJ0_isLatin1_aae02, Cond.code yJ0_isLatin1_aae02 cJ0_isLatin1_aae02 1 (some .boolean), Cond.fieldLink RJ0 38 "java/lang/String" "COMPACT_STRINGS" "Z", Cond.fieldLink RJ0 15 "java/lang/String" "coder" "B", Cond.methodLink RJ0 495 yJ1_charAt_3b067, Cond.static yJ1_charAt_3b067, Cond.initialized RJ1, Cond.code yJ1_charAt_3b067 cJ1_charAt_3b067 2 (some .char), Cond.methodLink RJ1 9 yJ0_checkIndex_df160, Cond.static yJ0_checkIndex_df160, Cond.code yJ0_checkIndex_df160 cJ0_checkIndex_df160 2 none, Cond.fieldLink RJ0 1053 "jdk/internal/util/Preconditions" "SIOOBE_FORMATTER" "Ljava/util/function/BiFunction;", Cond.methodLink RJ0 1059 yJ3_checkIndex_8e157]
def wsX5_isWord_r2 : List Cond := [Cond.static yJ3_checkIndex_8e157, Cond.initialized RJ3, Cond.code yJ3_checkIndex_8e157 cJ3_checkIndex_8e157 3 (some .int), Cond.methodLink RJ0 498 yJ2_charAt_3b067, Cond.static yJ2_charAt_3b067, Cond.initialized RJ2, Cond.code yJ2_charAt_3b067 cJ2_charAt_3b067 2 (some .char), Cond.methodLink RJ2 67 yJ2_checkIndex_2214a, Cond.static yJ2_checkIndex_2214a, Cond.code yJ2_checkIndex_2214a cJ2_checkIndex_2214a 2 none, Cond.methodLink RJ2 48 yJ2_length_9d52b, Cond.static yJ2_length_9d52b, Cond.code yJ2_length_9d52b cJ2_length_9d52b 1 (some .int), Cond.methodLink RJ2 414 yJ0_checkIndex_df160, Cond.methodLink RJ2 71 yJ2_getChar_3b067, Cond.static yJ2_getChar_3b067, Cond.code yJ2_getChar_3b067 cJ2_getChar_3b067 2 (some .char), Cond.fieldLink RJ2 44 "java/lang/StringUTF16" "$assertionsDisabled" "Z", Cond.fieldLink RJ2 59 "java/lang/StringUTF16" "HI_BYTE_SHIFT" "I", Cond.fieldLink RJ2 63 "java/lang/StringUTF16" "LO_BYTE_SHIFT" "I"]
def wsX5_isWord : List Cond := .code yX5_isWord cX5_isWord 4 (some .boolean) :: ((wsX5_isWord_r1 ++ wsX5_isWord_r2) ++ wsX50)
def wsX5_readWord_r1 : List Cond := [Cond.fieldLink RX5 17 "SelfSteer$Reader" "place" "I", Cond.fieldLink RX5 13 "SelfSteer$Reader" "length" "I", Cond.fieldLink RX5 7 "SelfSteer$Reader" "bytes" "[I", Cond.fieldLink RX5 23 "SelfSteer$Reader" "token" "I", Cond.fieldLink RX5 26 "SelfSteer$Reader" "value" "I", Cond.methodLink RX5 61 yX5_isLetter, Cond.static yX5_isLetter, Cond.initialized RX5, Cond.code yX5_isLetter cX5_isLetter 1 (some .boolean), Cond.static yX8_within, Cond.initialized RX8, Cond.code yX8_within cX8_within 3 (some .boolean), Cond.methodLink RX5 73 yX5_isWord, Cond.instanceMethod yX5_isWord, Cond.selects RX5 yX5_isWord yX5_isWord, Cond.code yX5_isWord cX5_isWord 4 (some .boolean), Cond.fieldLink RX5 20 "SelfSteer$Reader" "begin" "I", Cond.methodLink RX5 78 yJ0_charAt_5068e, Cond.instanceMethod yJ0_charAt_5068e, Cond.selects RJ0 yJ0_charAt_5068e yJ0_charAt_5068e, Cond.initialized RJ0, Cond.code yJ0_charAt_5068e cJ0_charAt_5068e 2 (some .char), Cond.fieldLink RJ0 9 "java/lang/String" "value" "[B", Cond.methodLink RJ0 492 yJ0_isLatin1_aae02]
def wsX5_readWord_r2 : List Cond := [Cond.instanceMethod yJ0_isLatin1_aae02, Cond.selects RJ0 yJ0_isLatin1_aae02 yJ0_isLatin1_aae02, Cond.code yJ0_isLatin1_aae02 cJ0_isLatin1_aae02 1 (some .boolean), Cond.fieldLink RJ0 38 "java/lang/String" "COMPACT_STRINGS" "Z", Cond.fieldLink RJ0 15 "java/lang/String" "coder" "B", Cond.methodLink RJ0 495 yJ1_charAt_3b067, Cond.static yJ1_charAt_3b067, Cond.initialized RJ1, Cond.code yJ1_charAt_3b067 cJ1_charAt_3b067 2 (some .char), Cond.methodLink RJ1 9 yJ0_checkIndex_df160, Cond.static yJ0_checkIndex_df160, Cond.code yJ0_checkIndex_df160 cJ0_checkIndex_df160 2 none, Cond.fieldLink RJ0 1053 "jdk/internal/util/Preconditions" "SIOOBE_FORMATTER" "Ljava/util/function/BiFunction;", Cond.methodLink RJ0 1059 yJ3_checkIndex_8e157, Cond.static yJ3_checkIndex_8e157, Cond.initialized RJ3, Cond.code yJ3_checkIndex_8e157 cJ3_checkIndex_8e157 3 (some .int), Cond.methodLink RJ0 498 yJ2_charAt_3b067, Cond.static yJ2_charAt_3b067, Cond.initialized RJ2, Cond.code yJ2_charAt_3b067 cJ2_charAt_3b067 2 (some .char), Cond.methodLink RJ2 67 yJ2_checkIndex_2214a, Cond.static yJ2_checkIndex_2214a, Cond.code yJ2_checkIndex_2214a cJ2_checkIndex_2214a 2 none]
def wsX5_readWord_r3 : List Cond := [Cond.methodLink RJ2 48 yJ2_length_9d52b, Cond.static yJ2_length_9d52b, Cond.code yJ2_length_9d52b cJ2_length_9d52b 1 (some .int), Cond.methodLink RJ2 414 yJ0_checkIndex_df160, Cond.methodLink RJ2 71 yJ2_getChar_3b067, Cond.static yJ2_getChar_3b067, Cond.code yJ2_getChar_3b067 cJ2_getChar_3b067 2 (some .char), Cond.fieldLink RJ2 44 "java/lang/StringUTF16" "$assertionsDisabled" "Z", Cond.fieldLink RJ2 59 "java/lang/StringUTF16" "HI_BYTE_SHIFT" "I", Cond.fieldLink RJ2 63 "java/lang/StringUTF16" "LO_BYTE_SHIFT" "I"]
def wsX5_readWord : List Cond := .code yX5_readWord cX5_readWord 2 none :: ((wsX5_readWord_r1 ++ (wsX5_readWord_r2 ++ wsX5_readWord_r3)) ++ wsX50)
def wsX5_isDigit : List Cond := .code yX5_isDigit cX5_isDigit 1 (some .boolean) :: ([.static yX8_within, .initialized RX8, .code yX8_within cX8_within 3 (some .boolean)])
def wsX5_readAmount : List Cond := .code yX5_readAmount cX5_readAmount 2 none :: ([.fieldLink RX5 26 "SelfSteer$Reader" "value" "I", .fieldLink RX5 17 "SelfSteer$Reader" "place" "I", .fieldLink RX5 13 "SelfSteer$Reader" "length" "I", .fieldLink RX5 7 "SelfSteer$Reader" "bytes" "[I", .methodLink RX5 29 Lib.Math.min.name, .static Lib.Math.min.name, .initialized "java/lang/Math", .code Lib.Math.min.name Lib.Math.min.code 2 (some .int), .fieldLink RX5 20 "SelfSteer$Reader" "begin" "I", .fieldLink RX5 23 "SelfSteer$Reader" "token" "I", .methodLink RX5 67 yX5_isDigit, .static yX5_isDigit, .initialized RX5, .code yX5_isDigit cX5_isDigit 1 (some .boolean), .static yX8_within, .initialized RX8, .code yX8_within cX8_within 3 (some .boolean)] ++ wsX50)
def wsX5_next_r1 : List Cond := [Cond.fieldLink RX5 17 "SelfSteer$Reader" "place" "I", Cond.fieldLink RX5 13 "SelfSteer$Reader" "length" "I", Cond.fieldLink RX5 7 "SelfSteer$Reader" "bytes" "[I", Cond.fieldLink RX5 20 "SelfSteer$Reader" "begin" "I", Cond.fieldLink RX5 23 "SelfSteer$Reader" "token" "I", Cond.methodLink RX5 61 yX5_isLetter, Cond.static yX5_isLetter, Cond.initialized RX5, Cond.code yX5_isLetter cX5_isLetter 1 (some .boolean), Cond.static yX8_within, Cond.initialized RX8, Cond.code yX8_within cX8_within 3 (some .boolean), Cond.methodLink RX5 64 yX5_readWord, Cond.instanceMethod yX5_readWord, Cond.selects RX5 yX5_readWord yX5_readWord, Cond.code yX5_readWord cX5_readWord 2 none, Cond.fieldLink RX5 26 "SelfSteer$Reader" "value" "I", Cond.methodLink RX5 73 yX5_isWord, Cond.instanceMethod yX5_isWord, Cond.selects RX5 yX5_isWord yX5_isWord, Cond.code yX5_isWord cX5_isWord 4 (some .boolean), Cond.methodLink RX5 78 yJ0_charAt_5068e, Cond.instanceMethod yJ0_charAt_5068e, Cond.selects RJ0 yJ0_charAt_5068e yJ0_charAt_5068e]
def wsX5_next_r2 : List Cond := [Cond.initialized RJ0, Cond.code yJ0_charAt_5068e cJ0_charAt_5068e 2 (some .char), Cond.fieldLink RJ0 9 "java/lang/String" "value" "[B", Cond.methodLink RJ0 492 yJ0_isLatin1_aae02, Cond.instanceMethod yJ0_isLatin1_aae02, Cond.selects RJ0 yJ0_isLatin1_aae02 yJ0_isLatin1_aae02, Cond.code yJ0_isLatin1_aae02 cJ0_isLatin1_aae02 1 (some .boolean), Cond.fieldLink RJ0 38 "java/lang/String" "COMPACT_STRINGS" "Z", Cond.fieldLink RJ0 15 "java/lang/String" "coder" "B", Cond.methodLink RJ0 495 yJ1_charAt_3b067, Cond.static yJ1_charAt_3b067, Cond.initialized RJ1, Cond.code yJ1_charAt_3b067 cJ1_charAt_3b067 2 (some .char), Cond.methodLink RJ1 9 yJ0_checkIndex_df160, Cond.static yJ0_checkIndex_df160, Cond.code yJ0_checkIndex_df160 cJ0_checkIndex_df160 2 none, Cond.fieldLink RJ0 1053 "jdk/internal/util/Preconditions" "SIOOBE_FORMATTER" "Ljava/util/function/BiFunction;", Cond.methodLink RJ0 1059 yJ3_checkIndex_8e157, Cond.static yJ3_checkIndex_8e157, Cond.initialized RJ3, Cond.code yJ3_checkIndex_8e157 cJ3_checkIndex_8e157 3 (some .int), Cond.methodLink RJ0 498 yJ2_charAt_3b067, Cond.static yJ2_charAt_3b067, Cond.initialized RJ2]
def wsX5_next_r3 : List Cond := [Cond.code yJ2_charAt_3b067 cJ2_charAt_3b067 2 (some .char), Cond.methodLink RJ2 67 yJ2_checkIndex_2214a, Cond.static yJ2_checkIndex_2214a, Cond.code yJ2_checkIndex_2214a cJ2_checkIndex_2214a 2 none, Cond.methodLink RJ2 48 yJ2_length_9d52b, Cond.static yJ2_length_9d52b, Cond.code yJ2_length_9d52b cJ2_length_9d52b 1 (some .int), Cond.methodLink RJ2 414 yJ0_checkIndex_df160, Cond.methodLink RJ2 71 yJ2_getChar_3b067, Cond.static yJ2_getChar_3b067, Cond.code yJ2_getChar_3b067 cJ2_getChar_3b067 2 (some .char), Cond.fieldLink RJ2 44 "java/lang/StringUTF16" "$assertionsDisabled" "Z", Cond.fieldLink RJ2 59 "java/lang/StringUTF16" "HI_BYTE_SHIFT" "I", Cond.fieldLink RJ2 63 "java/lang/StringUTF16" "LO_BYTE_SHIFT" "I", Cond.methodLink RX5 67 yX5_isDigit, Cond.static yX5_isDigit, Cond.code yX5_isDigit cX5_isDigit 1 (some .boolean), Cond.methodLink RX5 70 yX5_readAmount, Cond.instanceMethod yX5_readAmount, Cond.selects RX5 yX5_readAmount yX5_readAmount, Cond.code yX5_readAmount cX5_readAmount 2 none, Cond.methodLink RX5 29 Lib.Math.min.name, Cond.static Lib.Math.min.name, Cond.initialized "java/lang/Math"]
def wsX5_next_r4 : List Cond := [Cond.code Lib.Math.min.name Lib.Math.min.code 2 (some .int)]
def wsX5_next : List Cond := .code yX5_next cX5_next 2 none :: ((wsX5_next_r1 ++ (wsX5_next_r2 ++ (wsX5_next_r3 ++ wsX5_next_r4))) ++ wsX50)
def wsX7_wasTold : List Cond := .code yX7_wasTold cX7_wasTold 2 (some .boolean) :: ([.fieldLink RX7 13 "SelfSteer$Rider" "toldBits" "I"] ++ wsX70)
def wsX7_tell : List Cond := .code yX7_tell cX7_tell 3 none :: ([.fieldLink RX7 9 "SelfSteer$Rider" "values" "[I", .fieldLink RX7 13 "SelfSteer$Rider" "toldBits" "I", .static yX8_within, .initialized RX8, .code yX8_within cX8_within 3 (some .boolean)] ++ wsX70)
def wsX5_readsItem_r1 : List Cond := [Cond.fieldLink RX5 23 "SelfSteer$Reader" "token" "I", Cond.fieldLink RX5 26 "SelfSteer$Reader" "value" "I", Cond.instanceMethod yX7_wasTold, Cond.initialized RX7, Cond.selects RX7 yX7_wasTold yX7_wasTold, Cond.code yX7_wasTold cX7_wasTold 2 (some .boolean), Cond.fieldLink RX7 13 "SelfSteer$Rider" "toldBits" "I", Cond.methodLink RX5 40 yX5_next, Cond.instanceMethod yX5_next, Cond.selects RX5 yX5_next yX5_next, Cond.initialized RX5, Cond.code yX5_next cX5_next 2 none, Cond.fieldLink RX5 17 "SelfSteer$Reader" "place" "I", Cond.fieldLink RX5 13 "SelfSteer$Reader" "length" "I", Cond.fieldLink RX5 7 "SelfSteer$Reader" "bytes" "[I", Cond.fieldLink RX5 20 "SelfSteer$Reader" "begin" "I", Cond.methodLink RX5 61 yX5_isLetter, Cond.static yX5_isLetter, Cond.code yX5_isLetter cX5_isLetter 1 (some .boolean), Cond.static yX8_within, Cond.initialized RX8, Cond.code yX8_within cX8_within 3 (some .boolean), Cond.methodLink RX5 64 yX5_readWord, Cond.instanceMethod yX5_readWord]
def wsX5_readsItem_r2 : List Cond := [Cond.selects RX5 yX5_readWord yX5_readWord, Cond.code yX5_readWord cX5_readWord 2 none, Cond.methodLink RX5 73 yX5_isWord, Cond.instanceMethod yX5_isWord, Cond.selects RX5 yX5_isWord yX5_isWord, Cond.code yX5_isWord cX5_isWord 4 (some .boolean), Cond.methodLink RX5 78 yJ0_charAt_5068e, Cond.instanceMethod yJ0_charAt_5068e, Cond.selects RJ0 yJ0_charAt_5068e yJ0_charAt_5068e, Cond.initialized RJ0, Cond.code yJ0_charAt_5068e cJ0_charAt_5068e 2 (some .char), Cond.fieldLink RJ0 9 "java/lang/String" "value" "[B", Cond.methodLink RJ0 492 yJ0_isLatin1_aae02, Cond.instanceMethod yJ0_isLatin1_aae02, Cond.selects RJ0 yJ0_isLatin1_aae02 yJ0_isLatin1_aae02, Cond.code yJ0_isLatin1_aae02 cJ0_isLatin1_aae02 1 (some .boolean), Cond.fieldLink RJ0 38 "java/lang/String" "COMPACT_STRINGS" "Z", Cond.fieldLink RJ0 15 "java/lang/String" "coder" "B", Cond.methodLink RJ0 495 yJ1_charAt_3b067, Cond.static yJ1_charAt_3b067, Cond.initialized RJ1, Cond.code yJ1_charAt_3b067 cJ1_charAt_3b067 2 (some .char), Cond.methodLink RJ1 9 yJ0_checkIndex_df160, Cond.static yJ0_checkIndex_df160]
def wsX5_readsItem_r3 : List Cond := [Cond.code yJ0_checkIndex_df160 cJ0_checkIndex_df160 2 none, Cond.fieldLink RJ0 1053 "jdk/internal/util/Preconditions" "SIOOBE_FORMATTER" "Ljava/util/function/BiFunction;", Cond.methodLink RJ0 1059 yJ3_checkIndex_8e157, Cond.static yJ3_checkIndex_8e157, Cond.initialized RJ3, Cond.code yJ3_checkIndex_8e157 cJ3_checkIndex_8e157 3 (some .int), Cond.methodLink RJ0 498 yJ2_charAt_3b067, Cond.static yJ2_charAt_3b067, Cond.initialized RJ2, Cond.code yJ2_charAt_3b067 cJ2_charAt_3b067 2 (some .char), Cond.methodLink RJ2 67 yJ2_checkIndex_2214a, Cond.static yJ2_checkIndex_2214a, Cond.code yJ2_checkIndex_2214a cJ2_checkIndex_2214a 2 none, Cond.methodLink RJ2 48 yJ2_length_9d52b, Cond.static yJ2_length_9d52b, Cond.code yJ2_length_9d52b cJ2_length_9d52b 1 (some .int), Cond.methodLink RJ2 414 yJ0_checkIndex_df160, Cond.methodLink RJ2 71 yJ2_getChar_3b067, Cond.static yJ2_getChar_3b067, Cond.code yJ2_getChar_3b067 cJ2_getChar_3b067 2 (some .char), Cond.fieldLink RJ2 44 "java/lang/StringUTF16" "$assertionsDisabled" "Z", Cond.fieldLink RJ2 59 "java/lang/StringUTF16" "HI_BYTE_SHIFT" "I", Cond.fieldLink RJ2 63 "java/lang/StringUTF16" "LO_BYTE_SHIFT" "I", Cond.methodLink RX5 67 yX5_isDigit]
def wsX5_readsItem_r4 : List Cond := [Cond.static yX5_isDigit, Cond.code yX5_isDigit cX5_isDigit 1 (some .boolean), Cond.methodLink RX5 70 yX5_readAmount, Cond.instanceMethod yX5_readAmount, Cond.selects RX5 yX5_readAmount yX5_readAmount, Cond.code yX5_readAmount cX5_readAmount 2 none, Cond.methodLink RX5 29 Lib.Math.min.name, Cond.static Lib.Math.min.name, Cond.initialized "java/lang/Math", Cond.code Lib.Math.min.name Lib.Math.min.code 2 (some .int), Cond.instanceMethod yX7_tell, Cond.selects RX7 yX7_tell yX7_tell, Cond.code yX7_tell cX7_tell 3 none, Cond.fieldLink RX7 9 "SelfSteer$Rider" "values" "[I"]
def wsX5_readsItem : List Cond := .code yX5_readsItem cX5_readsItem 5 (some .boolean) :: ((wsX5_readsItem_r1 ++ (wsX5_readsItem_r2 ++ (wsX5_readsItem_r3 ++ wsX5_readsItem_r4))) ++ wsX50 ++ wsX70)
def wsX5_faultOf_r1 : List Cond := [Cond.fieldLink RX5 7 "SelfSteer$Reader" "bytes" "[I", Cond.methodLink RX5 29 Lib.Math.min.name, Cond.static Lib.Math.min.name, Cond.initialized "java/lang/Math", Cond.code Lib.Math.min.name Lib.Math.min.code 2 (some .int), Cond.fieldLink RX5 13 "SelfSteer$Reader" "length" "I", Cond.fieldLink RX5 17 "SelfSteer$Reader" "place" "I", Cond.fieldLink RX5 23 "SelfSteer$Reader" "token" "I", Cond.fieldLink RX5 20 "SelfSteer$Reader" "begin" "I", Cond.instanceMethod yX7_forget, Cond.initialized RX7, Cond.selects RX7 yX7_forget yX7_forget, Cond.code yX7_forget cX7_forget 1 none, Cond.fieldLink RX7 17 "SelfSteer$Rider" "UNTOLD" "[I", Cond.fieldLink RX7 9 "SelfSteer$Rider" "values" "[I", Cond.methodLink RX7 20 arraycopyName, Cond.native arraycopyName, Cond.static arraycopyName, Cond.initialized "java/lang/System", Cond.fieldLink RX7 13 "SelfSteer$Rider" "toldBits" "I", Cond.methodLink RX5 40 yX5_next, Cond.instanceMethod yX5_next, Cond.selects RX5 yX5_next yX5_next, Cond.initialized RX5]
def wsX5_faultOf_r2 : List Cond := [Cond.code yX5_next cX5_next 2 none, Cond.methodLink RX5 61 yX5_isLetter, Cond.static yX5_isLetter, Cond.code yX5_isLetter cX5_isLetter 1 (some .boolean), Cond.static yX8_within, Cond.initialized RX8, Cond.code yX8_within cX8_within 3 (some .boolean), Cond.methodLink RX5 64 yX5_readWord, Cond.instanceMethod yX5_readWord, Cond.selects RX5 yX5_readWord yX5_readWord, Cond.code yX5_readWord cX5_readWord 2 none, Cond.fieldLink RX5 26 "SelfSteer$Reader" "value" "I", Cond.methodLink RX5 73 yX5_isWord, Cond.instanceMethod yX5_isWord, Cond.selects RX5 yX5_isWord yX5_isWord, Cond.code yX5_isWord cX5_isWord 4 (some .boolean), Cond.methodLink RX5 78 yJ0_charAt_5068e, Cond.instanceMethod yJ0_charAt_5068e, Cond.selects RJ0 yJ0_charAt_5068e yJ0_charAt_5068e, Cond.initialized RJ0, Cond.code yJ0_charAt_5068e cJ0_charAt_5068e 2 (some .char), Cond.fieldLink RJ0 9 "java/lang/String" "value" "[B", Cond.methodLink RJ0 492 yJ0_isLatin1_aae02, Cond.instanceMethod yJ0_isLatin1_aae02]
def wsX5_faultOf_r3 : List Cond := [Cond.selects RJ0 yJ0_isLatin1_aae02 yJ0_isLatin1_aae02, Cond.code yJ0_isLatin1_aae02 cJ0_isLatin1_aae02 1 (some .boolean), Cond.fieldLink RJ0 38 "java/lang/String" "COMPACT_STRINGS" "Z", Cond.fieldLink RJ0 15 "java/lang/String" "coder" "B", Cond.methodLink RJ0 495 yJ1_charAt_3b067, Cond.static yJ1_charAt_3b067, Cond.initialized RJ1, Cond.code yJ1_charAt_3b067 cJ1_charAt_3b067 2 (some .char), Cond.methodLink RJ1 9 yJ0_checkIndex_df160, Cond.static yJ0_checkIndex_df160, Cond.code yJ0_checkIndex_df160 cJ0_checkIndex_df160 2 none, Cond.fieldLink RJ0 1053 "jdk/internal/util/Preconditions" "SIOOBE_FORMATTER" "Ljava/util/function/BiFunction;", Cond.methodLink RJ0 1059 yJ3_checkIndex_8e157, Cond.static yJ3_checkIndex_8e157, Cond.initialized RJ3, Cond.code yJ3_checkIndex_8e157 cJ3_checkIndex_8e157 3 (some .int), Cond.methodLink RJ0 498 yJ2_charAt_3b067, Cond.static yJ2_charAt_3b067, Cond.initialized RJ2, Cond.code yJ2_charAt_3b067 cJ2_charAt_3b067 2 (some .char), Cond.methodLink RJ2 67 yJ2_checkIndex_2214a, Cond.static yJ2_checkIndex_2214a, Cond.code yJ2_checkIndex_2214a cJ2_checkIndex_2214a 2 none, Cond.methodLink RJ2 48 yJ2_length_9d52b]
def wsX5_faultOf_r4 : List Cond := [Cond.static yJ2_length_9d52b, Cond.code yJ2_length_9d52b cJ2_length_9d52b 1 (some .int), Cond.methodLink RJ2 414 yJ0_checkIndex_df160, Cond.methodLink RJ2 71 yJ2_getChar_3b067, Cond.static yJ2_getChar_3b067, Cond.code yJ2_getChar_3b067 cJ2_getChar_3b067 2 (some .char), Cond.fieldLink RJ2 44 "java/lang/StringUTF16" "$assertionsDisabled" "Z", Cond.fieldLink RJ2 59 "java/lang/StringUTF16" "HI_BYTE_SHIFT" "I", Cond.fieldLink RJ2 63 "java/lang/StringUTF16" "LO_BYTE_SHIFT" "I", Cond.methodLink RX5 67 yX5_isDigit, Cond.static yX5_isDigit, Cond.code yX5_isDigit cX5_isDigit 1 (some .boolean), Cond.methodLink RX5 70 yX5_readAmount, Cond.instanceMethod yX5_readAmount, Cond.selects RX5 yX5_readAmount yX5_readAmount, Cond.code yX5_readAmount cX5_readAmount 2 none, Cond.methodLink RX5 43 yX5_readsItem, Cond.instanceMethod yX5_readsItem, Cond.selects RX5 yX5_readsItem yX5_readsItem, Cond.code yX5_readsItem cX5_readsItem 5 (some .boolean), Cond.instanceMethod yX7_wasTold, Cond.selects RX7 yX7_wasTold yX7_wasTold, Cond.code yX7_wasTold cX7_wasTold 2 (some .boolean), Cond.instanceMethod yX7_tell]
def wsX5_faultOf_r5 : List Cond := [Cond.selects RX7 yX7_tell yX7_tell, Cond.code yX7_tell cX7_tell 3 none]
def wsX5_faultOf : List Cond := .code yX5_faultOf cX5_faultOf 5 (some .int) :: ((wsX5_faultOf_r1 ++ (wsX5_faultOf_r2 ++ (wsX5_faultOf_r3 ++ (wsX5_faultOf_r4 ++ wsX5_faultOf_r5)))) ++ wsX50 ++ wsX70)
def wsX6_begin : List Cond := .code yX6_begin cX6_begin 4 none :: ([.fieldLink RX6 9 "SelfSteer$Ride" "bicycle" "I", .fieldLink RX6 15 "SelfSteer$Ride" "speed" "I", .fieldLink RX6 18 "SelfSteer$Ride" "reversed" "Z", .fieldLink RX6 22 "SelfSteer$Ride" "lean" "I", .fieldLink RX6 25 "SelfSteer$Ride" "bar" "I", .fieldLink RX6 28 "SelfSteer$Ride" "leanChange" "I", .fieldLink RX6 31 "SelfSteer$Ride" "barChange" "I", .fieldLink RX6 34 "SelfSteer$Ride" "hand" "I", .fieldLink RX6 37 "SelfSteer$Ride" "ticks" "I", .fieldLink RX6 40 "SelfSteer$Ride" "lies" "Z"] ++ wsX60)
def wsX6_lookWhetherItFalls : List Cond := .code yX6_lookWhetherItFalls cX6_lookWhetherItFalls 1 none :: ([.fieldLink RX6 22 "SelfSteer$Ride" "lean" "I", .fieldLink RX6 40 "SelfSteer$Ride" "lies" "Z"] ++ wsX60)
def wsX6_takePush : List Cond := .code yX6_takePush cX6_takePush 2 none :: ([.fieldLink RX6 22 "SelfSteer$Ride" "lean" "I", .methodLink RX6 59 yX6_lookWhetherItFalls, .instanceMethod yX6_lookWhetherItFalls, .selects RX6 yX6_lookWhetherItFalls yX6_lookWhetherItFalls, .initialized RX6, .code yX6_lookWhetherItFalls cX6_lookWhetherItFalls 1 none, .fieldLink RX6 40 "SelfSteer$Ride" "lies" "Z"] ++ wsX60)
def wsJ9_floorMod_7cf53 : List Cond := .code yJ9_floorMod_7cf53 cJ9_floorMod_7cf53 3 (some .int) :: ([])
def wsX6_remember : List Cond := .code yX6_remember cX6_remember 2 none :: ([.fieldLink RX6 37 "SelfSteer$Ride" "ticks" "I", .fieldLink RX6 43 "SelfSteer$Ride" "pastLean" "[I", .fieldLink RX6 22 "SelfSteer$Ride" "lean" "I", .fieldLink RX6 47 "SelfSteer$Ride" "pastLeanChange" "[I", .fieldLink RX6 28 "SelfSteer$Ride" "leanChange" "I", .fieldLink RX6 50 "SelfSteer$Ride" "pastBar" "[I", .fieldLink RX6 25 "SelfSteer$Ride" "bar" "I", .methodLink RX6 88 yJ9_floorMod_7cf53, .static yJ9_floorMod_7cf53, .initialized RJ9, .code yJ9_floorMod_7cf53 cJ9_floorMod_7cf53 3 (some .int)] ++ wsX60)
def wsX8_clamp : List Cond := .code yX8_clamp cX8_clamp 2 (some .int) :: ([.methodLink RX8 286 Lib.Math.min.name, .static Lib.Math.min.name, .initialized "java/lang/Math", .code Lib.Math.min.name Lib.Math.min.code 2 (some .int), .methodLink RX8 291 Lib.Math.max.name, .static Lib.Math.max.name, .code Lib.Math.max.name Lib.Math.max.code 2 (some .int)])
def wsX6_handOf : List Cond := .code yX6_handOf cX6_handOf 6 (some .int) :: ([.fieldLink RX6 37 "SelfSteer$Ride" "ticks" "I", .fieldLink RX6 43 "SelfSteer$Ride" "pastLean" "[I", .fieldLink RX6 47 "SelfSteer$Ride" "pastLeanChange" "[I", .fieldLink RX6 50 "SelfSteer$Ride" "pastBar" "[I", .fieldLink RX6 18 "SelfSteer$Ride" "reversed" "Z", .methodLink RX6 88 yJ9_floorMod_7cf53, .static yJ9_floorMod_7cf53, .initialized RJ9, .code yJ9_floorMod_7cf53 cJ9_floorMod_7cf53 3 (some .int), .static yX8_clamp, .initialized RX8, .code yX8_clamp cX8_clamp 2 (some .int), .methodLink RX8 286 Lib.Math.min.name, .static Lib.Math.min.name, .initialized "java/lang/Math", .code Lib.Math.min.name Lib.Math.min.code 2 (some .int), .methodLink RX8 291 Lib.Math.max.name, .static Lib.Math.max.name, .code Lib.Math.max.name Lib.Math.max.code 2 (some .int)] ++ wsX60 ++ wsX70)
def wsX6_doTick_r1 : List Cond := [Cond.fieldLink RX6 34 "SelfSteer$Ride" "hand" "I", Cond.methodLink RX6 78 Lib.Math.max.name, Cond.static Lib.Math.max.name, Cond.initialized "java/lang/Math", Cond.code Lib.Math.max.name Lib.Math.max.code 2 (some .int), Cond.fieldLink RX6 15 "SelfSteer$Ride" "speed" "I", Cond.fieldLink RX6 22 "SelfSteer$Ride" "lean" "I", Cond.fieldLink RX6 25 "SelfSteer$Ride" "bar" "I", Cond.fieldLink RX6 31 "SelfSteer$Ride" "barChange" "I", Cond.fieldLink RX6 28 "SelfSteer$Ride" "leanChange" "I", Cond.constant RX6 84 (100000), Cond.fieldLink RX6 37 "SelfSteer$Ride" "ticks" "I", Cond.methodLink RX6 66 yX6_remember, Cond.instanceMethod yX6_remember, Cond.selects RX6 yX6_remember yX6_remember, Cond.initialized RX6, Cond.code yX6_remember cX6_remember 2 none, Cond.fieldLink RX6 43 "SelfSteer$Ride" "pastLean" "[I", Cond.fieldLink RX6 47 "SelfSteer$Ride" "pastLeanChange" "[I", Cond.fieldLink RX6 50 "SelfSteer$Ride" "pastBar" "[I", Cond.methodLink RX6 88 yJ9_floorMod_7cf53, Cond.static yJ9_floorMod_7cf53, Cond.initialized RJ9, Cond.code yJ9_floorMod_7cf53 cJ9_floorMod_7cf53 3 (some .int)]
def wsX6_doTick_r2 : List Cond := [Cond.methodLink RX6 69 yX6_handOf, Cond.instanceMethod yX6_handOf, Cond.selects RX6 yX6_handOf yX6_handOf, Cond.code yX6_handOf cX6_handOf 6 (some .int), Cond.fieldLink RX6 18 "SelfSteer$Ride" "reversed" "Z", Cond.static yX8_clamp, Cond.initialized RX8, Cond.code yX8_clamp cX8_clamp 2 (some .int), Cond.methodLink RX8 286 Lib.Math.min.name, Cond.static Lib.Math.min.name, Cond.code Lib.Math.min.name Lib.Math.min.code 2 (some .int), Cond.methodLink RX8 291 Lib.Math.max.name, Cond.methodLink RX6 59 yX6_lookWhetherItFalls, Cond.instanceMethod yX6_lookWhetherItFalls, Cond.selects RX6 yX6_lookWhetherItFalls yX6_lookWhetherItFalls, Cond.code yX6_lookWhetherItFalls cX6_lookWhetherItFalls 1 none, Cond.fieldLink RX6 40 "SelfSteer$Ride" "lies" "Z"]
def wsX6_doTick : List Cond := .code yX6_doTick cX6_doTick 10 none :: ((wsX6_doTick_r1 ++ wsX6_doTick_r2) ++ wsX60 ++ wsX00 ++ wsX70)
def wsX6_goOn_r1 : List Cond := [Cond.fieldLink RX6 40 "SelfSteer$Ride" "lies" "Z", Cond.methodLink RX6 62 yX6_doTick, Cond.instanceMethod yX6_doTick, Cond.selects RX6 yX6_doTick yX6_doTick, Cond.initialized RX6, Cond.code yX6_doTick cX6_doTick 10 none, Cond.fieldLink RX6 34 "SelfSteer$Ride" "hand" "I", Cond.methodLink RX6 78 Lib.Math.max.name, Cond.static Lib.Math.max.name, Cond.initialized "java/lang/Math", Cond.code Lib.Math.max.name Lib.Math.max.code 2 (some .int), Cond.fieldLink RX6 15 "SelfSteer$Ride" "speed" "I", Cond.fieldLink RX6 22 "SelfSteer$Ride" "lean" "I", Cond.fieldLink RX6 25 "SelfSteer$Ride" "bar" "I", Cond.fieldLink RX6 31 "SelfSteer$Ride" "barChange" "I", Cond.fieldLink RX6 28 "SelfSteer$Ride" "leanChange" "I", Cond.constant RX6 84 (100000), Cond.fieldLink RX6 37 "SelfSteer$Ride" "ticks" "I", Cond.methodLink RX6 66 yX6_remember, Cond.instanceMethod yX6_remember, Cond.selects RX6 yX6_remember yX6_remember, Cond.code yX6_remember cX6_remember 2 none, Cond.fieldLink RX6 43 "SelfSteer$Ride" "pastLean" "[I", Cond.fieldLink RX6 47 "SelfSteer$Ride" "pastLeanChange" "[I"]
def wsX6_goOn_r2 : List Cond := [Cond.fieldLink RX6 50 "SelfSteer$Ride" "pastBar" "[I", Cond.methodLink RX6 88 yJ9_floorMod_7cf53, Cond.static yJ9_floorMod_7cf53, Cond.initialized RJ9, Cond.code yJ9_floorMod_7cf53 cJ9_floorMod_7cf53 3 (some .int), Cond.methodLink RX6 69 yX6_handOf, Cond.instanceMethod yX6_handOf, Cond.selects RX6 yX6_handOf yX6_handOf, Cond.code yX6_handOf cX6_handOf 6 (some .int), Cond.fieldLink RX6 18 "SelfSteer$Ride" "reversed" "Z", Cond.static yX8_clamp, Cond.initialized RX8, Cond.code yX8_clamp cX8_clamp 2 (some .int), Cond.methodLink RX8 286 Lib.Math.min.name, Cond.static Lib.Math.min.name, Cond.code Lib.Math.min.name Lib.Math.min.code 2 (some .int), Cond.methodLink RX8 291 Lib.Math.max.name, Cond.methodLink RX6 59 yX6_lookWhetherItFalls, Cond.instanceMethod yX6_lookWhetherItFalls, Cond.selects RX6 yX6_lookWhetherItFalls yX6_lookWhetherItFalls, Cond.code yX6_lookWhetherItFalls cX6_lookWhetherItFalls 1 none]
def wsX6_goOn : List Cond := .code yX6_goOn cX6_goOn 5 (some .int) :: ((wsX6_goOn_r1 ++ wsX6_goOn_r2) ++ wsX60 ++ wsX00 ++ wsX70)
def wsX7_init : List Cond := .code yX7_init cX7_init 1 none :: ([.methodLink RX7 1 objectInit, .instanceMethod objectInit, .code objectInit ⟨#[0xb1]⟩ 1 none, .arrayClass .int, .fieldLink RX7 9 "SelfSteer$Rider" "values" "[I", .fieldLink RX7 13 "SelfSteer$Rider" "toldBits" "I", .fieldLink RX7 17 "SelfSteer$Rider" "UNTOLD" "[I", .methodLink RX7 20 arraycopyName, .native arraycopyName, .static arraycopyName, .initialized "java/lang/System"] ++ wsX70)
def wsX7_copyFrom : List Cond := .code yX7_copyFrom cX7_copyFrom 2 none :: ([.fieldLink RX7 9 "SelfSteer$Rider" "values" "[I", .methodLink RX7 20 arraycopyName, .native arraycopyName, .static arraycopyName, .initialized "java/lang/System", .fieldLink RX7 13 "SelfSteer$Rider" "toldBits" "I"] ++ wsX70)
def wsX7_itemCount : List Cond := .code yX7_itemCount cX7_itemCount 1 (some .int) :: ([.fieldLink RX7 13 "SelfSteer$Rider" "toldBits" "I", .methodLink RX7 32 yJ6_bitCount_0f7a4, .static yJ6_bitCount_0f7a4, .initialized RJ6, .code yJ6_bitCount_0f7a4 cJ6_bitCount_0f7a4 1 (some .int), .constant RJ6 265 (1431655765), .constant RJ6 266 (858993459), .constant RJ6 267 (252645135)] ++ wsX70)
def wsX8_init_r1 : List Cond := [Cond.methodLink RX8 1 objectInit, Cond.instanceMethod objectInit, Cond.code objectInit ⟨#[0xb1]⟩ 1 none, Cond.classLink RX8 9 RX0, Cond.fieldLink RX8 11 "SelfSteer" "bicycles" "[LSelfSteer$Bicycle;", Cond.instantiable RX0 1, Cond.initialized RX0, Cond.fieldLink RX8 16 "SelfSteer" "trial" "LSelfSteer$Bicycle;", Cond.classLink RX8 20 RX1, Cond.instantiable RX1 1, Cond.initialized RX1, Cond.fieldLink RX8 23 "SelfSteer" "change" "LSelfSteer$Change;", Cond.classLink RX8 27 RX2, Cond.instantiable RX2 3, Cond.initialized RX2, Cond.fieldLink RX8 30 "SelfSteer" "doubt" "LSelfSteer$Doubt;", Cond.arrayClass .int, Cond.fieldLink RX8 34 "SelfSteer" "text" "[I", Cond.fieldLink RX8 38 "SelfSteer" "textLength" "I", Cond.classLink RX8 42 RX5, Cond.instantiable RX5 6, Cond.initialized RX5, Cond.fieldLink RX8 45 "SelfSteer" "reader" "LSelfSteer$Reader;", Cond.classLink RX8 49 RX7]
def wsX8_init_r2 : List Cond := [Cond.instantiable RX7 2, Cond.initialized RX7, Cond.fieldLink RX8 52 "SelfSteer" "draft" "LSelfSteer$Rider;", Cond.fieldLink RX8 56 "SelfSteer" "theRider" "LSelfSteer$Rider;", Cond.classLink RX8 59 RX6, Cond.instantiable RX6 13, Cond.initialized RX6, Cond.fieldLink RX8 62 "SelfSteer" "theRide" "LSelfSteer$Ride;", Cond.fieldLink RX8 66 "SelfSteer" "trialRide" "LSelfSteer$Ride;", Cond.classLink RX8 69 RX3, Cond.instantiable RX3 2, Cond.initialized RX3, Cond.fieldLink RX8 72 "SelfSteer" "habits" "LSelfSteer$Habits;", Cond.fieldLink RX8 76 "SelfSteer" "weekUp" "I", Cond.fieldLink RX8 79 "SelfSteer" "weekDown" "I", Cond.classLink RX8 82 RX4, Cond.fieldLink RX8 84 "SelfSteer" "images" "[LSelfSteer$Image;", Cond.fieldLink RX8 88 "SelfSteer" "traced" "J", Cond.instantiable RX4 3, Cond.initialized RX4, Cond.instanceMethod yX0_init, Cond.code yX0_init cX0_init 1 none, Cond.methodLink RX0 3 objectInit, Cond.fieldLink RX0 9 "SelfSteer$Bicycle" "numbers" "[I"]
def wsX8_init_r3 : List Cond := [Cond.methodLink RX0 18 arraycopyName, Cond.native arraycopyName, Cond.static arraycopyName, Cond.initialized "java/lang/System", Cond.instanceMethod yX1_init, Cond.code yX1_init cX1_init 1 none, Cond.methodLink RX1 3 objectInit, Cond.classLink RX1 9 RX0, Cond.fieldLink RX1 12 "SelfSteer$Change" "tried" "LSelfSteer$Bicycle;", Cond.instanceMethod yX2_init, Cond.code yX2_init cX2_init 2 none, Cond.methodLink RX2 3 objectInit, Cond.classLink RX2 9 RX0, Cond.fieldLink RX2 12 "SelfSteer$Doubt" "tried" "LSelfSteer$Bicycle;", Cond.fieldLink RX2 18 "SelfSteer$Doubt" "changed" "[I", Cond.fieldLink RX2 22 "SelfSteer$Doubt" "speedCounts" "[I", Cond.methodLink RX2 25 yX2_changedIn, Cond.static yX2_changedIn, Cond.code yX2_changedIn cX2_changedIn 4 (some .int), Cond.instanceMethod yX5_init, Cond.code yX5_init cX5_init 1 none, Cond.methodLink RX5 1 objectInit, Cond.fieldLink RX5 7 "SelfSteer$Reader" "bytes" "[I", Cond.fieldLink RX5 13 "SelfSteer$Reader" "length" "I"]
def wsX8_init_r4 : List Cond := [Cond.fieldLink RX5 17 "SelfSteer$Reader" "place" "I", Cond.fieldLink RX5 20 "SelfSteer$Reader" "begin" "I", Cond.fieldLink RX5 23 "SelfSteer$Reader" "token" "I", Cond.fieldLink RX5 26 "SelfSteer$Reader" "value" "I", Cond.instanceMethod yX7_init, Cond.code yX7_init cX7_init 1 none, Cond.methodLink RX7 1 objectInit, Cond.fieldLink RX7 9 "SelfSteer$Rider" "values" "[I", Cond.fieldLink RX7 13 "SelfSteer$Rider" "toldBits" "I", Cond.fieldLink RX7 17 "SelfSteer$Rider" "UNTOLD" "[I", Cond.methodLink RX7 20 arraycopyName, Cond.instanceMethod yX6_init, Cond.code yX6_init cX6_init 1 none, Cond.methodLink RX6 3 objectInit, Cond.fieldLink RX6 9 "SelfSteer$Ride" "bicycle" "I", Cond.fieldLink RX6 15 "SelfSteer$Ride" "speed" "I", Cond.fieldLink RX6 18 "SelfSteer$Ride" "reversed" "Z", Cond.fieldLink RX6 22 "SelfSteer$Ride" "lean" "I", Cond.fieldLink RX6 25 "SelfSteer$Ride" "bar" "I", Cond.fieldLink RX6 28 "SelfSteer$Ride" "leanChange" "I", Cond.fieldLink RX6 31 "SelfSteer$Ride" "barChange" "I", Cond.fieldLink RX6 34 "SelfSteer$Ride" "hand" "I", Cond.fieldLink RX6 37 "SelfSteer$Ride" "ticks" "I", Cond.fieldLink RX6 40 "SelfSteer$Ride" "lies" "Z"]
def wsX8_init_r5 : List Cond := [Cond.fieldLink RX6 43 "SelfSteer$Ride" "pastLean" "[I", Cond.fieldLink RX6 47 "SelfSteer$Ride" "pastLeanChange" "[I", Cond.fieldLink RX6 50 "SelfSteer$Ride" "pastBar" "[I", Cond.instanceMethod yX3_init, Cond.code yX3_init cX3_init 1 none, Cond.methodLink RX3 1 objectInit, Cond.fieldLink RX3 9 "SelfSteer$Habits" "values" "[I", Cond.arrayClass .boolean, Cond.fieldLink RX3 13 "SelfSteer$Habits" "wasWhole" "[Z", Cond.instanceMethod yX4_init, Cond.code yX4_init cX4_init 1 none, Cond.methodLink RX4 1 objectInit, Cond.classLink RX4 7 RX6, Cond.fieldLink RX4 10 "SelfSteer$Image" "ride" "LSelfSteer$Ride;", Cond.classLink RX4 16 RX3, Cond.fieldLink RX4 19 "SelfSteer$Image" "habits" "LSelfSteer$Habits;", Cond.fieldLink RX4 23 "SelfSteer$Image" "kept" "Z"]
def wsX8_init : List Cond := .code yX8_init cX8_init 2 none :: ((wsX8_init_r1 ++ (wsX8_init_r2 ++ (wsX8_init_r3 ++ (wsX8_init_r4 ++ wsX8_init_r5)))) ++ wsX80 ++ wsX00 ++ wsX10 ++ wsX20 ++ wsX50 ++ wsX70 ++ wsX60 ++ wsX30 ++ wsX40)
def wsX8_isBicycle : List Cond := .code yX8_isBicycle cX8_isBicycle 1 (some .boolean) :: ([.methodLink RX8 106 yX8_within, .static yX8_within, .initialized RX8, .code yX8_within cX8_within 3 (some .boolean)])
def wsX8_number : List Cond := .code yX8_number cX8_number 5 (some .int) :: ([.fieldLink RX8 100 "SelfSteer" "LOWEST" "[I", .fieldLink RX8 103 "SelfSteer" "HIGHEST" "[I", .constant RX8 110 (-1000000), .fieldLink RX8 11 "SelfSteer" "bicycles" "[LSelfSteer$Bicycle;", .methodLink RX8 93 yX8_isBicycle, .static yX8_isBicycle, .initialized RX8, .code yX8_isBicycle cX8_isBicycle 1 (some .boolean), .methodLink RX8 106 yX8_within, .static yX8_within, .code yX8_within cX8_within 3 (some .boolean), .methodLink RX8 97 yX8_isNumber, .static yX8_isNumber, .code yX8_isNumber cX8_isNumber 1 (some .boolean), .instanceMethod yX0_valueOf, .initialized RX0, .selects RX0 yX0_valueOf yX0_valueOf, .code yX0_valueOf cX0_valueOf 2 (some .int), .fieldLink RX0 9 "SelfSteer$Bicycle" "numbers" "[I", .instanceMethod yX0_put, .selects RX0 yX0_put yX0_put, .code yX0_put cX0_put 3 none] ++ wsX80 ++ wsX00)
def wsX8_has : List Cond := .code yX8_has cX8_has 3 (some .int) :: ([.fieldLink RX8 11 "SelfSteer" "bicycles" "[LSelfSteer$Bicycle;", .constant RX8 110 (-1000000), .methodLink RX8 93 yX8_isBicycle, .static yX8_isBicycle, .initialized RX8, .code yX8_isBicycle cX8_isBicycle 1 (some .boolean), .methodLink RX8 106 yX8_within, .static yX8_within, .code yX8_within cX8_within 3 (some .boolean), .methodLink RX8 97 yX8_isNumber, .static yX8_isNumber, .code yX8_isNumber cX8_isNumber 1 (some .boolean), .instanceMethod yX0_valueOf, .initialized RX0, .selects RX0 yX0_valueOf yX0_valueOf, .code yX0_valueOf cX0_valueOf 2 (some .int), .fieldLink RX0 9 "SelfSteer$Bicycle" "numbers" "[I"] ++ wsX80 ++ wsX00)
def wsX8_isSpeed : List Cond := .code yX8_isSpeed cX8_isSpeed 1 (some .boolean) :: ([.methodLink RX8 106 yX8_within, .static yX8_within, .initialized RX8, .code yX8_within cX8_within 3 (some .boolean)])
def wsX8_isHand : List Cond := .code yX8_isHand cX8_isHand 1 (some .boolean) :: ([.methodLink RX8 106 yX8_within, .static yX8_within, .initialized RX8, .code yX8_within cX8_within 3 (some .boolean)])
def wsX8_sign_r1 : List Cond := [Cond.constantLong RX8 127 (-9223372036854775808), Cond.fieldLink RX8 11 "SelfSteer" "bicycles" "[LSelfSteer$Bicycle;", Cond.methodLink RX8 93 yX8_isBicycle, Cond.static yX8_isBicycle, Cond.initialized RX8, Cond.code yX8_isBicycle cX8_isBicycle 1 (some .boolean), Cond.methodLink RX8 106 yX8_within, Cond.static yX8_within, Cond.code yX8_within cX8_within 3 (some .boolean), Cond.methodLink RX8 119 yX8_isSpeed, Cond.static yX8_isSpeed, Cond.code yX8_isSpeed cX8_isSpeed 1 (some .boolean), Cond.methodLink RX8 122 yX8_isHand, Cond.static yX8_isHand, Cond.code yX8_isHand cX8_isHand 1 (some .boolean), Cond.instanceMethod yX0_signThree, Cond.initialized RX0, Cond.selects RX0 yX0_signThree yX0_signThree, Cond.code yX0_signThree cX0_signThree 1 (some .long), Cond.constantLong RX0 28 (100), Cond.fieldLink RX0 9 "SelfSteer$Bicycle" "numbers" "[I", Cond.instanceMethod yX0_signTwo, Cond.selects RX0 yX0_signTwo yX0_signTwo, Cond.code yX0_signTwo cX0_signTwo 5 (some .long)]
def wsX8_sign_r2 : List Cond := [Cond.constantLong RX0 30 (10), Cond.instanceMethod yX0_signOne, Cond.selects RX0 yX0_signOne yX0_signOne, Cond.code yX0_signOne cX0_signOne 8 (some .long), Cond.instanceMethod yX0_signZero, Cond.selects RX0 yX0_signZero yX0_signZero, Cond.code yX0_signZero cX0_signZero 5 (some .long)]
def wsX8_sign : List Cond := .code yX8_sign cX8_sign 7 (some .long) :: ((wsX8_sign_r1 ++ wsX8_sign_r2) ++ wsX80 ++ wsX00)
def wsX8_stays_r1 : List Cond := [Cond.fieldLink RX8 11 "SelfSteer" "bicycles" "[LSelfSteer$Bicycle;", Cond.methodLink RX8 93 yX8_isBicycle, Cond.static yX8_isBicycle, Cond.initialized RX8, Cond.code yX8_isBicycle cX8_isBicycle 1 (some .boolean), Cond.methodLink RX8 106 yX8_within, Cond.static yX8_within, Cond.code yX8_within cX8_within 3 (some .boolean), Cond.methodLink RX8 119 yX8_isSpeed, Cond.static yX8_isSpeed, Cond.code yX8_isSpeed cX8_isSpeed 1 (some .boolean), Cond.methodLink RX8 122 yX8_isHand, Cond.static yX8_isHand, Cond.code yX8_isHand cX8_isHand 1 (some .boolean), Cond.instanceMethod yX0_staysUp, Cond.initialized RX0, Cond.selects RX0 yX0_staysUp yX0_staysUp, Cond.code yX0_staysUp cX0_staysUp 12 (some .boolean), Cond.constantLong RX0 28 (100), Cond.fieldLink RX0 9 "SelfSteer$Bicycle" "numbers" "[I", Cond.methodLink RX0 32 yX0_signZero, Cond.instanceMethod yX0_signZero, Cond.selects RX0 yX0_signZero yX0_signZero, Cond.code yX0_signZero cX0_signZero 5 (some .long)]
def wsX8_stays_r2 : List Cond := [Cond.constantLong RX0 30 (10), Cond.methodLink RX0 36 yX0_signTwo, Cond.instanceMethod yX0_signTwo, Cond.selects RX0 yX0_signTwo yX0_signTwo, Cond.code yX0_signTwo cX0_signTwo 5 (some .long), Cond.methodLink RX0 39 yX0_signOne, Cond.instanceMethod yX0_signOne, Cond.selects RX0 yX0_signOne yX0_signOne, Cond.code yX0_signOne cX0_signOne 8 (some .long), Cond.methodLink RX0 43 yX0_signThree, Cond.instanceMethod yX0_signThree, Cond.selects RX0 yX0_signThree yX0_signThree, Cond.code yX0_signThree cX0_signThree 1 (some .long)]
def wsX8_stays : List Cond := .code yX8_stays cX8_stays 5 (some .int) :: ((wsX8_stays_r1 ++ wsX8_stays_r2) ++ wsX80 ++ wsX00)
def wsX8_range_r1 : List Cond := [Cond.fieldLink RX8 11 "SelfSteer" "bicycles" "[LSelfSteer$Bicycle;", Cond.constantLong RX8 150 (-1), Cond.methodLink RX8 93 yX8_isBicycle, Cond.static yX8_isBicycle, Cond.initialized RX8, Cond.code yX8_isBicycle cX8_isBicycle 1 (some .boolean), Cond.methodLink RX8 106 yX8_within, Cond.static yX8_within, Cond.code yX8_within cX8_within 3 (some .boolean), Cond.instanceMethod yX0_speeds, Cond.initialized RX0, Cond.selects RX0 yX0_speeds yX0_speeds, Cond.code yX0_speeds cX0_speeds 4 (some .long), Cond.fieldLink RX0 9 "SelfSteer$Bicycle" "numbers" "[I", Cond.methodLink RX0 43 yX0_signThree, Cond.instanceMethod yX0_signThree, Cond.selects RX0 yX0_signThree yX0_signThree, Cond.code yX0_signThree cX0_signThree 1 (some .long), Cond.constantLong RX0 28 (100), Cond.methodLink RX0 32 yX0_signZero, Cond.instanceMethod yX0_signZero, Cond.selects RX0 yX0_signZero yX0_signZero, Cond.code yX0_signZero cX0_signZero 5 (some .long), Cond.constantLong RX0 30 (10)]
def wsX8_range_r2 : List Cond := [Cond.methodLink RX0 47 yX0_staysUp, Cond.instanceMethod yX0_staysUp, Cond.selects RX0 yX0_staysUp yX0_staysUp, Cond.code yX0_staysUp cX0_staysUp 12 (some .boolean), Cond.methodLink RX0 36 yX0_signTwo, Cond.instanceMethod yX0_signTwo, Cond.selects RX0 yX0_signTwo yX0_signTwo, Cond.code yX0_signTwo cX0_signTwo 5 (some .long), Cond.methodLink RX0 39 yX0_signOne, Cond.instanceMethod yX0_signOne, Cond.selects RX0 yX0_signOne yX0_signOne, Cond.code yX0_signOne cX0_signOne 8 (some .long)]
def wsX8_range : List Cond := .code yX8_range cX8_range 2 (some .long) :: ((wsX8_range_r1 ++ wsX8_range_r2) ++ wsX80 ++ wsX00)
def wsX8_isReason : List Cond := .code yX8_isReason cX8_isReason 1 (some .boolean) :: ([.methodLink RX8 106 yX8_within, .static yX8_within, .initialized RX8, .code yX8_within cX8_within 3 (some .boolean)])
def wsX8_speedsWith_r1 : List Cond := [Cond.fieldLink RX8 16 "SelfSteer" "trial" "LSelfSteer$Bicycle;", Cond.instanceMethod yX0_copyFrom, Cond.initialized RX0, Cond.selects RX0 yX0_copyFrom yX0_copyFrom, Cond.code yX0_copyFrom cX0_copyFrom 2 none, Cond.fieldLink RX0 9 "SelfSteer$Bicycle" "numbers" "[I", Cond.methodLink RX0 18 arraycopyName, Cond.native arraycopyName, Cond.static arraycopyName, Cond.initialized "java/lang/System", Cond.instanceMethod yX0_put, Cond.selects RX0 yX0_put yX0_put, Cond.code yX0_put cX0_put 3 none, Cond.static yX8_isNumber, Cond.initialized RX8, Cond.code yX8_isNumber cX8_isNumber 1 (some .boolean), Cond.methodLink RX8 106 yX8_within, Cond.static yX8_within, Cond.code yX8_within cX8_within 3 (some .boolean), Cond.instanceMethod yX0_speeds, Cond.selects RX0 yX0_speeds yX0_speeds, Cond.code yX0_speeds cX0_speeds 4 (some .long), Cond.methodLink RX0 43 yX0_signThree, Cond.instanceMethod yX0_signThree]
def wsX8_speedsWith_r2 : List Cond := [Cond.selects RX0 yX0_signThree yX0_signThree, Cond.code yX0_signThree cX0_signThree 1 (some .long), Cond.constantLong RX0 28 (100), Cond.methodLink RX0 32 yX0_signZero, Cond.instanceMethod yX0_signZero, Cond.selects RX0 yX0_signZero yX0_signZero, Cond.code yX0_signZero cX0_signZero 5 (some .long), Cond.constantLong RX0 30 (10), Cond.methodLink RX0 47 yX0_staysUp, Cond.instanceMethod yX0_staysUp, Cond.selects RX0 yX0_staysUp yX0_staysUp, Cond.code yX0_staysUp cX0_staysUp 12 (some .boolean), Cond.methodLink RX0 36 yX0_signTwo, Cond.instanceMethod yX0_signTwo, Cond.selects RX0 yX0_signTwo yX0_signTwo, Cond.code yX0_signTwo cX0_signTwo 5 (some .long), Cond.methodLink RX0 39 yX0_signOne, Cond.instanceMethod yX0_signOne, Cond.selects RX0 yX0_signOne yX0_signOne, Cond.code yX0_signOne cX0_signOne 8 (some .long)]
def wsX8_speedsWith : List Cond := .code yX8_speedsWith cX8_speedsWith 4 (some .long) :: ((wsX8_speedsWith_r1 ++ wsX8_speedsWith_r2) ++ wsX80 ++ wsX00)
def wsX8_without_r1 : List Cond := [Cond.constantLong RX8 150 (-1), Cond.fieldLink RX8 11 "SelfSteer" "bicycles" "[LSelfSteer$Bicycle;", Cond.methodLink RX8 93 yX8_isBicycle, Cond.static yX8_isBicycle, Cond.initialized RX8, Cond.code yX8_isBicycle cX8_isBicycle 1 (some .boolean), Cond.methodLink RX8 106 yX8_within, Cond.static yX8_within, Cond.code yX8_within cX8_within 3 (some .boolean), Cond.methodLink RX8 152 yX8_isReason, Cond.static yX8_isReason, Cond.code yX8_isReason cX8_isReason 1 (some .boolean), Cond.methodLink RX8 155 yX8_speedsWith, Cond.instanceMethod yX8_speedsWith, Cond.selects RX8 yX8_speedsWith yX8_speedsWith, Cond.code yX8_speedsWith cX8_speedsWith 4 (some .long), Cond.fieldLink RX8 16 "SelfSteer" "trial" "LSelfSteer$Bicycle;", Cond.instanceMethod yX0_copyFrom, Cond.initialized RX0, Cond.selects RX0 yX0_copyFrom yX0_copyFrom, Cond.code yX0_copyFrom cX0_copyFrom 2 none, Cond.fieldLink RX0 9 "SelfSteer$Bicycle" "numbers" "[I", Cond.methodLink RX0 18 arraycopyName, Cond.native arraycopyName]
def wsX8_without_r2 : List Cond := [Cond.static arraycopyName, Cond.initialized "java/lang/System", Cond.instanceMethod yX0_put, Cond.selects RX0 yX0_put yX0_put, Cond.code yX0_put cX0_put 3 none, Cond.static yX8_isNumber, Cond.code yX8_isNumber cX8_isNumber 1 (some .boolean), Cond.instanceMethod yX0_speeds, Cond.selects RX0 yX0_speeds yX0_speeds, Cond.code yX0_speeds cX0_speeds 4 (some .long), Cond.methodLink RX0 43 yX0_signThree, Cond.instanceMethod yX0_signThree, Cond.selects RX0 yX0_signThree yX0_signThree, Cond.code yX0_signThree cX0_signThree 1 (some .long), Cond.constantLong RX0 28 (100), Cond.methodLink RX0 32 yX0_signZero, Cond.instanceMethod yX0_signZero, Cond.selects RX0 yX0_signZero yX0_signZero, Cond.code yX0_signZero cX0_signZero 5 (some .long), Cond.constantLong RX0 30 (10), Cond.methodLink RX0 47 yX0_staysUp, Cond.instanceMethod yX0_staysUp, Cond.selects RX0 yX0_staysUp yX0_staysUp, Cond.code yX0_staysUp cX0_staysUp 12 (some .boolean)]
def wsX8_without_r3 : List Cond := [Cond.methodLink RX0 36 yX0_signTwo, Cond.instanceMethod yX0_signTwo, Cond.selects RX0 yX0_signTwo yX0_signTwo, Cond.code yX0_signTwo cX0_signTwo 5 (some .long), Cond.methodLink RX0 39 yX0_signOne, Cond.instanceMethod yX0_signOne, Cond.selects RX0 yX0_signOne yX0_signOne, Cond.code yX0_signOne cX0_signOne 8 (some .long)]
def wsX8_without : List Cond := .code yX8_without cX8_without 3 (some .long) :: ((wsX8_without_r1 ++ (wsX8_without_r2 ++ wsX8_without_r3)) ++ wsX80 ++ wsX00)
def wsX8_reason_r1 : List Cond := [Cond.constant RX8 110 (-1000000), Cond.fieldLink RX8 11 "SelfSteer" "bicycles" "[LSelfSteer$Bicycle;", Cond.fieldLink RX8 23 "SelfSteer" "change" "LSelfSteer$Change;", Cond.methodLink RX8 93 yX8_isBicycle, Cond.static yX8_isBicycle, Cond.initialized RX8, Cond.code yX8_isBicycle cX8_isBicycle 1 (some .boolean), Cond.methodLink RX8 106 yX8_within, Cond.static yX8_within, Cond.code yX8_within cX8_within 3 (some .boolean), Cond.methodLink RX8 152 yX8_isReason, Cond.static yX8_isReason, Cond.code yX8_isReason cX8_isReason 1 (some .boolean), Cond.instanceMethod yX0_speeds, Cond.initialized RX0, Cond.selects RX0 yX0_speeds yX0_speeds, Cond.code yX0_speeds cX0_speeds 4 (some .long), Cond.fieldLink RX0 9 "SelfSteer$Bicycle" "numbers" "[I", Cond.methodLink RX0 43 yX0_signThree, Cond.instanceMethod yX0_signThree, Cond.selects RX0 yX0_signThree yX0_signThree, Cond.code yX0_signThree cX0_signThree 1 (some .long), Cond.constantLong RX0 28 (100), Cond.methodLink RX0 32 yX0_signZero]
def wsX8_reason_r2 : List Cond := [Cond.instanceMethod yX0_signZero, Cond.selects RX0 yX0_signZero yX0_signZero, Cond.code yX0_signZero cX0_signZero 5 (some .long), Cond.constantLong RX0 30 (10), Cond.methodLink RX0 47 yX0_staysUp, Cond.instanceMethod yX0_staysUp, Cond.selects RX0 yX0_staysUp yX0_staysUp, Cond.code yX0_staysUp cX0_staysUp 12 (some .boolean), Cond.methodLink RX0 36 yX0_signTwo, Cond.instanceMethod yX0_signTwo, Cond.selects RX0 yX0_signTwo yX0_signTwo, Cond.code yX0_signTwo cX0_signTwo 5 (some .long), Cond.methodLink RX0 39 yX0_signOne, Cond.instanceMethod yX0_signOne, Cond.selects RX0 yX0_signOne yX0_signOne, Cond.code yX0_signOne cX0_signOne 8 (some .long), Cond.methodLink RX8 155 yX8_speedsWith, Cond.instanceMethod yX8_speedsWith, Cond.selects RX8 yX8_speedsWith yX8_speedsWith, Cond.code yX8_speedsWith cX8_speedsWith 4 (some .long), Cond.fieldLink RX8 16 "SelfSteer" "trial" "LSelfSteer$Bicycle;", Cond.instanceMethod yX0_copyFrom, Cond.selects RX0 yX0_copyFrom yX0_copyFrom, Cond.code yX0_copyFrom cX0_copyFrom 2 none]
def wsX8_reason_r3 : List Cond := [Cond.methodLink RX0 18 arraycopyName, Cond.native arraycopyName, Cond.static arraycopyName, Cond.initialized "java/lang/System", Cond.instanceMethod yX0_put, Cond.selects RX0 yX0_put yX0_put, Cond.code yX0_put cX0_put 3 none, Cond.static yX8_isNumber, Cond.code yX8_isNumber cX8_isNumber 1 (some .boolean), Cond.instanceMethod yX1_leastWithout, Cond.initialized RX1, Cond.selects RX1 yX1_leastWithout yX1_leastWithout, Cond.code yX1_leastWithout cX1_leastWithout 4 (some .int), Cond.methodLink RX1 18 yX1_findsFrom, Cond.instanceMethod yX1_findsFrom, Cond.selects RX1 yX1_findsFrom yX1_findsFrom, Cond.code yX1_findsFrom cX1_findsFrom 8 (some .boolean), Cond.fieldLink RX1 12 "SelfSteer$Change" "tried" "LSelfSteer$Bicycle;", Cond.methodLink RX1 38 Lib.Math.min.name, Cond.static Lib.Math.min.name, Cond.initialized "java/lang/Math", Cond.code Lib.Math.min.name Lib.Math.min.code 2 (some .int), Cond.methodLink RX1 47 Lib.Math.max.name, Cond.static Lib.Math.max.name]
def wsX8_reason_r4 : List Cond := [Cond.code Lib.Math.max.name Lib.Math.max.code 2 (some .int), Cond.methodLink RX1 50 Lib.Math.abs.name, Cond.static Lib.Math.abs.name, Cond.code Lib.Math.abs.name Lib.Math.abs.code 1 (some .int), Cond.instanceMethod yX0_valueOf, Cond.selects RX0 yX0_valueOf yX0_valueOf, Cond.code yX0_valueOf cX0_valueOf 2 (some .int), Cond.instanceMethod yX1_valueFound, Cond.selects RX1 yX1_valueFound yX1_valueFound, Cond.code yX1_valueFound cX1_valueFound 2 (some .int)]
def wsX8_reason : List Cond := .code yX8_reason cX8_reason 5 (some .int) :: ((wsX8_reason_r1 ++ (wsX8_reason_r2 ++ (wsX8_reason_r3 ++ wsX8_reason_r4))) ++ wsX80 ++ wsX00 ++ wsX10)
def wsX8_isFlag : List Cond := .code yX8_isFlag cX8_isFlag 1 (some .boolean) :: ([.methodLink RX8 106 yX8_within, .static yX8_within, .initialized RX8, .code yX8_within cX8_within 3 (some .boolean)])
def wsX8_moves_r1 : List Cond := [Cond.constant RX8 110 (-1000000), Cond.fieldLink RX8 11 "SelfSteer" "bicycles" "[LSelfSteer$Bicycle;", Cond.fieldLink RX8 100 "SelfSteer" "LOWEST" "[I", Cond.fieldLink RX8 103 "SelfSteer" "HIGHEST" "[I", Cond.methodLink RX8 93 yX8_isBicycle, Cond.static yX8_isBicycle, Cond.initialized RX8, Cond.code yX8_isBicycle cX8_isBicycle 1 (some .boolean), Cond.methodLink RX8 106 yX8_within, Cond.static yX8_within, Cond.code yX8_within cX8_within 3 (some .boolean), Cond.methodLink RX8 97 yX8_isNumber, Cond.static yX8_isNumber, Cond.code yX8_isNumber cX8_isNumber 1 (some .boolean), Cond.methodLink RX8 166 yX8_isFlag, Cond.static yX8_isFlag, Cond.code yX8_isFlag cX8_isFlag 1 (some .boolean), Cond.instanceMethod yX0_valueOf, Cond.initialized RX0, Cond.selects RX0 yX0_valueOf yX0_valueOf, Cond.code yX0_valueOf cX0_valueOf 2 (some .int), Cond.fieldLink RX0 9 "SelfSteer$Bicycle" "numbers" "[I", Cond.methodLink RX8 155 yX8_speedsWith, Cond.instanceMethod yX8_speedsWith]
def wsX8_moves_r2 : List Cond := [Cond.selects RX8 yX8_speedsWith yX8_speedsWith, Cond.code yX8_speedsWith cX8_speedsWith 4 (some .long), Cond.fieldLink RX8 16 "SelfSteer" "trial" "LSelfSteer$Bicycle;", Cond.instanceMethod yX0_copyFrom, Cond.selects RX0 yX0_copyFrom yX0_copyFrom, Cond.code yX0_copyFrom cX0_copyFrom 2 none, Cond.methodLink RX0 18 arraycopyName, Cond.native arraycopyName, Cond.static arraycopyName, Cond.initialized "java/lang/System", Cond.instanceMethod yX0_put, Cond.selects RX0 yX0_put yX0_put, Cond.code yX0_put cX0_put 3 none, Cond.instanceMethod yX0_speeds, Cond.selects RX0 yX0_speeds yX0_speeds, Cond.code yX0_speeds cX0_speeds 4 (some .long), Cond.methodLink RX0 43 yX0_signThree, Cond.instanceMethod yX0_signThree, Cond.selects RX0 yX0_signThree yX0_signThree, Cond.code yX0_signThree cX0_signThree 1 (some .long), Cond.constantLong RX0 28 (100), Cond.methodLink RX0 32 yX0_signZero, Cond.instanceMethod yX0_signZero, Cond.selects RX0 yX0_signZero yX0_signZero]
def wsX8_moves_r3 : List Cond := [Cond.code yX0_signZero cX0_signZero 5 (some .long), Cond.constantLong RX0 30 (10), Cond.methodLink RX0 47 yX0_staysUp, Cond.instanceMethod yX0_staysUp, Cond.selects RX0 yX0_staysUp yX0_staysUp, Cond.code yX0_staysUp cX0_staysUp 12 (some .boolean), Cond.methodLink RX0 36 yX0_signTwo, Cond.instanceMethod yX0_signTwo, Cond.selects RX0 yX0_signTwo yX0_signTwo, Cond.code yX0_signTwo cX0_signTwo 5 (some .long), Cond.methodLink RX0 39 yX0_signOne, Cond.instanceMethod yX0_signOne, Cond.selects RX0 yX0_signOne yX0_signOne, Cond.code yX0_signOne cX0_signOne 8 (some .long), Cond.methodLink RX8 169 yJ13_bitCount_95d88, Cond.static yJ13_bitCount_95d88, Cond.initialized RJ13, Cond.code yJ13_bitCount_95d88 cJ13_bitCount_95d88 2 (some .int), Cond.constantLong RJ13 314 (6148914691236517205), Cond.constantLong RJ13 316 (3689348814741910323), Cond.constantLong RJ13 318 (1085102592571150095), Cond.instanceMethod yX0_speedCount, Cond.selects RX0 yX0_speedCount yX0_speedCount, Cond.code yX0_speedCount cX0_speedCount 1 (some .int)]
def wsX8_moves_r4 : List Cond := [Cond.methodLink RX0 51 yX0_speeds, Cond.methodLink RX0 54 yJ13_bitCount_95d88]
def wsX8_moves : List Cond := .code yX8_moves cX8_moves 5 (some .int) :: ((wsX8_moves_r1 ++ (wsX8_moves_r2 ++ (wsX8_moves_r3 ++ wsX8_moves_r4))) ++ wsX80 ++ wsX00)
def wsX8_grid_r1 : List Cond := [Cond.constant RX8 110 (-1000000), Cond.fieldLink RX8 16 "SelfSteer" "trial" "LSelfSteer$Bicycle;", Cond.fieldLink RX8 11 "SelfSteer" "bicycles" "[LSelfSteer$Bicycle;", Cond.fieldLink RX8 100 "SelfSteer" "LOWEST" "[I", Cond.fieldLink RX8 103 "SelfSteer" "HIGHEST" "[I", Cond.methodLink RX8 93 yX8_isBicycle, Cond.static yX8_isBicycle, Cond.initialized RX8, Cond.code yX8_isBicycle cX8_isBicycle 1 (some .boolean), Cond.methodLink RX8 106 yX8_within, Cond.static yX8_within, Cond.code yX8_within cX8_within 3 (some .boolean), Cond.methodLink RX8 97 yX8_isNumber, Cond.static yX8_isNumber, Cond.code yX8_isNumber cX8_isNumber 1 (some .boolean), Cond.instanceMethod yX0_copyFrom, Cond.initialized RX0, Cond.selects RX0 yX0_copyFrom yX0_copyFrom, Cond.code yX0_copyFrom cX0_copyFrom 2 none, Cond.fieldLink RX0 9 "SelfSteer$Bicycle" "numbers" "[I", Cond.methodLink RX0 18 arraycopyName, Cond.native arraycopyName, Cond.static arraycopyName, Cond.initialized "java/lang/System"]
def wsX8_grid_r2 : List Cond := [Cond.instanceMethod yX0_put, Cond.selects RX0 yX0_put yX0_put, Cond.code yX0_put cX0_put 3 none, Cond.instanceMethod yX0_speeds, Cond.selects RX0 yX0_speeds yX0_speeds, Cond.code yX0_speeds cX0_speeds 4 (some .long), Cond.methodLink RX0 43 yX0_signThree, Cond.instanceMethod yX0_signThree, Cond.selects RX0 yX0_signThree yX0_signThree, Cond.code yX0_signThree cX0_signThree 1 (some .long), Cond.constantLong RX0 28 (100), Cond.methodLink RX0 32 yX0_signZero, Cond.instanceMethod yX0_signZero, Cond.selects RX0 yX0_signZero yX0_signZero, Cond.code yX0_signZero cX0_signZero 5 (some .long), Cond.constantLong RX0 30 (10), Cond.methodLink RX0 47 yX0_staysUp, Cond.instanceMethod yX0_staysUp, Cond.selects RX0 yX0_staysUp yX0_staysUp, Cond.code yX0_staysUp cX0_staysUp 12 (some .boolean), Cond.methodLink RX0 36 yX0_signTwo, Cond.instanceMethod yX0_signTwo, Cond.selects RX0 yX0_signTwo yX0_signTwo, Cond.code yX0_signTwo cX0_signTwo 5 (some .long)]
def wsX8_grid_r3 : List Cond := [Cond.methodLink RX0 39 yX0_signOne, Cond.instanceMethod yX0_signOne, Cond.selects RX0 yX0_signOne yX0_signOne, Cond.code yX0_signOne cX0_signOne 8 (some .long)]
def wsX8_grid : List Cond := .code yX8_grid cX8_grid 8 (some .int) :: ((wsX8_grid_r1 ++ (wsX8_grid_r2 ++ wsX8_grid_r3)) ++ wsX80 ++ wsX00)
def wsX8_least_r1 : List Cond := [Cond.constant RX8 110 (-1000000), Cond.fieldLink RX8 11 "SelfSteer" "bicycles" "[LSelfSteer$Bicycle;", Cond.methodLink RX8 93 yX8_isBicycle, Cond.static yX8_isBicycle, Cond.initialized RX8, Cond.code yX8_isBicycle cX8_isBicycle 1 (some .boolean), Cond.methodLink RX8 106 yX8_within, Cond.static yX8_within, Cond.code yX8_within cX8_within 3 (some .boolean), Cond.methodLink RX8 119 yX8_isSpeed, Cond.static yX8_isSpeed, Cond.code yX8_isSpeed cX8_isSpeed 1 (some .boolean), Cond.methodLink RX8 122 yX8_isHand, Cond.static yX8_isHand, Cond.code yX8_isHand cX8_isHand 1 (some .boolean), Cond.instanceMethod yX0_staysUp, Cond.initialized RX0, Cond.selects RX0 yX0_staysUp yX0_staysUp, Cond.code yX0_staysUp cX0_staysUp 12 (some .boolean), Cond.constantLong RX0 28 (100), Cond.fieldLink RX0 9 "SelfSteer$Bicycle" "numbers" "[I", Cond.methodLink RX0 32 yX0_signZero, Cond.instanceMethod yX0_signZero, Cond.selects RX0 yX0_signZero yX0_signZero]
def wsX8_least_r2 : List Cond := [Cond.code yX0_signZero cX0_signZero 5 (some .long), Cond.constantLong RX0 30 (10), Cond.methodLink RX0 36 yX0_signTwo, Cond.instanceMethod yX0_signTwo, Cond.selects RX0 yX0_signTwo yX0_signTwo, Cond.code yX0_signTwo cX0_signTwo 5 (some .long), Cond.methodLink RX0 39 yX0_signOne, Cond.instanceMethod yX0_signOne, Cond.selects RX0 yX0_signOne yX0_signOne, Cond.code yX0_signOne cX0_signOne 8 (some .long), Cond.methodLink RX0 43 yX0_signThree, Cond.instanceMethod yX0_signThree, Cond.selects RX0 yX0_signThree yX0_signThree, Cond.code yX0_signThree cX0_signThree 1 (some .long)]
def wsX8_least : List Cond := .code yX8_least cX8_least 5 (some .int) :: ((wsX8_least_r1 ++ wsX8_least_r2) ++ wsX80 ++ wsX00)
def wsX8_spread_r1 : List Cond := [Cond.fieldLink RX8 30 "SelfSteer" "doubt" "LSelfSteer$Doubt;", Cond.fieldLink RX8 11 "SelfSteer" "bicycles" "[LSelfSteer$Bicycle;", Cond.methodLink RX8 93 yX8_isBicycle, Cond.static yX8_isBicycle, Cond.initialized RX8, Cond.code yX8_isBicycle cX8_isBicycle 1 (some .boolean), Cond.methodLink RX8 106 yX8_within, Cond.static yX8_within, Cond.code yX8_within cX8_within 3 (some .boolean), Cond.instanceMethod yX2_weigh, Cond.initialized RX2, Cond.selects RX2 yX2_weigh yX2_weigh, Cond.code yX2_weigh cX2_weigh 4 none, Cond.fieldLink RX2 18 "SelfSteer$Doubt" "changed" "[I", Cond.fieldLink RX2 22 "SelfSteer$Doubt" "speedCounts" "[I", Cond.fieldLink RX2 12 "SelfSteer$Doubt" "tried" "LSelfSteer$Bicycle;", Cond.methodLink RX2 29 yX2_mayBe, Cond.instanceMethod yX2_mayBe, Cond.selects RX2 yX2_mayBe yX2_mayBe, Cond.code yX2_mayBe cX2_mayBe 7 (some .boolean), Cond.instanceMethod yX0_valueOf, Cond.initialized RX0, Cond.selects RX0 yX0_valueOf yX0_valueOf, Cond.code yX0_valueOf cX0_valueOf 2 (some .int)]
def wsX8_spread_r2 : List Cond := [Cond.fieldLink RX0 9 "SelfSteer$Bicycle" "numbers" "[I", Cond.static yX8_isNumber, Cond.code yX8_isNumber cX8_isNumber 1 (some .boolean), Cond.instanceMethod yX0_put, Cond.selects RX0 yX0_put yX0_put, Cond.code yX0_put cX0_put 3 none, Cond.instanceMethod yX0_speedCount, Cond.selects RX0 yX0_speedCount yX0_speedCount, Cond.code yX0_speedCount cX0_speedCount 1 (some .int), Cond.methodLink RX0 51 yX0_speeds, Cond.instanceMethod yX0_speeds, Cond.selects RX0 yX0_speeds yX0_speeds, Cond.code yX0_speeds cX0_speeds 4 (some .long), Cond.methodLink RX0 43 yX0_signThree, Cond.instanceMethod yX0_signThree, Cond.selects RX0 yX0_signThree yX0_signThree, Cond.code yX0_signThree cX0_signThree 1 (some .long), Cond.constantLong RX0 28 (100), Cond.methodLink RX0 32 yX0_signZero, Cond.instanceMethod yX0_signZero, Cond.selects RX0 yX0_signZero yX0_signZero, Cond.code yX0_signZero cX0_signZero 5 (some .long), Cond.constantLong RX0 30 (10), Cond.methodLink RX0 47 yX0_staysUp]
def wsX8_spread_r3 : List Cond := [Cond.instanceMethod yX0_staysUp, Cond.selects RX0 yX0_staysUp yX0_staysUp, Cond.code yX0_staysUp cX0_staysUp 12 (some .boolean), Cond.methodLink RX0 36 yX0_signTwo, Cond.instanceMethod yX0_signTwo, Cond.selects RX0 yX0_signTwo yX0_signTwo, Cond.code yX0_signTwo cX0_signTwo 5 (some .long), Cond.methodLink RX0 39 yX0_signOne, Cond.instanceMethod yX0_signOne, Cond.selects RX0 yX0_signOne yX0_signOne, Cond.code yX0_signOne cX0_signOne 8 (some .long), Cond.methodLink RX0 54 yJ13_bitCount_95d88, Cond.static yJ13_bitCount_95d88, Cond.initialized RJ13, Cond.code yJ13_bitCount_95d88 cJ13_bitCount_95d88 2 (some .int), Cond.constantLong RJ13 314 (6148914691236517205), Cond.constantLong RJ13 316 (3689348814741910323), Cond.constantLong RJ13 318 (1085102592571150095), Cond.instanceMethod yX2_spreadOf, Cond.selects RX2 yX2_spreadOf yX2_spreadOf, Cond.code yX2_spreadOf cX2_spreadOf 5 (some .int), Cond.methodLink RX2 54 Lib.Math.min.name, Cond.static Lib.Math.min.name, Cond.initialized "java/lang/Math"]
def wsX8_spread_r4 : List Cond := [Cond.code Lib.Math.min.name Lib.Math.min.code 2 (some .int), Cond.methodLink RX2 60 Lib.Math.max.name, Cond.static Lib.Math.max.name, Cond.code Lib.Math.max.name Lib.Math.max.code 2 (some .int)]
def wsX8_spread : List Cond := .code yX8_spread cX8_spread 3 (some .int) :: ((wsX8_spread_r1 ++ (wsX8_spread_r2 ++ (wsX8_spread_r3 ++ wsX8_spread_r4))) ++ wsX80 ++ wsX20 ++ wsX00)
def wsX8_fewest_r1 : List Cond := [Cond.fieldLink RX8 30 "SelfSteer" "doubt" "LSelfSteer$Doubt;", Cond.fieldLink RX8 11 "SelfSteer" "bicycles" "[LSelfSteer$Bicycle;", Cond.methodLink RX8 93 yX8_isBicycle, Cond.static yX8_isBicycle, Cond.initialized RX8, Cond.code yX8_isBicycle cX8_isBicycle 1 (some .boolean), Cond.methodLink RX8 106 yX8_within, Cond.static yX8_within, Cond.code yX8_within cX8_within 3 (some .boolean), Cond.methodLink RX8 166 yX8_isFlag, Cond.static yX8_isFlag, Cond.code yX8_isFlag cX8_isFlag 1 (some .boolean), Cond.instanceMethod yX2_weigh, Cond.initialized RX2, Cond.selects RX2 yX2_weigh yX2_weigh, Cond.code yX2_weigh cX2_weigh 4 none, Cond.fieldLink RX2 18 "SelfSteer$Doubt" "changed" "[I", Cond.fieldLink RX2 22 "SelfSteer$Doubt" "speedCounts" "[I", Cond.fieldLink RX2 12 "SelfSteer$Doubt" "tried" "LSelfSteer$Bicycle;", Cond.methodLink RX2 29 yX2_mayBe, Cond.instanceMethod yX2_mayBe, Cond.selects RX2 yX2_mayBe yX2_mayBe, Cond.code yX2_mayBe cX2_mayBe 7 (some .boolean), Cond.instanceMethod yX0_valueOf]
def wsX8_fewest_r2 : List Cond := [Cond.initialized RX0, Cond.selects RX0 yX0_valueOf yX0_valueOf, Cond.code yX0_valueOf cX0_valueOf 2 (some .int), Cond.fieldLink RX0 9 "SelfSteer$Bicycle" "numbers" "[I", Cond.static yX8_isNumber, Cond.code yX8_isNumber cX8_isNumber 1 (some .boolean), Cond.instanceMethod yX0_put, Cond.selects RX0 yX0_put yX0_put, Cond.code yX0_put cX0_put 3 none, Cond.instanceMethod yX0_speedCount, Cond.selects RX0 yX0_speedCount yX0_speedCount, Cond.code yX0_speedCount cX0_speedCount 1 (some .int), Cond.methodLink RX0 51 yX0_speeds, Cond.instanceMethod yX0_speeds, Cond.selects RX0 yX0_speeds yX0_speeds, Cond.code yX0_speeds cX0_speeds 4 (some .long), Cond.methodLink RX0 43 yX0_signThree, Cond.instanceMethod yX0_signThree, Cond.selects RX0 yX0_signThree yX0_signThree, Cond.code yX0_signThree cX0_signThree 1 (some .long), Cond.constantLong RX0 28 (100), Cond.methodLink RX0 32 yX0_signZero, Cond.instanceMethod yX0_signZero, Cond.selects RX0 yX0_signZero yX0_signZero]
def wsX8_fewest_r3 : List Cond := [Cond.code yX0_signZero cX0_signZero 5 (some .long), Cond.constantLong RX0 30 (10), Cond.methodLink RX0 47 yX0_staysUp, Cond.instanceMethod yX0_staysUp, Cond.selects RX0 yX0_staysUp yX0_staysUp, Cond.code yX0_staysUp cX0_staysUp 12 (some .boolean), Cond.methodLink RX0 36 yX0_signTwo, Cond.instanceMethod yX0_signTwo, Cond.selects RX0 yX0_signTwo yX0_signTwo, Cond.code yX0_signTwo cX0_signTwo 5 (some .long), Cond.methodLink RX0 39 yX0_signOne, Cond.instanceMethod yX0_signOne, Cond.selects RX0 yX0_signOne yX0_signOne, Cond.code yX0_signOne cX0_signOne 8 (some .long), Cond.methodLink RX0 54 yJ13_bitCount_95d88, Cond.static yJ13_bitCount_95d88, Cond.initialized RJ13, Cond.code yJ13_bitCount_95d88 cJ13_bitCount_95d88 2 (some .int), Cond.constantLong RJ13 314 (6148914691236517205), Cond.constantLong RJ13 316 (3689348814741910323), Cond.constantLong RJ13 318 (1085102592571150095), Cond.instanceMethod yX2_fewestFor, Cond.selects RX2 yX2_fewestFor yX2_fewestFor, Cond.code yX2_fewestFor cX2_fewestFor 4 (some .int)]
def wsX8_fewest_r4 : List Cond := [Cond.methodLink RX2 63 yJ6_bitCount_0f7a4, Cond.static yJ6_bitCount_0f7a4, Cond.initialized RJ6, Cond.code yJ6_bitCount_0f7a4 cJ6_bitCount_0f7a4 1 (some .int), Cond.constant RJ6 265 (1431655765), Cond.constant RJ6 266 (858993459), Cond.constant RJ6 267 (252645135), Cond.methodLink RX2 68 yX2_spreadOf, Cond.instanceMethod yX2_spreadOf, Cond.selects RX2 yX2_spreadOf yX2_spreadOf, Cond.code yX2_spreadOf cX2_spreadOf 5 (some .int), Cond.methodLink RX2 54 Lib.Math.min.name, Cond.static Lib.Math.min.name, Cond.initialized "java/lang/Math", Cond.code Lib.Math.min.name Lib.Math.min.code 2 (some .int), Cond.methodLink RX2 60 Lib.Math.max.name, Cond.static Lib.Math.max.name, Cond.code Lib.Math.max.name Lib.Math.max.code 2 (some .int), Cond.methodLink RX8 191 yJ6_bitCount_0f7a4]
def wsX8_fewest : List Cond := .code yX8_fewest cX8_fewest 5 (some .int) :: ((wsX8_fewest_r1 ++ (wsX8_fewest_r2 ++ (wsX8_fewest_r3 ++ wsX8_fewest_r4))) ++ wsX80 ++ wsX20 ++ wsX00)
def wsX8_type : List Cond := .code yX8_type cX8_type 5 (some .int) :: ([.fieldLink RX8 38 "SelfSteer" "textLength" "I", .fieldLink RX8 34 "SelfSteer" "text" "[I", .methodLink RX8 106 yX8_within, .static yX8_within, .initialized RX8, .code yX8_within cX8_within 3 (some .boolean)] ++ wsX80)
def wsX8_clear : List Cond := .code yX8_clear cX8_clear 2 (some .int) :: ([.fieldLink RX8 38 "SelfSteer" "textLength" "I"] ++ wsX80)
def wsX8_rider_r1 : List Cond := [Cond.fieldLink RX8 45 "SelfSteer" "reader" "LSelfSteer$Reader;", Cond.fieldLink RX8 34 "SelfSteer" "text" "[I", Cond.fieldLink RX8 38 "SelfSteer" "textLength" "I", Cond.fieldLink RX8 52 "SelfSteer" "draft" "LSelfSteer$Rider;", Cond.fieldLink RX8 56 "SelfSteer" "theRider" "LSelfSteer$Rider;", Cond.instanceMethod yX5_faultOf, Cond.initialized RX5, Cond.selects RX5 yX5_faultOf yX5_faultOf, Cond.code yX5_faultOf cX5_faultOf 5 (some .int), Cond.fieldLink RX5 7 "SelfSteer$Reader" "bytes" "[I", Cond.methodLink RX5 29 Lib.Math.min.name, Cond.static Lib.Math.min.name, Cond.initialized "java/lang/Math", Cond.code Lib.Math.min.name Lib.Math.min.code 2 (some .int), Cond.fieldLink RX5 13 "SelfSteer$Reader" "length" "I", Cond.fieldLink RX5 17 "SelfSteer$Reader" "place" "I", Cond.fieldLink RX5 23 "SelfSteer$Reader" "token" "I", Cond.fieldLink RX5 20 "SelfSteer$Reader" "begin" "I", Cond.instanceMethod yX7_forget, Cond.initialized RX7, Cond.selects RX7 yX7_forget yX7_forget, Cond.code yX7_forget cX7_forget 1 none, Cond.fieldLink RX7 17 "SelfSteer$Rider" "UNTOLD" "[I", Cond.fieldLink RX7 9 "SelfSteer$Rider" "values" "[I"]
def wsX8_rider_r2 : List Cond := [Cond.methodLink RX7 20 arraycopyName, Cond.native arraycopyName, Cond.static arraycopyName, Cond.initialized "java/lang/System", Cond.fieldLink RX7 13 "SelfSteer$Rider" "toldBits" "I", Cond.methodLink RX5 40 yX5_next, Cond.instanceMethod yX5_next, Cond.selects RX5 yX5_next yX5_next, Cond.code yX5_next cX5_next 2 none, Cond.methodLink RX5 61 yX5_isLetter, Cond.static yX5_isLetter, Cond.code yX5_isLetter cX5_isLetter 1 (some .boolean), Cond.static yX8_within, Cond.initialized RX8, Cond.code yX8_within cX8_within 3 (some .boolean), Cond.methodLink RX5 64 yX5_readWord, Cond.instanceMethod yX5_readWord, Cond.selects RX5 yX5_readWord yX5_readWord, Cond.code yX5_readWord cX5_readWord 2 none, Cond.fieldLink RX5 26 "SelfSteer$Reader" "value" "I", Cond.methodLink RX5 73 yX5_isWord, Cond.instanceMethod yX5_isWord, Cond.selects RX5 yX5_isWord yX5_isWord, Cond.code yX5_isWord cX5_isWord 4 (some .boolean)]
def wsX8_rider_r3 : List Cond := [Cond.methodLink RX5 78 yJ0_charAt_5068e, Cond.instanceMethod yJ0_charAt_5068e, Cond.selects RJ0 yJ0_charAt_5068e yJ0_charAt_5068e, Cond.initialized RJ0, Cond.code yJ0_charAt_5068e cJ0_charAt_5068e 2 (some .char), Cond.fieldLink RJ0 9 "java/lang/String" "value" "[B", Cond.methodLink RJ0 492 yJ0_isLatin1_aae02, Cond.instanceMethod yJ0_isLatin1_aae02, Cond.selects RJ0 yJ0_isLatin1_aae02 yJ0_isLatin1_aae02, Cond.code yJ0_isLatin1_aae02 cJ0_isLatin1_aae02 1 (some .boolean), Cond.fieldLink RJ0 38 "java/lang/String" "COMPACT_STRINGS" "Z", Cond.fieldLink RJ0 15 "java/lang/String" "coder" "B", Cond.methodLink RJ0 495 yJ1_charAt_3b067, Cond.static yJ1_charAt_3b067, Cond.initialized RJ1, Cond.code yJ1_charAt_3b067 cJ1_charAt_3b067 2 (some .char), Cond.methodLink RJ1 9 yJ0_checkIndex_df160, Cond.static yJ0_checkIndex_df160, Cond.code yJ0_checkIndex_df160 cJ0_checkIndex_df160 2 none, Cond.fieldLink RJ0 1053 "jdk/internal/util/Preconditions" "SIOOBE_FORMATTER" "Ljava/util/function/BiFunction;", Cond.methodLink RJ0 1059 yJ3_checkIndex_8e157, Cond.static yJ3_checkIndex_8e157, Cond.initialized RJ3, Cond.code yJ3_checkIndex_8e157 cJ3_checkIndex_8e157 3 (some .int)]
def wsX8_rider_r4 : List Cond := [Cond.methodLink RJ0 498 yJ2_charAt_3b067, Cond.static yJ2_charAt_3b067, Cond.initialized RJ2, Cond.code yJ2_charAt_3b067 cJ2_charAt_3b067 2 (some .char), Cond.methodLink RJ2 67 yJ2_checkIndex_2214a, Cond.static yJ2_checkIndex_2214a, Cond.code yJ2_checkIndex_2214a cJ2_checkIndex_2214a 2 none, Cond.methodLink RJ2 48 yJ2_length_9d52b, Cond.static yJ2_length_9d52b, Cond.code yJ2_length_9d52b cJ2_length_9d52b 1 (some .int), Cond.methodLink RJ2 414 yJ0_checkIndex_df160, Cond.methodLink RJ2 71 yJ2_getChar_3b067, Cond.static yJ2_getChar_3b067, Cond.code yJ2_getChar_3b067 cJ2_getChar_3b067 2 (some .char), Cond.fieldLink RJ2 44 "java/lang/StringUTF16" "$assertionsDisabled" "Z", Cond.fieldLink RJ2 59 "java/lang/StringUTF16" "HI_BYTE_SHIFT" "I", Cond.fieldLink RJ2 63 "java/lang/StringUTF16" "LO_BYTE_SHIFT" "I", Cond.methodLink RX5 67 yX5_isDigit, Cond.static yX5_isDigit, Cond.code yX5_isDigit cX5_isDigit 1 (some .boolean), Cond.methodLink RX5 70 yX5_readAmount, Cond.instanceMethod yX5_readAmount, Cond.selects RX5 yX5_readAmount yX5_readAmount, Cond.code yX5_readAmount cX5_readAmount 2 none]
def wsX8_rider_r5 : List Cond := [Cond.methodLink RX5 43 yX5_readsItem, Cond.instanceMethod yX5_readsItem, Cond.selects RX5 yX5_readsItem yX5_readsItem, Cond.code yX5_readsItem cX5_readsItem 5 (some .boolean), Cond.instanceMethod yX7_wasTold, Cond.selects RX7 yX7_wasTold yX7_wasTold, Cond.code yX7_wasTold cX7_wasTold 2 (some .boolean), Cond.instanceMethod yX7_tell, Cond.selects RX7 yX7_tell yX7_tell, Cond.code yX7_tell cX7_tell 3 none, Cond.instanceMethod yX7_copyFrom, Cond.selects RX7 yX7_copyFrom yX7_copyFrom, Cond.code yX7_copyFrom cX7_copyFrom 2 none, Cond.instanceMethod yX7_itemCount, Cond.selects RX7 yX7_itemCount yX7_itemCount, Cond.code yX7_itemCount cX7_itemCount 1 (some .int), Cond.methodLink RX7 32 yJ6_bitCount_0f7a4, Cond.static yJ6_bitCount_0f7a4, Cond.initialized RJ6, Cond.code yJ6_bitCount_0f7a4 cJ6_bitCount_0f7a4 1 (some .int), Cond.constant RJ6 265 (1431655765), Cond.constant RJ6 266 (858993459), Cond.constant RJ6 267 (252645135)]
def wsX8_rider : List Cond := .code yX8_rider cX8_rider 2 (some .int) :: ((wsX8_rider_r1 ++ (wsX8_rider_r2 ++ (wsX8_rider_r3 ++ (wsX8_rider_r4 ++ wsX8_rider_r5)))) ++ wsX80 ++ wsX50 ++ wsX70)
def wsX8_ride_r1 : List Cond := [Cond.fieldLink RX8 62 "SelfSteer" "theRide" "LSelfSteer$Ride;", Cond.methodLink RX8 93 yX8_isBicycle, Cond.static yX8_isBicycle, Cond.initialized RX8, Cond.code yX8_isBicycle cX8_isBicycle 1 (some .boolean), Cond.methodLink RX8 106 yX8_within, Cond.static yX8_within, Cond.code yX8_within cX8_within 3 (some .boolean), Cond.methodLink RX8 119 yX8_isSpeed, Cond.static yX8_isSpeed, Cond.code yX8_isSpeed cX8_isSpeed 1 (some .boolean), Cond.methodLink RX8 166 yX8_isFlag, Cond.static yX8_isFlag, Cond.code yX8_isFlag cX8_isFlag 1 (some .boolean), Cond.instanceMethod yX6_begin, Cond.initialized RX6, Cond.selects RX6 yX6_begin yX6_begin, Cond.code yX6_begin cX6_begin 4 none, Cond.fieldLink RX6 9 "SelfSteer$Ride" "bicycle" "I", Cond.fieldLink RX6 15 "SelfSteer$Ride" "speed" "I", Cond.fieldLink RX6 18 "SelfSteer$Ride" "reversed" "Z", Cond.fieldLink RX6 22 "SelfSteer$Ride" "lean" "I", Cond.fieldLink RX6 25 "SelfSteer$Ride" "bar" "I", Cond.fieldLink RX6 28 "SelfSteer$Ride" "leanChange" "I"]
def wsX8_ride_r2 : List Cond := [Cond.fieldLink RX6 31 "SelfSteer$Ride" "barChange" "I", Cond.fieldLink RX6 34 "SelfSteer$Ride" "hand" "I", Cond.fieldLink RX6 37 "SelfSteer$Ride" "ticks" "I", Cond.fieldLink RX6 40 "SelfSteer$Ride" "lies" "Z"]
def wsX8_ride : List Cond := .code yX8_ride cX8_ride 5 (some .int) :: ((wsX8_ride_r1 ++ wsX8_ride_r2) ++ wsX80 ++ wsX60)
def wsX8_push : List Cond := .code yX8_push cX8_push 2 (some .int) :: ([.fieldLink RX8 62 "SelfSteer" "theRide" "LSelfSteer$Ride;", .constant RX8 110 (-1000000), .methodLink RX8 106 yX8_within, .static yX8_within, .initialized RX8, .code yX8_within cX8_within 3 (some .boolean), .instanceMethod yX6_takePush, .initialized RX6, .selects RX6 yX6_takePush yX6_takePush, .code yX6_takePush cX6_takePush 2 none, .fieldLink RX6 22 "SelfSteer$Ride" "lean" "I", .methodLink RX6 59 yX6_lookWhetherItFalls, .instanceMethod yX6_lookWhetherItFalls, .selects RX6 yX6_lookWhetherItFalls yX6_lookWhetherItFalls, .code yX6_lookWhetherItFalls cX6_lookWhetherItFalls 1 none, .fieldLink RX6 40 "SelfSteer$Ride" "lies" "Z"] ++ wsX80 ++ wsX60)
def wsX8_ticks_r1 : List Cond := [Cond.fieldLink RX8 62 "SelfSteer" "theRide" "LSelfSteer$Ride;", Cond.fieldLink RX8 11 "SelfSteer" "bicycles" "[LSelfSteer$Bicycle;", Cond.fieldLink RX8 56 "SelfSteer" "theRider" "LSelfSteer$Rider;", Cond.methodLink RX8 106 yX8_within, Cond.static yX8_within, Cond.initialized RX8, Cond.code yX8_within cX8_within 3 (some .boolean), Cond.instanceMethod yX6_goOn, Cond.initialized RX6, Cond.selects RX6 yX6_goOn yX6_goOn, Cond.code yX6_goOn cX6_goOn 5 (some .int), Cond.fieldLink RX6 40 "SelfSteer$Ride" "lies" "Z", Cond.methodLink RX6 62 yX6_doTick, Cond.instanceMethod yX6_doTick, Cond.selects RX6 yX6_doTick yX6_doTick, Cond.code yX6_doTick cX6_doTick 10 none, Cond.fieldLink RX6 34 "SelfSteer$Ride" "hand" "I", Cond.methodLink RX6 78 Lib.Math.max.name, Cond.static Lib.Math.max.name, Cond.initialized "java/lang/Math", Cond.code Lib.Math.max.name Lib.Math.max.code 2 (some .int), Cond.fieldLink RX6 15 "SelfSteer$Ride" "speed" "I", Cond.fieldLink RX6 22 "SelfSteer$Ride" "lean" "I", Cond.fieldLink RX6 25 "SelfSteer$Ride" "bar" "I"]
def wsX8_ticks_r2 : List Cond := [Cond.fieldLink RX6 31 "SelfSteer$Ride" "barChange" "I", Cond.fieldLink RX6 28 "SelfSteer$Ride" "leanChange" "I", Cond.constant RX6 84 (100000), Cond.fieldLink RX6 37 "SelfSteer$Ride" "ticks" "I", Cond.methodLink RX6 66 yX6_remember, Cond.instanceMethod yX6_remember, Cond.selects RX6 yX6_remember yX6_remember, Cond.code yX6_remember cX6_remember 2 none, Cond.fieldLink RX6 43 "SelfSteer$Ride" "pastLean" "[I", Cond.fieldLink RX6 47 "SelfSteer$Ride" "pastLeanChange" "[I", Cond.fieldLink RX6 50 "SelfSteer$Ride" "pastBar" "[I", Cond.methodLink RX6 88 yJ9_floorMod_7cf53, Cond.static yJ9_floorMod_7cf53, Cond.initialized RJ9, Cond.code yJ9_floorMod_7cf53 cJ9_floorMod_7cf53 3 (some .int), Cond.methodLink RX6 69 yX6_handOf, Cond.instanceMethod yX6_handOf, Cond.selects RX6 yX6_handOf yX6_handOf, Cond.code yX6_handOf cX6_handOf 6 (some .int), Cond.fieldLink RX6 18 "SelfSteer$Ride" "reversed" "Z", Cond.static yX8_clamp, Cond.code yX8_clamp cX8_clamp 2 (some .int), Cond.methodLink RX8 286 Lib.Math.min.name, Cond.static Lib.Math.min.name]
def wsX8_ticks_r3 : List Cond := [Cond.code Lib.Math.min.name Lib.Math.min.code 2 (some .int), Cond.methodLink RX8 291 Lib.Math.max.name, Cond.methodLink RX6 59 yX6_lookWhetherItFalls, Cond.instanceMethod yX6_lookWhetherItFalls, Cond.selects RX6 yX6_lookWhetherItFalls yX6_lookWhetherItFalls, Cond.code yX6_lookWhetherItFalls cX6_lookWhetherItFalls 1 none]
def wsX8_ticks : List Cond := .code yX8_ticks cX8_ticks 2 (some .int) :: ((wsX8_ticks_r1 ++ (wsX8_ticks_r2 ++ wsX8_ticks_r3)) ++ wsX80 ++ wsX60 ++ wsX00 ++ wsX70)
def wsX8_at : List Cond := .code yX8_at cX8_at 2 (some .int) :: ([.fieldLink RX8 62 "SelfSteer" "theRide" "LSelfSteer$Ride;", .constant RX8 110 (-1000000)] ++ wsX80 ++ wsX60)
def wsX8_bears_r1 : List Cond := [Cond.fieldLink RX8 66 "SelfSteer" "trialRide" "LSelfSteer$Ride;", Cond.fieldLink RX8 62 "SelfSteer" "theRide" "LSelfSteer$Ride;", Cond.fieldLink RX8 11 "SelfSteer" "bicycles" "[LSelfSteer$Bicycle;", Cond.fieldLink RX8 56 "SelfSteer" "theRider" "LSelfSteer$Rider;", Cond.methodLink RX8 106 yX8_within, Cond.static yX8_within, Cond.initialized RX8, Cond.code yX8_within cX8_within 3 (some .boolean), Cond.instanceMethod yX6_begin, Cond.initialized RX6, Cond.selects RX6 yX6_begin yX6_begin, Cond.code yX6_begin cX6_begin 4 none, Cond.fieldLink RX6 9 "SelfSteer$Ride" "bicycle" "I", Cond.fieldLink RX6 15 "SelfSteer$Ride" "speed" "I", Cond.fieldLink RX6 18 "SelfSteer$Ride" "reversed" "Z", Cond.fieldLink RX6 22 "SelfSteer$Ride" "lean" "I", Cond.fieldLink RX6 25 "SelfSteer$Ride" "bar" "I", Cond.fieldLink RX6 28 "SelfSteer$Ride" "leanChange" "I", Cond.fieldLink RX6 31 "SelfSteer$Ride" "barChange" "I", Cond.fieldLink RX6 34 "SelfSteer$Ride" "hand" "I", Cond.fieldLink RX6 37 "SelfSteer$Ride" "ticks" "I", Cond.fieldLink RX6 40 "SelfSteer$Ride" "lies" "Z", Cond.instanceMethod yX6_takePush, Cond.selects RX6 yX6_takePush yX6_takePush]
def wsX8_bears_r2 : List Cond := [Cond.code yX6_takePush cX6_takePush 2 none, Cond.methodLink RX6 59 yX6_lookWhetherItFalls, Cond.instanceMethod yX6_lookWhetherItFalls, Cond.selects RX6 yX6_lookWhetherItFalls yX6_lookWhetherItFalls, Cond.code yX6_lookWhetherItFalls cX6_lookWhetherItFalls 1 none, Cond.instanceMethod yX6_goOn, Cond.selects RX6 yX6_goOn yX6_goOn, Cond.code yX6_goOn cX6_goOn 5 (some .int), Cond.methodLink RX6 62 yX6_doTick, Cond.instanceMethod yX6_doTick, Cond.selects RX6 yX6_doTick yX6_doTick, Cond.code yX6_doTick cX6_doTick 10 none, Cond.methodLink RX6 78 Lib.Math.max.name, Cond.static Lib.Math.max.name, Cond.initialized "java/lang/Math", Cond.code Lib.Math.max.name Lib.Math.max.code 2 (some .int), Cond.constant RX6 84 (100000), Cond.methodLink RX6 66 yX6_remember, Cond.instanceMethod yX6_remember, Cond.selects RX6 yX6_remember yX6_remember, Cond.code yX6_remember cX6_remember 2 none, Cond.fieldLink RX6 43 "SelfSteer$Ride" "pastLean" "[I", Cond.fieldLink RX6 47 "SelfSteer$Ride" "pastLeanChange" "[I", Cond.fieldLink RX6 50 "SelfSteer$Ride" "pastBar" "[I"]
def wsX8_bears_r3 : List Cond := [Cond.methodLink RX6 88 yJ9_floorMod_7cf53, Cond.static yJ9_floorMod_7cf53, Cond.initialized RJ9, Cond.code yJ9_floorMod_7cf53 cJ9_floorMod_7cf53 3 (some .int), Cond.methodLink RX6 69 yX6_handOf, Cond.instanceMethod yX6_handOf, Cond.selects RX6 yX6_handOf yX6_handOf, Cond.code yX6_handOf cX6_handOf 6 (some .int), Cond.static yX8_clamp, Cond.code yX8_clamp cX8_clamp 2 (some .int), Cond.methodLink RX8 286 Lib.Math.min.name, Cond.static Lib.Math.min.name, Cond.code Lib.Math.min.name Lib.Math.min.code 2 (some .int), Cond.methodLink RX8 291 Lib.Math.max.name]
def wsX8_bears : List Cond := .code yX8_bears cX8_bears 3 (some .int) :: ((wsX8_bears_r1 ++ (wsX8_bears_r2 ++ wsX8_bears_r3)) ++ wsX80 ++ wsX60 ++ wsX00 ++ wsX70)
def wsX8_weeks_r1 : List Cond := [Cond.fieldLink RX8 72 "SelfSteer" "habits" "LSelfSteer$Habits;", Cond.fieldLink RX8 76 "SelfSteer" "weekUp" "I", Cond.fieldLink RX8 79 "SelfSteer" "weekDown" "I", Cond.methodLink RX8 248 yX8_isBar, Cond.static yX8_isBar, Cond.initialized RX8, Cond.code yX8_isBar cX8_isBar 1 (some .boolean), Cond.methodLink RX8 106 yX8_within, Cond.static yX8_within, Cond.code yX8_within cX8_within 3 (some .boolean), Cond.instanceMethod yX3_practise, Cond.initialized RX3, Cond.selects RX3 yX3_practise yX3_practise, Cond.code yX3_practise cX3_practise 5 none, Cond.fieldLink RX3 9 "SelfSteer$Habits" "values" "[I", Cond.fieldLink RX3 13 "SelfSteer$Habits" "wasWhole" "[Z", Cond.methodLink RX3 23 Lib.Math.min.name, Cond.static Lib.Math.min.name, Cond.initialized "java/lang/Math", Cond.code Lib.Math.min.name Lib.Math.min.code 2 (some .int), Cond.methodLink RX3 29 Lib.Math.max.name, Cond.static Lib.Math.max.name, Cond.code Lib.Math.max.name Lib.Math.max.code 2 (some .int), Cond.instanceMethod yX3_valueOf]
def wsX8_weeks_r2 : List Cond := [Cond.selects RX3 yX3_valueOf yX3_valueOf, Cond.code yX3_valueOf cX3_valueOf 2 (some .int)]
def wsX8_weeks : List Cond := .code yX8_weeks cX8_weeks 4 (some .int) :: ((wsX8_weeks_r1 ++ wsX8_weeks_r2) ++ wsX80 ++ wsX30)
def wsX8_tune : List Cond := .code yX8_tune cX8_tune 4 (some .int) :: ([.fieldLink RX8 76 "SelfSteer" "weekUp" "I", .fieldLink RX8 79 "SelfSteer" "weekDown" "I", .methodLink RX8 166 yX8_isFlag, .static yX8_isFlag, .initialized RX8, .code yX8_isFlag cX8_isFlag 1 (some .boolean), .methodLink RX8 106 yX8_within, .static yX8_within, .code yX8_within cX8_within 3 (some .boolean)] ++ wsX80)
def wsX8_habit_r1 : List Cond := [Cond.fieldLink RX8 72 "SelfSteer" "habits" "LSelfSteer$Habits;", Cond.fieldLink RX8 76 "SelfSteer" "weekUp" "I", Cond.methodLink RX8 248 yX8_isBar, Cond.static yX8_isBar, Cond.initialized RX8, Cond.code yX8_isBar cX8_isBar 1 (some .boolean), Cond.methodLink RX8 106 yX8_within, Cond.static yX8_within, Cond.code yX8_within cX8_within 3 (some .boolean), Cond.methodLink RX8 166 yX8_isFlag, Cond.static yX8_isFlag, Cond.code yX8_isFlag cX8_isFlag 1 (some .boolean), Cond.instanceMethod yX3_valueOf, Cond.initialized RX3, Cond.selects RX3 yX3_valueOf yX3_valueOf, Cond.code yX3_valueOf cX3_valueOf 2 (some .int), Cond.fieldLink RX3 9 "SelfSteer$Habits" "values" "[I", Cond.instanceMethod yX3_weeksTillWhole, Cond.selects RX3 yX3_weeksTillWhole yX3_weeksTillWhole, Cond.code yX3_weeksTillWhole cX3_weeksTillWhole 5 (some .int), Cond.fieldLink RX3 13 "SelfSteer$Habits" "wasWhole" "[Z", Cond.methodLink RX3 23 Lib.Math.min.name, Cond.static Lib.Math.min.name, Cond.initialized "java/lang/Math"]
def wsX8_habit_r2 : List Cond := [Cond.code Lib.Math.min.name Lib.Math.min.code 2 (some .int), Cond.methodLink RX3 29 Lib.Math.max.name, Cond.static Lib.Math.max.name, Cond.code Lib.Math.max.name Lib.Math.max.code 2 (some .int)]
def wsX8_habit : List Cond := .code yX8_habit cX8_habit 3 (some .int) :: ((wsX8_habit_r1 ++ wsX8_habit_r2) ++ wsX80 ++ wsX30)
def wsX8_askKind_r1 : List Cond := [Cond.fieldLink RX8 88 "SelfSteer" "traced" "J", Cond.fieldLink RX8 280 "SelfSteer" "TRACE_OF_KIND" "[I", Cond.fieldLink RX8 283 "SelfSteer" "KIND_ABOVE" "[I", Cond.fieldLink RX8 72 "SelfSteer" "habits" "LSelfSteer$Habits;", Cond.methodLink RX8 106 yX8_within, Cond.static yX8_within, Cond.initialized RX8, Cond.code yX8_within cX8_within 3 (some .boolean), Cond.methodLink RX8 260 yX8_askKind, Cond.instanceMethod yX8_askKind, Cond.selects RX8 yX8_askKind yX8_askKind, Cond.instanceMethod yX0_valueOf, Cond.initialized RX0, Cond.selects RX0 yX0_valueOf yX0_valueOf, Cond.code yX0_valueOf cX0_valueOf 2 (some .int), Cond.fieldLink RX0 9 "SelfSteer$Bicycle" "numbers" "[I", Cond.static yX8_isNumber, Cond.code yX8_isNumber cX8_isNumber 1 (some .boolean), Cond.methodLink RX8 155 yX8_speedsWith, Cond.instanceMethod yX8_speedsWith, Cond.selects RX8 yX8_speedsWith yX8_speedsWith, Cond.code yX8_speedsWith cX8_speedsWith 4 (some .long), Cond.fieldLink RX8 16 "SelfSteer" "trial" "LSelfSteer$Bicycle;", Cond.instanceMethod yX0_copyFrom]
def wsX8_askKind_r2 : List Cond := [Cond.selects RX0 yX0_copyFrom yX0_copyFrom, Cond.code yX0_copyFrom cX0_copyFrom 2 none, Cond.methodLink RX0 18 arraycopyName, Cond.native arraycopyName, Cond.static arraycopyName, Cond.initialized "java/lang/System", Cond.instanceMethod yX0_put, Cond.selects RX0 yX0_put yX0_put, Cond.code yX0_put cX0_put 3 none, Cond.instanceMethod yX0_speeds, Cond.selects RX0 yX0_speeds yX0_speeds, Cond.code yX0_speeds cX0_speeds 4 (some .long), Cond.methodLink RX0 43 yX0_signThree, Cond.instanceMethod yX0_signThree, Cond.selects RX0 yX0_signThree yX0_signThree, Cond.code yX0_signThree cX0_signThree 1 (some .long), Cond.constantLong RX0 28 (100), Cond.methodLink RX0 32 yX0_signZero, Cond.instanceMethod yX0_signZero, Cond.selects RX0 yX0_signZero yX0_signZero, Cond.code yX0_signZero cX0_signZero 5 (some .long), Cond.constantLong RX0 30 (10), Cond.methodLink RX0 47 yX0_staysUp, Cond.instanceMethod yX0_staysUp]
def wsX8_askKind_r3 : List Cond := [Cond.selects RX0 yX0_staysUp yX0_staysUp, Cond.code yX0_staysUp cX0_staysUp 12 (some .boolean), Cond.methodLink RX0 36 yX0_signTwo, Cond.instanceMethod yX0_signTwo, Cond.selects RX0 yX0_signTwo yX0_signTwo, Cond.code yX0_signTwo cX0_signTwo 5 (some .long), Cond.methodLink RX0 39 yX0_signOne, Cond.instanceMethod yX0_signOne, Cond.selects RX0 yX0_signOne yX0_signOne, Cond.code yX0_signOne cX0_signOne 8 (some .long), Cond.methodLink RX8 169 yJ13_bitCount_95d88, Cond.static yJ13_bitCount_95d88, Cond.initialized RJ13, Cond.code yJ13_bitCount_95d88 cJ13_bitCount_95d88 2 (some .int), Cond.constantLong RJ13 314 (6148914691236517205), Cond.constantLong RJ13 316 (3689348814741910323), Cond.constantLong RJ13 318 (1085102592571150095), Cond.instanceMethod yX3_valueOf, Cond.initialized RX3, Cond.selects RX3 yX3_valueOf yX3_valueOf, Cond.code yX3_valueOf cX3_valueOf 2 (some .int), Cond.fieldLink RX3 9 "SelfSteer$Habits" "values" "[I", Cond.static yX8_isBar, Cond.code yX8_isBar cX8_isBar 1 (some .boolean)]
def wsX8_askKind_r4 : List Cond := [Cond.instanceMethod yX0_speedCount, Cond.selects RX0 yX0_speedCount yX0_speedCount, Cond.code yX0_speedCount cX0_speedCount 1 (some .int), Cond.methodLink RX0 51 yX0_speeds, Cond.methodLink RX0 54 yJ13_bitCount_95d88]
def wsX8_askKind : List Cond := .code yX8_askKind cX8_askKind 5 (some .int) :: ((wsX8_askKind_r1 ++ (wsX8_askKind_r2 ++ (wsX8_askKind_r3 ++ wsX8_askKind_r4))) ++ wsX80 ++ wsX00 ++ wsX30)
def wsX8_score_r1 : List Cond := [Cond.constant RX8 110 (-1000000), Cond.fieldLink RX8 11 "SelfSteer" "bicycles" "[LSelfSteer$Bicycle;", Cond.methodLink RX8 106 yX8_within, Cond.static yX8_within, Cond.initialized RX8, Cond.code yX8_within cX8_within 3 (some .boolean), Cond.methodLink RX8 93 yX8_isBicycle, Cond.static yX8_isBicycle, Cond.code yX8_isBicycle cX8_isBicycle 1 (some .boolean), Cond.methodLink RX8 260 yX8_askKind, Cond.instanceMethod yX8_askKind, Cond.selects RX8 yX8_askKind yX8_askKind, Cond.code yX8_askKind cX8_askKind 5 (some .int), Cond.fieldLink RX8 88 "SelfSteer" "traced" "J", Cond.fieldLink RX8 280 "SelfSteer" "TRACE_OF_KIND" "[I", Cond.fieldLink RX8 283 "SelfSteer" "KIND_ABOVE" "[I", Cond.fieldLink RX8 72 "SelfSteer" "habits" "LSelfSteer$Habits;", Cond.instanceMethod yX0_valueOf, Cond.initialized RX0, Cond.selects RX0 yX0_valueOf yX0_valueOf, Cond.code yX0_valueOf cX0_valueOf 2 (some .int), Cond.fieldLink RX0 9 "SelfSteer$Bicycle" "numbers" "[I", Cond.static yX8_isNumber, Cond.code yX8_isNumber cX8_isNumber 1 (some .boolean)]
def wsX8_score_r2 : List Cond := [Cond.methodLink RX8 155 yX8_speedsWith, Cond.instanceMethod yX8_speedsWith, Cond.selects RX8 yX8_speedsWith yX8_speedsWith, Cond.code yX8_speedsWith cX8_speedsWith 4 (some .long), Cond.fieldLink RX8 16 "SelfSteer" "trial" "LSelfSteer$Bicycle;", Cond.instanceMethod yX0_copyFrom, Cond.selects RX0 yX0_copyFrom yX0_copyFrom, Cond.code yX0_copyFrom cX0_copyFrom 2 none, Cond.methodLink RX0 18 arraycopyName, Cond.native arraycopyName, Cond.static arraycopyName, Cond.initialized "java/lang/System", Cond.instanceMethod yX0_put, Cond.selects RX0 yX0_put yX0_put, Cond.code yX0_put cX0_put 3 none, Cond.instanceMethod yX0_speeds, Cond.selects RX0 yX0_speeds yX0_speeds, Cond.code yX0_speeds cX0_speeds 4 (some .long), Cond.methodLink RX0 43 yX0_signThree, Cond.instanceMethod yX0_signThree, Cond.selects RX0 yX0_signThree yX0_signThree, Cond.code yX0_signThree cX0_signThree 1 (some .long), Cond.constantLong RX0 28 (100), Cond.methodLink RX0 32 yX0_signZero]
def wsX8_score_r3 : List Cond := [Cond.instanceMethod yX0_signZero, Cond.selects RX0 yX0_signZero yX0_signZero, Cond.code yX0_signZero cX0_signZero 5 (some .long), Cond.constantLong RX0 30 (10), Cond.methodLink RX0 47 yX0_staysUp, Cond.instanceMethod yX0_staysUp, Cond.selects RX0 yX0_staysUp yX0_staysUp, Cond.code yX0_staysUp cX0_staysUp 12 (some .boolean), Cond.methodLink RX0 36 yX0_signTwo, Cond.instanceMethod yX0_signTwo, Cond.selects RX0 yX0_signTwo yX0_signTwo, Cond.code yX0_signTwo cX0_signTwo 5 (some .long), Cond.methodLink RX0 39 yX0_signOne, Cond.instanceMethod yX0_signOne, Cond.selects RX0 yX0_signOne yX0_signOne, Cond.code yX0_signOne cX0_signOne 8 (some .long), Cond.methodLink RX8 169 yJ13_bitCount_95d88, Cond.static yJ13_bitCount_95d88, Cond.initialized RJ13, Cond.code yJ13_bitCount_95d88 cJ13_bitCount_95d88 2 (some .int), Cond.constantLong RJ13 314 (6148914691236517205), Cond.constantLong RJ13 316 (3689348814741910323), Cond.constantLong RJ13 318 (1085102592571150095), Cond.instanceMethod yX3_valueOf]
def wsX8_score_r4 : List Cond := [Cond.initialized RX3, Cond.selects RX3 yX3_valueOf yX3_valueOf, Cond.code yX3_valueOf cX3_valueOf 2 (some .int), Cond.fieldLink RX3 9 "SelfSteer$Habits" "values" "[I", Cond.static yX8_isBar, Cond.code yX8_isBar cX8_isBar 1 (some .boolean), Cond.instanceMethod yX0_speedCount, Cond.selects RX0 yX0_speedCount yX0_speedCount, Cond.code yX0_speedCount cX0_speedCount 1 (some .int), Cond.methodLink RX0 51 yX0_speeds, Cond.methodLink RX0 54 yJ13_bitCount_95d88]
def wsX8_score : List Cond := .code yX8_score cX8_score 3 (some .int) :: ((wsX8_score_r1 ++ (wsX8_score_r2 ++ (wsX8_score_r3 ++ wsX8_score_r4))) ++ wsX80 ++ wsX00 ++ wsX30)
def wsX8_isImage : List Cond := .code yX8_isImage cX8_isImage 1 (some .boolean) :: ([.methodLink RX8 106 yX8_within, .static yX8_within, .initialized RX8, .code yX8_within cX8_within 3 (some .boolean)])
def wsX8_keep_r1 : List Cond := [Cond.fieldLink RX8 84 "SelfSteer" "images" "[LSelfSteer$Image;", Cond.fieldLink RX8 62 "SelfSteer" "theRide" "LSelfSteer$Ride;", Cond.fieldLink RX8 72 "SelfSteer" "habits" "LSelfSteer$Habits;", Cond.methodLink RX8 264 yX8_isImage, Cond.static yX8_isImage, Cond.initialized RX8, Cond.code yX8_isImage cX8_isImage 1 (some .boolean), Cond.methodLink RX8 106 yX8_within, Cond.static yX8_within, Cond.code yX8_within cX8_within 3 (some .boolean), Cond.instanceMethod yX4_take, Cond.initialized RX4, Cond.selects RX4 yX4_take yX4_take, Cond.code yX4_take cX4_take 3 none, Cond.fieldLink RX4 10 "SelfSteer$Image" "ride" "LSelfSteer$Ride;", Cond.fieldLink RX4 19 "SelfSteer$Image" "habits" "LSelfSteer$Habits;", Cond.fieldLink RX4 23 "SelfSteer$Image" "kept" "Z", Cond.instanceMethod yX6_copyFrom, Cond.initialized RX6, Cond.selects RX6 yX6_copyFrom yX6_copyFrom, Cond.code yX6_copyFrom cX6_copyFrom 2 none, Cond.fieldLink RX6 9 "SelfSteer$Ride" "bicycle" "I", Cond.fieldLink RX6 15 "SelfSteer$Ride" "speed" "I", Cond.fieldLink RX6 18 "SelfSteer$Ride" "reversed" "Z"]
def wsX8_keep_r2 : List Cond := [Cond.fieldLink RX6 22 "SelfSteer$Ride" "lean" "I", Cond.fieldLink RX6 25 "SelfSteer$Ride" "bar" "I", Cond.fieldLink RX6 28 "SelfSteer$Ride" "leanChange" "I", Cond.fieldLink RX6 31 "SelfSteer$Ride" "barChange" "I", Cond.fieldLink RX6 34 "SelfSteer$Ride" "hand" "I", Cond.fieldLink RX6 37 "SelfSteer$Ride" "ticks" "I", Cond.fieldLink RX6 40 "SelfSteer$Ride" "lies" "Z", Cond.fieldLink RX6 43 "SelfSteer$Ride" "pastLean" "[I", Cond.methodLink RX6 53 arraycopyName, Cond.native arraycopyName, Cond.static arraycopyName, Cond.initialized "java/lang/System", Cond.fieldLink RX6 47 "SelfSteer$Ride" "pastLeanChange" "[I", Cond.fieldLink RX6 50 "SelfSteer$Ride" "pastBar" "[I", Cond.instanceMethod yX3_copyFrom, Cond.initialized RX3, Cond.selects RX3 yX3_copyFrom yX3_copyFrom, Cond.code yX3_copyFrom cX3_copyFrom 3 none, Cond.fieldLink RX3 9 "SelfSteer$Habits" "values" "[I", Cond.fieldLink RX3 13 "SelfSteer$Habits" "wasWhole" "[Z"]
def wsX8_keep : List Cond := .code yX8_keep cX8_keep 2 (some .int) :: ((wsX8_keep_r1 ++ wsX8_keep_r2) ++ wsX80 ++ wsX60 ++ wsX40 ++ wsX30)
def wsX8_back_r1 : List Cond := [Cond.fieldLink RX8 84 "SelfSteer" "images" "[LSelfSteer$Image;", Cond.fieldLink RX8 62 "SelfSteer" "theRide" "LSelfSteer$Ride;", Cond.fieldLink RX8 72 "SelfSteer" "habits" "LSelfSteer$Habits;", Cond.methodLink RX8 264 yX8_isImage, Cond.static yX8_isImage, Cond.initialized RX8, Cond.code yX8_isImage cX8_isImage 1 (some .boolean), Cond.methodLink RX8 106 yX8_within, Cond.static yX8_within, Cond.code yX8_within cX8_within 3 (some .boolean), Cond.instanceMethod yX4_giveBack, Cond.initialized RX4, Cond.selects RX4 yX4_giveBack yX4_giveBack, Cond.code yX4_giveBack cX4_giveBack 3 none, Cond.fieldLink RX4 10 "SelfSteer$Image" "ride" "LSelfSteer$Ride;", Cond.fieldLink RX4 19 "SelfSteer$Image" "habits" "LSelfSteer$Habits;", Cond.instanceMethod yX6_copyFrom, Cond.initialized RX6, Cond.selects RX6 yX6_copyFrom yX6_copyFrom, Cond.code yX6_copyFrom cX6_copyFrom 2 none, Cond.fieldLink RX6 9 "SelfSteer$Ride" "bicycle" "I", Cond.fieldLink RX6 15 "SelfSteer$Ride" "speed" "I", Cond.fieldLink RX6 18 "SelfSteer$Ride" "reversed" "Z", Cond.fieldLink RX6 22 "SelfSteer$Ride" "lean" "I"]
def wsX8_back_r2 : List Cond := [Cond.fieldLink RX6 25 "SelfSteer$Ride" "bar" "I", Cond.fieldLink RX6 28 "SelfSteer$Ride" "leanChange" "I", Cond.fieldLink RX6 31 "SelfSteer$Ride" "barChange" "I", Cond.fieldLink RX6 34 "SelfSteer$Ride" "hand" "I", Cond.fieldLink RX6 37 "SelfSteer$Ride" "ticks" "I", Cond.fieldLink RX6 40 "SelfSteer$Ride" "lies" "Z", Cond.fieldLink RX6 43 "SelfSteer$Ride" "pastLean" "[I", Cond.methodLink RX6 53 arraycopyName, Cond.native arraycopyName, Cond.static arraycopyName, Cond.initialized "java/lang/System", Cond.fieldLink RX6 47 "SelfSteer$Ride" "pastLeanChange" "[I", Cond.fieldLink RX6 50 "SelfSteer$Ride" "pastBar" "[I", Cond.instanceMethod yX3_copyFrom, Cond.initialized RX3, Cond.selects RX3 yX3_copyFrom yX3_copyFrom, Cond.code yX3_copyFrom cX3_copyFrom 3 none, Cond.fieldLink RX3 9 "SelfSteer$Habits" "values" "[I", Cond.fieldLink RX3 13 "SelfSteer$Habits" "wasWhole" "[Z"]
def wsX8_back : List Cond := .code yX8_back cX8_back 2 (some .int) :: ((wsX8_back_r1 ++ wsX8_back_r2) ++ wsX80 ++ wsX40 ++ wsX60 ++ wsX30)
def wsX8_speedsOfAll_r1 : List Cond := [Cond.fieldLink RX8 11 "SelfSteer" "bicycles" "[LSelfSteer$Bicycle;", Cond.instanceMethod yX0_speedCount, Cond.initialized RX0, Cond.selects RX0 yX0_speedCount yX0_speedCount, Cond.code yX0_speedCount cX0_speedCount 1 (some .int), Cond.methodLink RX0 51 yX0_speeds, Cond.instanceMethod yX0_speeds, Cond.selects RX0 yX0_speeds yX0_speeds, Cond.code yX0_speeds cX0_speeds 4 (some .long), Cond.fieldLink RX0 9 "SelfSteer$Bicycle" "numbers" "[I", Cond.methodLink RX0 43 yX0_signThree, Cond.instanceMethod yX0_signThree, Cond.selects RX0 yX0_signThree yX0_signThree, Cond.code yX0_signThree cX0_signThree 1 (some .long), Cond.constantLong RX0 28 (100), Cond.methodLink RX0 32 yX0_signZero, Cond.instanceMethod yX0_signZero, Cond.selects RX0 yX0_signZero yX0_signZero, Cond.code yX0_signZero cX0_signZero 5 (some .long), Cond.constantLong RX0 30 (10), Cond.methodLink RX0 47 yX0_staysUp, Cond.instanceMethod yX0_staysUp, Cond.selects RX0 yX0_staysUp yX0_staysUp, Cond.code yX0_staysUp cX0_staysUp 12 (some .boolean)]
def wsX8_speedsOfAll_r2 : List Cond := [Cond.methodLink RX0 36 yX0_signTwo, Cond.instanceMethod yX0_signTwo, Cond.selects RX0 yX0_signTwo yX0_signTwo, Cond.code yX0_signTwo cX0_signTwo 5 (some .long), Cond.methodLink RX0 39 yX0_signOne, Cond.instanceMethod yX0_signOne, Cond.selects RX0 yX0_signOne yX0_signOne, Cond.code yX0_signOne cX0_signOne 8 (some .long), Cond.methodLink RX0 54 yJ13_bitCount_95d88, Cond.static yJ13_bitCount_95d88, Cond.initialized RJ13, Cond.code yJ13_bitCount_95d88 cJ13_bitCount_95d88 2 (some .int), Cond.constantLong RJ13 314 (6148914691236517205), Cond.constantLong RJ13 316 (3689348814741910323), Cond.constantLong RJ13 318 (1085102592571150095)]
def wsX8_speedsOfAll : List Cond := .code yX8_speedsOfAll cX8_speedsOfAll 3 (some .int) :: ((wsX8_speedsOfAll_r1 ++ wsX8_speedsOfAll_r2) ++ wsX80 ++ wsX00)
def wsX8_count_r1 : List Cond := [Cond.fieldLink RX8 56 "SelfSteer" "theRider" "LSelfSteer$Rider;", Cond.fieldLink RX8 38 "SelfSteer" "textLength" "I", Cond.instanceMethod yX7_itemCount, Cond.initialized RX7, Cond.selects RX7 yX7_itemCount yX7_itemCount, Cond.code yX7_itemCount cX7_itemCount 1 (some .int), Cond.fieldLink RX7 13 "SelfSteer$Rider" "toldBits" "I", Cond.methodLink RX7 32 yJ6_bitCount_0f7a4, Cond.static yJ6_bitCount_0f7a4, Cond.initialized RJ6, Cond.code yJ6_bitCount_0f7a4 cJ6_bitCount_0f7a4 1 (some .int), Cond.constant RJ6 265 (1431655765), Cond.constant RJ6 266 (858993459), Cond.constant RJ6 267 (252645135), Cond.methodLink RX8 277 yX8_speedsOfAll, Cond.instanceMethod yX8_speedsOfAll, Cond.selects RX8 yX8_speedsOfAll yX8_speedsOfAll, Cond.initialized RX8, Cond.code yX8_speedsOfAll cX8_speedsOfAll 3 (some .int), Cond.fieldLink RX8 11 "SelfSteer" "bicycles" "[LSelfSteer$Bicycle;", Cond.instanceMethod yX0_speedCount, Cond.initialized RX0, Cond.selects RX0 yX0_speedCount yX0_speedCount, Cond.code yX0_speedCount cX0_speedCount 1 (some .int)]
def wsX8_count_r2 : List Cond := [Cond.methodLink RX0 51 yX0_speeds, Cond.instanceMethod yX0_speeds, Cond.selects RX0 yX0_speeds yX0_speeds, Cond.code yX0_speeds cX0_speeds 4 (some .long), Cond.fieldLink RX0 9 "SelfSteer$Bicycle" "numbers" "[I", Cond.methodLink RX0 43 yX0_signThree, Cond.instanceMethod yX0_signThree, Cond.selects RX0 yX0_signThree yX0_signThree, Cond.code yX0_signThree cX0_signThree 1 (some .long), Cond.constantLong RX0 28 (100), Cond.methodLink RX0 32 yX0_signZero, Cond.instanceMethod yX0_signZero, Cond.selects RX0 yX0_signZero yX0_signZero, Cond.code yX0_signZero cX0_signZero 5 (some .long), Cond.constantLong RX0 30 (10), Cond.methodLink RX0 47 yX0_staysUp, Cond.instanceMethod yX0_staysUp, Cond.selects RX0 yX0_staysUp yX0_staysUp, Cond.code yX0_staysUp cX0_staysUp 12 (some .boolean), Cond.methodLink RX0 36 yX0_signTwo, Cond.instanceMethod yX0_signTwo, Cond.selects RX0 yX0_signTwo yX0_signTwo, Cond.code yX0_signTwo cX0_signTwo 5 (some .long), Cond.methodLink RX0 39 yX0_signOne]
def wsX8_count_r3 : List Cond := [Cond.instanceMethod yX0_signOne, Cond.selects RX0 yX0_signOne yX0_signOne, Cond.code yX0_signOne cX0_signOne 8 (some .long), Cond.methodLink RX0 54 yJ13_bitCount_95d88, Cond.static yJ13_bitCount_95d88, Cond.initialized RJ13, Cond.code yJ13_bitCount_95d88 cJ13_bitCount_95d88 2 (some .int), Cond.constantLong RJ13 314 (6148914691236517205), Cond.constantLong RJ13 316 (3689348814741910323), Cond.constantLong RJ13 318 (1085102592571150095)]
def wsX8_count : List Cond := .code yX8_count cX8_count 2 (some .int) :: ((wsX8_count_r1 ++ (wsX8_count_r2 ++ wsX8_count_r3)) ++ wsX80 ++ wsX70 ++ wsX00)
def wsX8_trace : List Cond := .code yX8_trace cX8_trace 1 (some .long) :: ([.fieldLink RX8 88 "SelfSteer" "traced" "J"] ++ wsX80)
def wsX9_init : List Cond := .code yX9_init cX9_init 3 none :: ([.methodLink RX9 1 objectInit, .instanceMethod objectInit, .code objectInit ⟨#[0xb1]⟩ 1 none, .arrayClass .int, .fieldLink RX9 7 "SelfSteerModel" "numbers" "[I", .fieldLink RX9 13 "SelfSteerModel" "tried" "[I", .fieldLink RX9 16 "SelfSteerModel" "s" "[I", .fieldLink RX9 19 "SelfSteerModel" "kept" "[I", .fieldLink RX9 22 "SelfSteerModel" "spare" "[I", .arrayClass .boolean, .fieldLink RX9 25 "SelfSteerModel" "isKept" "[Z", .fieldLink RX9 29 "SelfSteerModel" "law" "[I", .fieldLink RX9 32 "SelfSteerModel" "upBy" "I", .fieldLink RX9 36 "SelfSteerModel" "downBy" "I", .fieldLink RX9 39 "SelfSteerModel" "text" "[I", .fieldLink RX9 42 "SelfSteerModel" "counts" "[I", .fieldLink RX9 45 "SelfSteerModel" "found" "[I"] ++ wsX90)
def wsX9_in : List Cond := .code yX9_in cX9_in 3 (some .boolean) :: ([])
def wsX9_isBicycle : List Cond := .code yX9_isBicycle cX9_isBicycle 1 (some .boolean) :: ([.methodLink RX9 51 yX9_in, .static yX9_in, .initialized RX9, .code yX9_in cX9_in 3 (some .boolean)])
def wsX9_isNumber : List Cond := .code yX9_isNumber cX9_isNumber 1 (some .boolean) :: ([.methodLink RX9 51 yX9_in, .static yX9_in, .initialized RX9, .code yX9_in cX9_in 3 (some .boolean)])
def wsX9_bottom : List Cond := .code yX9_bottom cX9_bottom 1 (some .int) :: ([])
def wsX9_mayBe : List Cond := .code yX9_mayBe cX9_mayBe 2 (some .boolean) :: ([.methodLink RX9 55 yX9_bottom, .static yX9_bottom, .initialized RX9, .code yX9_bottom cX9_bottom 1 (some .int), .methodLink RX9 51 yX9_in, .static yX9_in, .code yX9_in cX9_in 3 (some .boolean)])
def wsX9_number : List Cond := .code yX9_number cX9_number 5 (some .int) :: ([.fieldLink RX9 48 "SelfSteerModel" "thrown" "I", .constant RX9 70 (-1000000), .fieldLink RX9 7 "SelfSteerModel" "numbers" "[I", .methodLink RX9 59 yX9_isBicycle, .static yX9_isBicycle, .initialized RX9, .code yX9_isBicycle cX9_isBicycle 1 (some .boolean), .methodLink RX9 51 yX9_in, .static yX9_in, .code yX9_in cX9_in 3 (some .boolean), .methodLink RX9 63 yX9_isNumber, .static yX9_isNumber, .code yX9_isNumber cX9_isNumber 1 (some .boolean), .methodLink RX9 66 yX9_mayBe, .static yX9_mayBe, .code yX9_mayBe cX9_mayBe 2 (some .boolean), .methodLink RX9 55 yX9_bottom, .static yX9_bottom, .code yX9_bottom cX9_bottom 1 (some .int)] ++ wsX90)
def wsX9_has : List Cond := .code yX9_has cX9_has 3 (some .int) :: ([.fieldLink RX9 48 "SelfSteerModel" "thrown" "I", .fieldLink RX9 7 "SelfSteerModel" "numbers" "[I", .constant RX9 70 (-1000000), .methodLink RX9 59 yX9_isBicycle, .static yX9_isBicycle, .initialized RX9, .code yX9_isBicycle cX9_isBicycle 1 (some .boolean), .methodLink RX9 51 yX9_in, .static yX9_in, .code yX9_in cX9_in 3 (some .boolean), .methodLink RX9 63 yX9_isNumber, .static yX9_isNumber, .code yX9_isNumber cX9_isNumber 1 (some .boolean)] ++ wsX90)
def wsX9_takes : List Cond := .code yX9_takes cX9_takes 3 none :: ([.fieldLink RX9 13 "SelfSteerModel" "tried" "[I", .fieldLink RX9 7 "SelfSteerModel" "numbers" "[I"] ++ wsX90)
def wsX9_signOf : List Cond := .code yX9_signOf cX9_signOf 12 (some .long) :: ([.fieldLink RX9 13 "SelfSteerModel" "tried" "[I", .constantLong RX9 71 (100), .constantLong RX9 73 (10)] ++ wsX90)
def wsX9_isUp : List Cond := .code yX9_isUp cX9_isUp 13 (some .boolean) :: ([.constantLong RX9 71 (100), .fieldLink RX9 13 "SelfSteerModel" "tried" "[I", .methodLink RX9 75 yX9_signOf, .instanceMethod yX9_signOf, .selects RX9 yX9_signOf yX9_signOf, .initialized RX9, .code yX9_signOf cX9_signOf 12 (some .long), .constantLong RX9 73 (10)] ++ wsX90)
def wsX9_isAsked : List Cond := .code yX9_isAsked cX9_isAsked 4 (some .boolean) :: ([.methodLink RX9 59 yX9_isBicycle, .static yX9_isBicycle, .initialized RX9, .code yX9_isBicycle cX9_isBicycle 1 (some .boolean), .methodLink RX9 51 yX9_in, .static yX9_in, .code yX9_in cX9_in 3 (some .boolean)])
def wsX9_sign : List Cond := .code yX9_sign cX9_sign 6 (some .long) :: ([.fieldLink RX9 48 "SelfSteerModel" "thrown" "I", .constantLong RX9 83 (-9223372036854775808), .methodLink RX9 79 yX9_isAsked, .static yX9_isAsked, .initialized RX9, .code yX9_isAsked cX9_isAsked 4 (some .boolean), .methodLink RX9 59 yX9_isBicycle, .static yX9_isBicycle, .code yX9_isBicycle cX9_isBicycle 1 (some .boolean), .methodLink RX9 51 yX9_in, .static yX9_in, .code yX9_in cX9_in 3 (some .boolean), .methodLink RX9 85 yX9_takes, .instanceMethod yX9_takes, .selects RX9 yX9_takes yX9_takes, .code yX9_takes cX9_takes 3 none, .fieldLink RX9 13 "SelfSteerModel" "tried" "[I", .fieldLink RX9 7 "SelfSteerModel" "numbers" "[I", .methodLink RX9 75 yX9_signOf, .instanceMethod yX9_signOf, .selects RX9 yX9_signOf yX9_signOf, .code yX9_signOf cX9_signOf 12 (some .long), .constantLong RX9 71 (100), .constantLong RX9 73 (10)] ++ wsX90)
def wsX9_stays_r1 : List Cond := [Cond.fieldLink RX9 48 "SelfSteerModel" "thrown" "I", Cond.methodLink RX9 79 yX9_isAsked, Cond.static yX9_isAsked, Cond.initialized RX9, Cond.code yX9_isAsked cX9_isAsked 4 (some .boolean), Cond.methodLink RX9 59 yX9_isBicycle, Cond.static yX9_isBicycle, Cond.code yX9_isBicycle cX9_isBicycle 1 (some .boolean), Cond.methodLink RX9 51 yX9_in, Cond.static yX9_in, Cond.code yX9_in cX9_in 3 (some .boolean), Cond.methodLink RX9 85 yX9_takes, Cond.instanceMethod yX9_takes, Cond.selects RX9 yX9_takes yX9_takes, Cond.code yX9_takes cX9_takes 3 none, Cond.fieldLink RX9 13 "SelfSteerModel" "tried" "[I", Cond.fieldLink RX9 7 "SelfSteerModel" "numbers" "[I", Cond.methodLink RX9 89 yX9_isUp, Cond.instanceMethod yX9_isUp, Cond.selects RX9 yX9_isUp yX9_isUp, Cond.code yX9_isUp cX9_isUp 13 (some .boolean), Cond.constantLong RX9 71 (100), Cond.methodLink RX9 75 yX9_signOf, Cond.instanceMethod yX9_signOf]
def wsX9_stays_r2 : List Cond := [Cond.selects RX9 yX9_signOf yX9_signOf, Cond.code yX9_signOf cX9_signOf 12 (some .long), Cond.constantLong RX9 73 (10)]
def wsX9_stays : List Cond := .code yX9_stays cX9_stays 5 (some .int) :: ((wsX9_stays_r1 ++ wsX9_stays_r2) ++ wsX90)
def wsX9_speeds : List Cond := .code yX9_speeds cX9_speeds 4 (some .long) :: ([.methodLink RX9 89 yX9_isUp, .instanceMethod yX9_isUp, .selects RX9 yX9_isUp yX9_isUp, .initialized RX9, .code yX9_isUp cX9_isUp 13 (some .boolean), .constantLong RX9 71 (100), .fieldLink RX9 13 "SelfSteerModel" "tried" "[I", .methodLink RX9 75 yX9_signOf, .instanceMethod yX9_signOf, .selects RX9 yX9_signOf yX9_signOf, .code yX9_signOf cX9_signOf 12 (some .long), .constantLong RX9 73 (10)] ++ wsX90)
def wsX9_manySpeeds : List Cond := .code yX9_manySpeeds cX9_manySpeeds 3 (some .int) :: ([.methodLink RX9 89 yX9_isUp, .instanceMethod yX9_isUp, .selects RX9 yX9_isUp yX9_isUp, .initialized RX9, .code yX9_isUp cX9_isUp 13 (some .boolean), .constantLong RX9 71 (100), .fieldLink RX9 13 "SelfSteerModel" "tried" "[I", .methodLink RX9 75 yX9_signOf, .instanceMethod yX9_signOf, .selects RX9 yX9_signOf yX9_signOf, .code yX9_signOf cX9_signOf 12 (some .long), .constantLong RX9 73 (10)] ++ wsX90)
def wsX9_range_r1 : List Cond := [Cond.fieldLink RX9 48 "SelfSteerModel" "thrown" "I", Cond.constantLong RX9 92 (-1), Cond.methodLink RX9 59 yX9_isBicycle, Cond.static yX9_isBicycle, Cond.initialized RX9, Cond.code yX9_isBicycle cX9_isBicycle 1 (some .boolean), Cond.methodLink RX9 51 yX9_in, Cond.static yX9_in, Cond.code yX9_in cX9_in 3 (some .boolean), Cond.methodLink RX9 85 yX9_takes, Cond.instanceMethod yX9_takes, Cond.selects RX9 yX9_takes yX9_takes, Cond.code yX9_takes cX9_takes 3 none, Cond.fieldLink RX9 13 "SelfSteerModel" "tried" "[I", Cond.fieldLink RX9 7 "SelfSteerModel" "numbers" "[I", Cond.methodLink RX9 94 yX9_speeds, Cond.instanceMethod yX9_speeds, Cond.selects RX9 yX9_speeds yX9_speeds, Cond.code yX9_speeds cX9_speeds 4 (some .long), Cond.methodLink RX9 89 yX9_isUp, Cond.instanceMethod yX9_isUp, Cond.selects RX9 yX9_isUp yX9_isUp, Cond.code yX9_isUp cX9_isUp 13 (some .boolean), Cond.constantLong RX9 71 (100)]
def wsX9_range_r2 : List Cond := [Cond.methodLink RX9 75 yX9_signOf, Cond.instanceMethod yX9_signOf, Cond.selects RX9 yX9_signOf yX9_signOf, Cond.code yX9_signOf cX9_signOf 12 (some .long), Cond.constantLong RX9 73 (10)]
def wsX9_range : List Cond := .code yX9_range cX9_range 2 (some .long) :: ((wsX9_range_r1 ++ wsX9_range_r2) ++ wsX90)
def wsX9_rangeWithout : List Cond := .code yX9_rangeWithout cX9_rangeWithout 3 (some .long) :: ([.fieldLink RX9 13 "SelfSteerModel" "tried" "[I", .methodLink RX9 85 yX9_takes, .instanceMethod yX9_takes, .selects RX9 yX9_takes yX9_takes, .initialized RX9, .code yX9_takes cX9_takes 3 none, .fieldLink RX9 7 "SelfSteerModel" "numbers" "[I", .methodLink RX9 94 yX9_speeds, .instanceMethod yX9_speeds, .selects RX9 yX9_speeds yX9_speeds, .code yX9_speeds cX9_speeds 4 (some .long), .methodLink RX9 89 yX9_isUp, .instanceMethod yX9_isUp, .selects RX9 yX9_isUp yX9_isUp, .code yX9_isUp cX9_isUp 13 (some .boolean), .constantLong RX9 71 (100), .methodLink RX9 75 yX9_signOf, .instanceMethod yX9_signOf, .selects RX9 yX9_signOf yX9_signOf, .code yX9_signOf cX9_signOf 12 (some .long), .constantLong RX9 73 (10)] ++ wsX90)
def wsX9_without_r1 : List Cond := [Cond.fieldLink RX9 48 "SelfSteerModel" "thrown" "I", Cond.constantLong RX9 92 (-1), Cond.methodLink RX9 59 yX9_isBicycle, Cond.static yX9_isBicycle, Cond.initialized RX9, Cond.code yX9_isBicycle cX9_isBicycle 1 (some .boolean), Cond.methodLink RX9 51 yX9_in, Cond.static yX9_in, Cond.code yX9_in cX9_in 3 (some .boolean), Cond.methodLink RX9 98 yX9_rangeWithout, Cond.instanceMethod yX9_rangeWithout, Cond.selects RX9 yX9_rangeWithout yX9_rangeWithout, Cond.code yX9_rangeWithout cX9_rangeWithout 3 (some .long), Cond.fieldLink RX9 13 "SelfSteerModel" "tried" "[I", Cond.methodLink RX9 85 yX9_takes, Cond.instanceMethod yX9_takes, Cond.selects RX9 yX9_takes yX9_takes, Cond.code yX9_takes cX9_takes 3 none, Cond.fieldLink RX9 7 "SelfSteerModel" "numbers" "[I", Cond.methodLink RX9 94 yX9_speeds, Cond.instanceMethod yX9_speeds, Cond.selects RX9 yX9_speeds yX9_speeds, Cond.code yX9_speeds cX9_speeds 4 (some .long), Cond.methodLink RX9 89 yX9_isUp]
def wsX9_without_r2 : List Cond := [Cond.instanceMethod yX9_isUp, Cond.selects RX9 yX9_isUp yX9_isUp, Cond.code yX9_isUp cX9_isUp 13 (some .boolean), Cond.constantLong RX9 71 (100), Cond.methodLink RX9 75 yX9_signOf, Cond.instanceMethod yX9_signOf, Cond.selects RX9 yX9_signOf yX9_signOf, Cond.code yX9_signOf cX9_signOf 12 (some .long), Cond.constantLong RX9 73 (10)]
def wsX9_without : List Cond := .code yX9_without cX9_without 3 (some .long) :: ((wsX9_without_r1 ++ wsX9_without_r2) ++ wsX90)
def wsX9_allTheSame_r1 : List Cond := [Cond.constant RX9 102 (371293), Cond.fieldLink RX9 13 "SelfSteerModel" "tried" "[I", Cond.fieldLink RX9 7 "SelfSteerModel" "numbers" "[I", Cond.fieldLink RX9 45 "SelfSteerModel" "found" "[I", Cond.methodLink RX9 66 yX9_mayBe, Cond.static yX9_mayBe, Cond.initialized RX9, Cond.code yX9_mayBe cX9_mayBe 2 (some .boolean), Cond.methodLink RX9 55 yX9_bottom, Cond.static yX9_bottom, Cond.code yX9_bottom cX9_bottom 1 (some .int), Cond.methodLink RX9 51 yX9_in, Cond.static yX9_in, Cond.code yX9_in cX9_in 3 (some .boolean), Cond.methodLink RX9 94 yX9_speeds, Cond.instanceMethod yX9_speeds, Cond.selects RX9 yX9_speeds yX9_speeds, Cond.code yX9_speeds cX9_speeds 4 (some .long), Cond.methodLink RX9 89 yX9_isUp, Cond.instanceMethod yX9_isUp, Cond.selects RX9 yX9_isUp yX9_isUp, Cond.code yX9_isUp cX9_isUp 13 (some .boolean), Cond.constantLong RX9 71 (100), Cond.methodLink RX9 75 yX9_signOf]
def wsX9_allTheSame_r2 : List Cond := [Cond.instanceMethod yX9_signOf, Cond.selects RX9 yX9_signOf yX9_signOf, Cond.code yX9_signOf cX9_signOf 12 (some .long), Cond.constantLong RX9 73 (10)]
def wsX9_allTheSame : List Cond := .code yX9_allTheSame cX9_allTheSame 10 (some .int) :: ((wsX9_allTheSame_r1 ++ wsX9_allTheSame_r2) ++ wsX90)
def wsX9_reason_r1 : List Cond := [Cond.fieldLink RX9 48 "SelfSteerModel" "thrown" "I", Cond.constant RX9 70 (-1000000), Cond.fieldLink RX9 45 "SelfSteerModel" "found" "[I", Cond.methodLink RX9 59 yX9_isBicycle, Cond.static yX9_isBicycle, Cond.initialized RX9, Cond.code yX9_isBicycle cX9_isBicycle 1 (some .boolean), Cond.methodLink RX9 51 yX9_in, Cond.static yX9_in, Cond.code yX9_in cX9_in 3 (some .boolean), Cond.methodLink RX9 85 yX9_takes, Cond.instanceMethod yX9_takes, Cond.selects RX9 yX9_takes yX9_takes, Cond.code yX9_takes cX9_takes 3 none, Cond.fieldLink RX9 13 "SelfSteerModel" "tried" "[I", Cond.fieldLink RX9 7 "SelfSteerModel" "numbers" "[I", Cond.methodLink RX9 94 yX9_speeds, Cond.instanceMethod yX9_speeds, Cond.selects RX9 yX9_speeds yX9_speeds, Cond.code yX9_speeds cX9_speeds 4 (some .long), Cond.methodLink RX9 89 yX9_isUp, Cond.instanceMethod yX9_isUp, Cond.selects RX9 yX9_isUp yX9_isUp, Cond.code yX9_isUp cX9_isUp 13 (some .boolean)]
def wsX9_reason_r2 : List Cond := [Cond.constantLong RX9 71 (100), Cond.methodLink RX9 75 yX9_signOf, Cond.instanceMethod yX9_signOf, Cond.selects RX9 yX9_signOf yX9_signOf, Cond.code yX9_signOf cX9_signOf 12 (some .long), Cond.constantLong RX9 73 (10), Cond.methodLink RX9 98 yX9_rangeWithout, Cond.instanceMethod yX9_rangeWithout, Cond.selects RX9 yX9_rangeWithout yX9_rangeWithout, Cond.code yX9_rangeWithout cX9_rangeWithout 3 (some .long), Cond.methodLink RX9 103 yX9_allTheSame, Cond.instanceMethod yX9_allTheSame, Cond.selects RX9 yX9_allTheSame yX9_allTheSame, Cond.code yX9_allTheSame cX9_allTheSame 10 (some .int), Cond.constant RX9 102 (371293), Cond.methodLink RX9 66 yX9_mayBe, Cond.static yX9_mayBe, Cond.code yX9_mayBe cX9_mayBe 2 (some .boolean), Cond.methodLink RX9 55 yX9_bottom, Cond.static yX9_bottom, Cond.code yX9_bottom cX9_bottom 1 (some .int)]
def wsX9_reason : List Cond := .code yX9_reason cX9_reason 5 (some .int) :: ((wsX9_reason_r1 ++ wsX9_reason_r2) ++ wsX90)
def wsX9_moves_r1 : List Cond := [Cond.fieldLink RX9 48 "SelfSteerModel" "thrown" "I", Cond.constant RX9 70 (-1000000), Cond.fieldLink RX9 13 "SelfSteerModel" "tried" "[I", Cond.methodLink RX9 59 yX9_isBicycle, Cond.static yX9_isBicycle, Cond.initialized RX9, Cond.code yX9_isBicycle cX9_isBicycle 1 (some .boolean), Cond.methodLink RX9 51 yX9_in, Cond.static yX9_in, Cond.code yX9_in cX9_in 3 (some .boolean), Cond.methodLink RX9 63 yX9_isNumber, Cond.static yX9_isNumber, Cond.code yX9_isNumber cX9_isNumber 1 (some .boolean), Cond.methodLink RX9 85 yX9_takes, Cond.instanceMethod yX9_takes, Cond.selects RX9 yX9_takes yX9_takes, Cond.code yX9_takes cX9_takes 3 none, Cond.fieldLink RX9 7 "SelfSteerModel" "numbers" "[I", Cond.methodLink RX9 107 yX9_manySpeeds, Cond.instanceMethod yX9_manySpeeds, Cond.selects RX9 yX9_manySpeeds yX9_manySpeeds, Cond.code yX9_manySpeeds cX9_manySpeeds 3 (some .int), Cond.methodLink RX9 89 yX9_isUp, Cond.instanceMethod yX9_isUp]
def wsX9_moves_r2 : List Cond := [Cond.selects RX9 yX9_isUp yX9_isUp, Cond.code yX9_isUp cX9_isUp 13 (some .boolean), Cond.constantLong RX9 71 (100), Cond.methodLink RX9 75 yX9_signOf, Cond.instanceMethod yX9_signOf, Cond.selects RX9 yX9_signOf yX9_signOf, Cond.code yX9_signOf cX9_signOf 12 (some .long), Cond.constantLong RX9 73 (10), Cond.methodLink RX9 66 yX9_mayBe, Cond.static yX9_mayBe, Cond.code yX9_mayBe cX9_mayBe 2 (some .boolean), Cond.methodLink RX9 55 yX9_bottom, Cond.static yX9_bottom, Cond.code yX9_bottom cX9_bottom 1 (some .int)]
def wsX9_moves : List Cond := .code yX9_moves cX9_moves 5 (some .int) :: ((wsX9_moves_r1 ++ wsX9_moves_r2) ++ wsX90)
def wsX9_grid_r1 : List Cond := [Cond.fieldLink RX9 48 "SelfSteerModel" "thrown" "I", Cond.constant RX9 70 (-1000000), Cond.fieldLink RX9 13 "SelfSteerModel" "tried" "[I", Cond.methodLink RX9 59 yX9_isBicycle, Cond.static yX9_isBicycle, Cond.initialized RX9, Cond.code yX9_isBicycle cX9_isBicycle 1 (some .boolean), Cond.methodLink RX9 51 yX9_in, Cond.static yX9_in, Cond.code yX9_in cX9_in 3 (some .boolean), Cond.methodLink RX9 63 yX9_isNumber, Cond.static yX9_isNumber, Cond.code yX9_isNumber cX9_isNumber 1 (some .boolean), Cond.methodLink RX9 85 yX9_takes, Cond.instanceMethod yX9_takes, Cond.selects RX9 yX9_takes yX9_takes, Cond.code yX9_takes cX9_takes 3 none, Cond.fieldLink RX9 7 "SelfSteerModel" "numbers" "[I", Cond.methodLink RX9 55 yX9_bottom, Cond.static yX9_bottom, Cond.code yX9_bottom cX9_bottom 1 (some .int), Cond.methodLink RX9 94 yX9_speeds, Cond.instanceMethod yX9_speeds, Cond.selects RX9 yX9_speeds yX9_speeds]
def wsX9_grid_r2 : List Cond := [Cond.code yX9_speeds cX9_speeds 4 (some .long), Cond.methodLink RX9 89 yX9_isUp, Cond.instanceMethod yX9_isUp, Cond.selects RX9 yX9_isUp yX9_isUp, Cond.code yX9_isUp cX9_isUp 13 (some .boolean), Cond.constantLong RX9 71 (100), Cond.methodLink RX9 75 yX9_signOf, Cond.instanceMethod yX9_signOf, Cond.selects RX9 yX9_signOf yX9_signOf, Cond.code yX9_signOf cX9_signOf 12 (some .long), Cond.constantLong RX9 73 (10)]
def wsX9_grid : List Cond := .code yX9_grid cX9_grid 10 (some .int) :: ((wsX9_grid_r1 ++ wsX9_grid_r2) ++ wsX90)
def wsX9_least_r1 : List Cond := [Cond.fieldLink RX9 48 "SelfSteerModel" "thrown" "I", Cond.constant RX9 70 (-1000000), Cond.methodLink RX9 79 yX9_isAsked, Cond.static yX9_isAsked, Cond.initialized RX9, Cond.code yX9_isAsked cX9_isAsked 4 (some .boolean), Cond.methodLink RX9 59 yX9_isBicycle, Cond.static yX9_isBicycle, Cond.code yX9_isBicycle cX9_isBicycle 1 (some .boolean), Cond.methodLink RX9 51 yX9_in, Cond.static yX9_in, Cond.code yX9_in cX9_in 3 (some .boolean), Cond.methodLink RX9 85 yX9_takes, Cond.instanceMethod yX9_takes, Cond.selects RX9 yX9_takes yX9_takes, Cond.code yX9_takes cX9_takes 3 none, Cond.fieldLink RX9 13 "SelfSteerModel" "tried" "[I", Cond.fieldLink RX9 7 "SelfSteerModel" "numbers" "[I", Cond.methodLink RX9 89 yX9_isUp, Cond.instanceMethod yX9_isUp, Cond.selects RX9 yX9_isUp yX9_isUp, Cond.code yX9_isUp cX9_isUp 13 (some .boolean), Cond.constantLong RX9 71 (100), Cond.methodLink RX9 75 yX9_signOf]
def wsX9_least_r2 : List Cond := [Cond.instanceMethod yX9_signOf, Cond.selects RX9 yX9_signOf yX9_signOf, Cond.code yX9_signOf cX9_signOf 12 (some .long), Cond.constantLong RX9 73 (10)]
def wsX9_least : List Cond := .code yX9_least cX9_least 5 (some .int) :: ((wsX9_least_r1 ++ wsX9_least_r2) ++ wsX90)
def wsX9_tries_r1 : List Cond := [Cond.fieldLink RX9 13 "SelfSteerModel" "tried" "[I", Cond.fieldLink RX9 7 "SelfSteerModel" "numbers" "[I", Cond.fieldLink RX9 42 "SelfSteerModel" "counts" "[I", Cond.methodLink RX9 66 yX9_mayBe, Cond.static yX9_mayBe, Cond.initialized RX9, Cond.code yX9_mayBe cX9_mayBe 2 (some .boolean), Cond.methodLink RX9 55 yX9_bottom, Cond.static yX9_bottom, Cond.code yX9_bottom cX9_bottom 1 (some .int), Cond.methodLink RX9 51 yX9_in, Cond.static yX9_in, Cond.code yX9_in cX9_in 3 (some .boolean), Cond.methodLink RX9 107 yX9_manySpeeds, Cond.instanceMethod yX9_manySpeeds, Cond.selects RX9 yX9_manySpeeds yX9_manySpeeds, Cond.code yX9_manySpeeds cX9_manySpeeds 3 (some .int), Cond.methodLink RX9 89 yX9_isUp, Cond.instanceMethod yX9_isUp, Cond.selects RX9 yX9_isUp yX9_isUp, Cond.code yX9_isUp cX9_isUp 13 (some .boolean), Cond.constantLong RX9 71 (100), Cond.methodLink RX9 75 yX9_signOf, Cond.instanceMethod yX9_signOf]
def wsX9_tries_r2 : List Cond := [Cond.selects RX9 yX9_signOf yX9_signOf, Cond.code yX9_signOf cX9_signOf 12 (some .long), Cond.constantLong RX9 73 (10)]
def wsX9_tries : List Cond := .code yX9_tries cX9_tries 6 none :: ((wsX9_tries_r1 ++ wsX9_tries_r2) ++ wsX90)
def wsX9_spreadOf : List Cond := .code yX9_spreadOf cX9_spreadOf 8 (some .int) :: ([.fieldLink RX9 42 "SelfSteerModel" "counts" "[I"] ++ wsX90)
def wsX9_spread_r1 : List Cond := [Cond.fieldLink RX9 48 "SelfSteerModel" "thrown" "I", Cond.methodLink RX9 59 yX9_isBicycle, Cond.static yX9_isBicycle, Cond.initialized RX9, Cond.code yX9_isBicycle cX9_isBicycle 1 (some .boolean), Cond.methodLink RX9 51 yX9_in, Cond.static yX9_in, Cond.code yX9_in cX9_in 3 (some .boolean), Cond.methodLink RX9 111 yX9_tries, Cond.instanceMethod yX9_tries, Cond.selects RX9 yX9_tries yX9_tries, Cond.code yX9_tries cX9_tries 6 none, Cond.fieldLink RX9 13 "SelfSteerModel" "tried" "[I", Cond.fieldLink RX9 7 "SelfSteerModel" "numbers" "[I", Cond.fieldLink RX9 42 "SelfSteerModel" "counts" "[I", Cond.methodLink RX9 66 yX9_mayBe, Cond.static yX9_mayBe, Cond.code yX9_mayBe cX9_mayBe 2 (some .boolean), Cond.methodLink RX9 55 yX9_bottom, Cond.static yX9_bottom, Cond.code yX9_bottom cX9_bottom 1 (some .int), Cond.methodLink RX9 107 yX9_manySpeeds, Cond.instanceMethod yX9_manySpeeds, Cond.selects RX9 yX9_manySpeeds yX9_manySpeeds]
def wsX9_spread_r2 : List Cond := [Cond.code yX9_manySpeeds cX9_manySpeeds 3 (some .int), Cond.methodLink RX9 89 yX9_isUp, Cond.instanceMethod yX9_isUp, Cond.selects RX9 yX9_isUp yX9_isUp, Cond.code yX9_isUp cX9_isUp 13 (some .boolean), Cond.constantLong RX9 71 (100), Cond.methodLink RX9 75 yX9_signOf, Cond.instanceMethod yX9_signOf, Cond.selects RX9 yX9_signOf yX9_signOf, Cond.code yX9_signOf cX9_signOf 12 (some .long), Cond.constantLong RX9 73 (10), Cond.methodLink RX9 114 yX9_spreadOf, Cond.instanceMethod yX9_spreadOf, Cond.selects RX9 yX9_spreadOf yX9_spreadOf, Cond.code yX9_spreadOf cX9_spreadOf 8 (some .int)]
def wsX9_spread : List Cond := .code yX9_spread cX9_spread 3 (some .int) :: ((wsX9_spread_r1 ++ wsX9_spread_r2) ++ wsX90)
def wsX9_ones : List Cond := .code yX9_ones cX9_ones 3 (some .int) :: ([])
def wsX9_fewest_r1 : List Cond := [Cond.fieldLink RX9 48 "SelfSteerModel" "thrown" "I", Cond.methodLink RX9 59 yX9_isBicycle, Cond.static yX9_isBicycle, Cond.initialized RX9, Cond.code yX9_isBicycle cX9_isBicycle 1 (some .boolean), Cond.methodLink RX9 51 yX9_in, Cond.static yX9_in, Cond.code yX9_in cX9_in 3 (some .boolean), Cond.methodLink RX9 111 yX9_tries, Cond.instanceMethod yX9_tries, Cond.selects RX9 yX9_tries yX9_tries, Cond.code yX9_tries cX9_tries 6 none, Cond.fieldLink RX9 13 "SelfSteerModel" "tried" "[I", Cond.fieldLink RX9 7 "SelfSteerModel" "numbers" "[I", Cond.fieldLink RX9 42 "SelfSteerModel" "counts" "[I", Cond.methodLink RX9 66 yX9_mayBe, Cond.static yX9_mayBe, Cond.code yX9_mayBe cX9_mayBe 2 (some .boolean), Cond.methodLink RX9 55 yX9_bottom, Cond.static yX9_bottom, Cond.code yX9_bottom cX9_bottom 1 (some .int), Cond.methodLink RX9 107 yX9_manySpeeds, Cond.instanceMethod yX9_manySpeeds, Cond.selects RX9 yX9_manySpeeds yX9_manySpeeds]
def wsX9_fewest_r2 : List Cond := [Cond.code yX9_manySpeeds cX9_manySpeeds 3 (some .int), Cond.methodLink RX9 89 yX9_isUp, Cond.instanceMethod yX9_isUp, Cond.selects RX9 yX9_isUp yX9_isUp, Cond.code yX9_isUp cX9_isUp 13 (some .boolean), Cond.constantLong RX9 71 (100), Cond.methodLink RX9 75 yX9_signOf, Cond.instanceMethod yX9_signOf, Cond.selects RX9 yX9_signOf yX9_signOf, Cond.code yX9_signOf cX9_signOf 12 (some .long), Cond.constantLong RX9 73 (10), Cond.methodLink RX9 117 yX9_ones, Cond.static yX9_ones, Cond.code yX9_ones cX9_ones 3 (some .int), Cond.methodLink RX9 114 yX9_spreadOf, Cond.instanceMethod yX9_spreadOf, Cond.selects RX9 yX9_spreadOf yX9_spreadOf, Cond.code yX9_spreadOf cX9_spreadOf 8 (some .int)]
def wsX9_fewest : List Cond := .code yX9_fewest cX9_fewest 6 (some .int) :: ((wsX9_fewest_r1 ++ wsX9_fewest_r2) ++ wsX90)
def wsX9_type : List Cond := .code yX9_type cX9_type 5 (some .int) :: ([.fieldLink RX9 48 "SelfSteerModel" "thrown" "I", .fieldLink RX9 120 "SelfSteerModel" "typed" "I", .fieldLink RX9 39 "SelfSteerModel" "text" "[I", .constantLong RX9 123 (255), .methodLink RX9 51 yX9_in, .static yX9_in, .initialized RX9, .code yX9_in cX9_in 3 (some .boolean)] ++ wsX90)
def wsX9_clear : List Cond := .code yX9_clear cX9_clear 2 (some .int) :: ([.fieldLink RX9 48 "SelfSteerModel" "thrown" "I", .fieldLink RX9 120 "SelfSteerModel" "typed" "I"] ++ wsX90)
def wsX9_byteAt : List Cond := .code yX9_byteAt cX9_byteAt 2 (some .int) :: ([.fieldLink RX9 120 "SelfSteerModel" "typed" "I", .fieldLink RX9 39 "SelfSteerModel" "text" "[I"] ++ wsX90)
def wsX9_word : List Cond := .code yX9_word cX9_word 6 (some .long) :: ([.constantLong RX9 125 (65536), .constantLong RX9 127 (256)])
def wsX9_wordOf : List Cond := .code yX9_wordOf cX9_wordOf 2 (some .int) :: ([.methodLink RX9 129 yX9_word, .static yX9_word, .initialized RX9, .code yX9_word cX9_word 6 (some .long), .constantLong RX9 125 (65536), .constantLong RX9 127 (256)])
def wsX9_advances : List Cond := .code yX9_advances cX9_advances 4 none :: ([.fieldLink RX9 133 "SelfSteerModel" "next" "I", .fieldLink RX9 139 "SelfSteerModel" "place" "I", .fieldLink RX9 142 "SelfSteerModel" "token" "I", .constantLong RX9 127 (256), .fieldLink RX9 149 "SelfSteerModel" "value" "I", .methodLink RX9 136 yX9_byteAt, .instanceMethod yX9_byteAt, .selects RX9 yX9_byteAt yX9_byteAt, .initialized RX9, .code yX9_byteAt cX9_byteAt 2 (some .int), .fieldLink RX9 120 "SelfSteerModel" "typed" "I", .fieldLink RX9 39 "SelfSteerModel" "text" "[I", .methodLink RX9 51 yX9_in, .static yX9_in, .code yX9_in cX9_in 3 (some .boolean), .methodLink RX9 145 yX9_wordOf, .static yX9_wordOf, .code yX9_wordOf cX9_wordOf 2 (some .int), .methodLink RX9 129 yX9_word, .static yX9_word, .code yX9_word cX9_word 6 (some .long), .constantLong RX9 125 (65536)] ++ wsX90)
def wsX9_isWell : List Cond := .code yX9_isWell cX9_isWell 1 (some .boolean) :: ([.fieldLink RX9 152 "SelfSteerModel" "fault" "I"] ++ wsX90)
def wsX9_reads_r1 : List Cond := [Cond.fieldLink RX9 139 "SelfSteerModel" "place" "I", Cond.fieldLink RX9 152 "SelfSteerModel" "fault" "I", Cond.fieldLink RX9 149 "SelfSteerModel" "value" "I", Cond.methodLink RX9 155 yX9_isWell, Cond.instanceMethod yX9_isWell, Cond.selects RX9 yX9_isWell yX9_isWell, Cond.initialized RX9, Cond.code yX9_isWell cX9_isWell 1 (some .boolean), Cond.methodLink RX9 159 yX9_advances, Cond.instanceMethod yX9_advances, Cond.selects RX9 yX9_advances yX9_advances, Cond.code yX9_advances cX9_advances 4 none, Cond.fieldLink RX9 133 "SelfSteerModel" "next" "I", Cond.fieldLink RX9 142 "SelfSteerModel" "token" "I", Cond.constantLong RX9 127 (256), Cond.methodLink RX9 136 yX9_byteAt, Cond.instanceMethod yX9_byteAt, Cond.selects RX9 yX9_byteAt yX9_byteAt, Cond.code yX9_byteAt cX9_byteAt 2 (some .int), Cond.fieldLink RX9 120 "SelfSteerModel" "typed" "I", Cond.fieldLink RX9 39 "SelfSteerModel" "text" "[I", Cond.methodLink RX9 51 yX9_in, Cond.static yX9_in, Cond.code yX9_in cX9_in 3 (some .boolean)]
def wsX9_reads_r2 : List Cond := [Cond.methodLink RX9 145 yX9_wordOf, Cond.static yX9_wordOf, Cond.code yX9_wordOf cX9_wordOf 2 (some .int), Cond.methodLink RX9 129 yX9_word, Cond.static yX9_word, Cond.code yX9_word cX9_word 6 (some .long), Cond.constantLong RX9 125 (65536)]
def wsX9_reads : List Cond := .code yX9_reads cX9_reads 3 (some .int) :: ((wsX9_reads_r1 ++ wsX9_reads_r2) ++ wsX90)
def wsX9_rider_r1 : List Cond := [Cond.fieldLink RX9 48 "SelfSteerModel" "thrown" "I", Cond.fieldLink RX9 152 "SelfSteerModel" "fault" "I", Cond.fieldLink RX9 133 "SelfSteerModel" "next" "I", Cond.fieldLink RX9 29 "SelfSteerModel" "law" "[I", Cond.fieldLink RX9 142 "SelfSteerModel" "token" "I", Cond.fieldLink RX9 149 "SelfSteerModel" "value" "I", Cond.fieldLink RX9 166 "SelfSteerModel" "items" "I", Cond.fieldLink RX9 120 "SelfSteerModel" "typed" "I", Cond.methodLink RX9 159 yX9_advances, Cond.instanceMethod yX9_advances, Cond.selects RX9 yX9_advances yX9_advances, Cond.initialized RX9, Cond.code yX9_advances cX9_advances 4 none, Cond.fieldLink RX9 139 "SelfSteerModel" "place" "I", Cond.constantLong RX9 127 (256), Cond.methodLink RX9 136 yX9_byteAt, Cond.instanceMethod yX9_byteAt, Cond.selects RX9 yX9_byteAt yX9_byteAt, Cond.code yX9_byteAt cX9_byteAt 2 (some .int), Cond.fieldLink RX9 39 "SelfSteerModel" "text" "[I", Cond.methodLink RX9 51 yX9_in, Cond.static yX9_in, Cond.code yX9_in cX9_in 3 (some .boolean), Cond.methodLink RX9 145 yX9_wordOf]
def wsX9_rider_r2 : List Cond := [Cond.static yX9_wordOf, Cond.code yX9_wordOf cX9_wordOf 2 (some .int), Cond.methodLink RX9 129 yX9_word, Cond.static yX9_word, Cond.code yX9_word cX9_word 6 (some .long), Cond.constantLong RX9 125 (65536), Cond.methodLink RX9 155 yX9_isWell, Cond.instanceMethod yX9_isWell, Cond.selects RX9 yX9_isWell yX9_isWell, Cond.code yX9_isWell cX9_isWell 1 (some .boolean), Cond.methodLink RX9 162 yX9_reads, Cond.instanceMethod yX9_reads, Cond.selects RX9 yX9_reads yX9_reads, Cond.code yX9_reads cX9_reads 3 (some .int)]
def wsX9_rider : List Cond := .code yX9_rider cX9_rider 6 (some .int) :: ((wsX9_rider_r1 ++ wsX9_rider_r2) ++ wsX90)
def wsX9_sets : List Cond := .code yX9_sets cX9_sets 5 none :: ([.fieldLink RX9 16 "SelfSteerModel" "s" "[I"] ++ wsX90)
def wsX9_ride : List Cond := .code yX9_ride cX9_ride 5 (some .int) :: ([.fieldLink RX9 48 "SelfSteerModel" "thrown" "I", .fieldLink RX9 16 "SelfSteerModel" "s" "[I", .methodLink RX9 59 yX9_isBicycle, .static yX9_isBicycle, .initialized RX9, .code yX9_isBicycle cX9_isBicycle 1 (some .boolean), .methodLink RX9 51 yX9_in, .static yX9_in, .code yX9_in cX9_in 3 (some .boolean), .methodLink RX9 169 yX9_sets, .instanceMethod yX9_sets, .selects RX9 yX9_sets yX9_sets, .code yX9_sets cX9_sets 5 none] ++ wsX90)
def wsX9_push : List Cond := .code yX9_push cX9_push 2 (some .int) :: ([.fieldLink RX9 48 "SelfSteerModel" "thrown" "I", .fieldLink RX9 16 "SelfSteerModel" "s" "[I", .constant RX9 70 (-1000000), .methodLink RX9 51 yX9_in, .static yX9_in, .initialized RX9, .code yX9_in cX9_in 3 (some .boolean)] ++ wsX90)
def wsX9_within : List Cond := .code yX9_within cX9_within 2 (some .int) :: ([])
def wsX9_tick : List Cond := .code yX9_tick cX9_tick 10 none :: ([.fieldLink RX9 16 "SelfSteerModel" "s" "[I", .fieldLink RX9 29 "SelfSteerModel" "law" "[I", .fieldLink RX9 13 "SelfSteerModel" "tried" "[I", .constant RX9 173 (100000), .methodLink RX9 85 yX9_takes, .instanceMethod yX9_takes, .selects RX9 yX9_takes yX9_takes, .initialized RX9, .code yX9_takes cX9_takes 3 none, .fieldLink RX9 7 "SelfSteerModel" "numbers" "[I", .methodLink RX9 174 yX9_within, .static yX9_within, .code yX9_within cX9_within 2 (some .int)] ++ wsX90)
def wsX9_ticks : List Cond := .code yX9_ticks cX9_ticks 3 (some .int) :: ([.fieldLink RX9 48 "SelfSteerModel" "thrown" "I", .fieldLink RX9 16 "SelfSteerModel" "s" "[I", .methodLink RX9 51 yX9_in, .static yX9_in, .initialized RX9, .code yX9_in cX9_in 3 (some .boolean), .methodLink RX9 177 yX9_tick, .instanceMethod yX9_tick, .selects RX9 yX9_tick yX9_tick, .code yX9_tick cX9_tick 10 none, .fieldLink RX9 29 "SelfSteerModel" "law" "[I", .fieldLink RX9 13 "SelfSteerModel" "tried" "[I", .constant RX9 173 (100000), .methodLink RX9 85 yX9_takes, .instanceMethod yX9_takes, .selects RX9 yX9_takes yX9_takes, .code yX9_takes cX9_takes 3 none, .fieldLink RX9 7 "SelfSteerModel" "numbers" "[I", .methodLink RX9 174 yX9_within, .static yX9_within, .code yX9_within cX9_within 2 (some .int)] ++ wsX90)
def wsX9_at : List Cond := .code yX9_at cX9_at 2 (some .int) :: ([.fieldLink RX9 48 "SelfSteerModel" "thrown" "I", .constant RX9 70 (-1000000), .fieldLink RX9 16 "SelfSteerModel" "s" "[I", .methodLink RX9 51 yX9_in, .static yX9_in, .initialized RX9, .code yX9_in cX9_in 3 (some .boolean)] ++ wsX90)
def wsX9_bears_r1 : List Cond := [Cond.fieldLink RX9 48 "SelfSteerModel" "thrown" "I", Cond.fieldLink RX9 22 "SelfSteerModel" "spare" "[I", Cond.fieldLink RX9 16 "SelfSteerModel" "s" "[I", Cond.methodLink RX9 51 yX9_in, Cond.static yX9_in, Cond.initialized RX9, Cond.code yX9_in cX9_in 3 (some .boolean), Cond.methodLink RX9 169 yX9_sets, Cond.instanceMethod yX9_sets, Cond.selects RX9 yX9_sets yX9_sets, Cond.code yX9_sets cX9_sets 5 none, Cond.methodLink RX9 177 yX9_tick, Cond.instanceMethod yX9_tick, Cond.selects RX9 yX9_tick yX9_tick, Cond.code yX9_tick cX9_tick 10 none, Cond.fieldLink RX9 29 "SelfSteerModel" "law" "[I", Cond.fieldLink RX9 13 "SelfSteerModel" "tried" "[I", Cond.constant RX9 173 (100000), Cond.methodLink RX9 85 yX9_takes, Cond.instanceMethod yX9_takes, Cond.selects RX9 yX9_takes yX9_takes, Cond.code yX9_takes cX9_takes 3 none, Cond.fieldLink RX9 7 "SelfSteerModel" "numbers" "[I", Cond.methodLink RX9 174 yX9_within]
def wsX9_bears_r2 : List Cond := [Cond.static yX9_within, Cond.code yX9_within cX9_within 2 (some .int)]
def wsX9_bears : List Cond := .code yX9_bears cX9_bears 5 (some .int) :: ((wsX9_bears_r1 ++ wsX9_bears_r2) ++ wsX90)
def wsX9_weeks : List Cond := .code yX9_weeks cX9_weeks 7 (some .int) :: ([.fieldLink RX9 48 "SelfSteerModel" "thrown" "I", .fieldLink RX9 16 "SelfSteerModel" "s" "[I", .fieldLink RX9 32 "SelfSteerModel" "upBy" "I", .fieldLink RX9 36 "SelfSteerModel" "downBy" "I", .methodLink RX9 51 yX9_in, .static yX9_in, .initialized RX9, .code yX9_in cX9_in 3 (some .boolean)] ++ wsX90)
def wsX9_tune : List Cond := .code yX9_tune cX9_tune 4 (some .int) :: ([.fieldLink RX9 48 "SelfSteerModel" "thrown" "I", .fieldLink RX9 32 "SelfSteerModel" "upBy" "I", .fieldLink RX9 36 "SelfSteerModel" "downBy" "I", .methodLink RX9 51 yX9_in, .static yX9_in, .initialized RX9, .code yX9_in cX9_in 3 (some .boolean)] ++ wsX90)
def wsX9_habit : List Cond := .code yX9_habit cX9_habit 4 (some .int) :: ([.fieldLink RX9 48 "SelfSteerModel" "thrown" "I", .fieldLink RX9 16 "SelfSteerModel" "s" "[I", .fieldLink RX9 32 "SelfSteerModel" "upBy" "I", .methodLink RX9 51 yX9_in, .static yX9_in, .initialized RX9, .code yX9_in cX9_in 3 (some .boolean)] ++ wsX90)
def wsX9_many : List Cond := .code yX9_many cX9_many 4 (some .int) :: ([])
def wsX9_score_r1 : List Cond := [Cond.fieldLink RX9 48 "SelfSteerModel" "thrown" "I", Cond.constant RX9 70 (-1000000), Cond.fieldLink RX9 183 "SelfSteerModel" "trace" "J", Cond.constantLong RX9 187 (11), Cond.constantLong RX9 189 (101), Cond.constantLong RX9 191 (1001), Cond.constantLong RX9 193 (11001), Cond.constantLong RX9 195 (100001), Cond.constantLong RX9 197 (1000001), Cond.fieldLink RX9 7 "SelfSteerModel" "numbers" "[I", Cond.fieldLink RX9 16 "SelfSteerModel" "s" "[I", Cond.methodLink RX9 51 yX9_in, Cond.static yX9_in, Cond.initialized RX9, Cond.code yX9_in cX9_in 3 (some .boolean), Cond.methodLink RX9 59 yX9_isBicycle, Cond.static yX9_isBicycle, Cond.code yX9_isBicycle cX9_isBicycle 1 (some .boolean), Cond.methodLink RX9 85 yX9_takes, Cond.instanceMethod yX9_takes, Cond.selects RX9 yX9_takes yX9_takes, Cond.code yX9_takes cX9_takes 3 none, Cond.fieldLink RX9 13 "SelfSteerModel" "tried" "[I", Cond.methodLink RX9 107 yX9_manySpeeds]
def wsX9_score_r2 : List Cond := [Cond.instanceMethod yX9_manySpeeds, Cond.selects RX9 yX9_manySpeeds yX9_manySpeeds, Cond.code yX9_manySpeeds cX9_manySpeeds 3 (some .int), Cond.methodLink RX9 89 yX9_isUp, Cond.instanceMethod yX9_isUp, Cond.selects RX9 yX9_isUp yX9_isUp, Cond.code yX9_isUp cX9_isUp 13 (some .boolean), Cond.constantLong RX9 71 (100), Cond.methodLink RX9 75 yX9_signOf, Cond.instanceMethod yX9_signOf, Cond.selects RX9 yX9_signOf yX9_signOf, Cond.code yX9_signOf cX9_signOf 12 (some .long), Cond.constantLong RX9 73 (10), Cond.methodLink RX9 98 yX9_rangeWithout, Cond.instanceMethod yX9_rangeWithout, Cond.selects RX9 yX9_rangeWithout yX9_rangeWithout, Cond.code yX9_rangeWithout cX9_rangeWithout 3 (some .long), Cond.methodLink RX9 94 yX9_speeds, Cond.instanceMethod yX9_speeds, Cond.selects RX9 yX9_speeds yX9_speeds, Cond.code yX9_speeds cX9_speeds 4 (some .long), Cond.methodLink RX9 180 yX9_many, Cond.static yX9_many, Cond.code yX9_many cX9_many 4 (some .int)]
def wsX9_score : List Cond := .code yX9_score cX9_score 6 (some .int) :: ((wsX9_score_r1 ++ wsX9_score_r2) ++ wsX90)
def wsX9_keep : List Cond := .code yX9_keep cX9_keep 3 (some .int) :: ([.fieldLink RX9 48 "SelfSteerModel" "thrown" "I", .fieldLink RX9 19 "SelfSteerModel" "kept" "[I", .fieldLink RX9 16 "SelfSteerModel" "s" "[I", .fieldLink RX9 25 "SelfSteerModel" "isKept" "[Z", .methodLink RX9 51 yX9_in, .static yX9_in, .initialized RX9, .code yX9_in cX9_in 3 (some .boolean)] ++ wsX90)
def wsX9_back : List Cond := .code yX9_back cX9_back 3 (some .int) :: ([.fieldLink RX9 48 "SelfSteerModel" "thrown" "I", .fieldLink RX9 25 "SelfSteerModel" "isKept" "[Z", .fieldLink RX9 16 "SelfSteerModel" "s" "[I", .fieldLink RX9 19 "SelfSteerModel" "kept" "[I", .methodLink RX9 51 yX9_in, .static yX9_in, .initialized RX9, .code yX9_in cX9_in 3 (some .boolean)] ++ wsX90)
def wsX9_count : List Cond := .code yX9_count cX9_count 4 (some .int) :: ([.fieldLink RX9 48 "SelfSteerModel" "thrown" "I", .fieldLink RX9 166 "SelfSteerModel" "items" "I", .fieldLink RX9 120 "SelfSteerModel" "typed" "I", .methodLink RX9 85 yX9_takes, .instanceMethod yX9_takes, .selects RX9 yX9_takes yX9_takes, .initialized RX9, .code yX9_takes cX9_takes 3 none, .fieldLink RX9 13 "SelfSteerModel" "tried" "[I", .fieldLink RX9 7 "SelfSteerModel" "numbers" "[I", .methodLink RX9 107 yX9_manySpeeds, .instanceMethod yX9_manySpeeds, .selects RX9 yX9_manySpeeds yX9_manySpeeds, .code yX9_manySpeeds cX9_manySpeeds 3 (some .int), .methodLink RX9 89 yX9_isUp, .instanceMethod yX9_isUp, .selects RX9 yX9_isUp yX9_isUp, .code yX9_isUp cX9_isUp 13 (some .boolean), .constantLong RX9 71 (100), .methodLink RX9 75 yX9_signOf, .instanceMethod yX9_signOf, .selects RX9 yX9_signOf yX9_signOf, .code yX9_signOf cX9_signOf 12 (some .long), .constantLong RX9 73 (10)] ++ wsX90)
def wsX9_trace : List Cond := .code yX9_trace cX9_trace 1 (some .long) :: ([.fieldLink RX9 48 "SelfSteerModel" "thrown" "I", .fieldLink RX9 183 "SelfSteerModel" "trace" "J"] ++ wsX90)
def wsJ9_abs_0f7a4 : List Cond := .code yJ9_abs_0f7a4 cJ9_abs_0f7a4 1 (some .int) :: ([])
def wsJ9_max_7cf53 : List Cond := .code yJ9_max_7cf53 cJ9_max_7cf53 2 (some .int) :: ([])
def wsJ9_min_7cf53 : List Cond := .code yJ9_min_7cf53 cJ9_min_7cf53 2 (some .int) :: ([])
def wsL_law_r1 : List Cond := [Cond.classLink RL 7 RX8, Cond.instantiable RX8 16, Cond.initialized RX8, Cond.classLink RL 10 RX9, Cond.instantiable RX9 21, Cond.initialized RX9, Cond.constantLong RL 67 (4294967295), Cond.methodLink RL 9 yX8_init, Cond.instanceMethod yX8_init, Cond.code yX8_init cX8_init 2 none, Cond.methodLink RX8 1 objectInit, Cond.instanceMethod objectInit, Cond.code objectInit ⟨#[0xb1]⟩ 1 none, Cond.classLink RX8 9 RX0, Cond.fieldLink RX8 11 "SelfSteer" "bicycles" "[LSelfSteer$Bicycle;", Cond.instantiable RX0 1, Cond.initialized RX0, Cond.fieldLink RX8 16 "SelfSteer" "trial" "LSelfSteer$Bicycle;", Cond.classLink RX8 20 RX1, Cond.instantiable RX1 1, Cond.initialized RX1, Cond.fieldLink RX8 23 "SelfSteer" "change" "LSelfSteer$Change;", Cond.classLink RX8 27 RX2, Cond.instantiable RX2 3]
def wsL_law_r2 : List Cond := [Cond.initialized RX2, Cond.fieldLink RX8 30 "SelfSteer" "doubt" "LSelfSteer$Doubt;", Cond.arrayClass .int, Cond.fieldLink RX8 34 "SelfSteer" "text" "[I", Cond.fieldLink RX8 38 "SelfSteer" "textLength" "I", Cond.classLink RX8 42 RX5, Cond.instantiable RX5 6, Cond.initialized RX5, Cond.fieldLink RX8 45 "SelfSteer" "reader" "LSelfSteer$Reader;", Cond.classLink RX8 49 RX7, Cond.instantiable RX7 2, Cond.initialized RX7, Cond.fieldLink RX8 52 "SelfSteer" "draft" "LSelfSteer$Rider;", Cond.fieldLink RX8 56 "SelfSteer" "theRider" "LSelfSteer$Rider;", Cond.classLink RX8 59 RX6, Cond.instantiable RX6 13, Cond.initialized RX6, Cond.fieldLink RX8 62 "SelfSteer" "theRide" "LSelfSteer$Ride;", Cond.fieldLink RX8 66 "SelfSteer" "trialRide" "LSelfSteer$Ride;", Cond.classLink RX8 69 RX3, Cond.instantiable RX3 2, Cond.initialized RX3, Cond.fieldLink RX8 72 "SelfSteer" "habits" "LSelfSteer$Habits;", Cond.fieldLink RX8 76 "SelfSteer" "weekUp" "I"]
def wsL_law_r3 : List Cond := [Cond.fieldLink RX8 79 "SelfSteer" "weekDown" "I", Cond.classLink RX8 82 RX4, Cond.fieldLink RX8 84 "SelfSteer" "images" "[LSelfSteer$Image;", Cond.fieldLink RX8 88 "SelfSteer" "traced" "J", Cond.instantiable RX4 3, Cond.initialized RX4, Cond.instanceMethod yX0_init, Cond.code yX0_init cX0_init 1 none, Cond.methodLink RX0 3 objectInit, Cond.fieldLink RX0 9 "SelfSteer$Bicycle" "numbers" "[I", Cond.methodLink RX0 18 arraycopyName, Cond.native arraycopyName, Cond.static arraycopyName, Cond.initialized "java/lang/System", Cond.instanceMethod yX1_init, Cond.code yX1_init cX1_init 1 none, Cond.methodLink RX1 3 objectInit, Cond.classLink RX1 9 RX0, Cond.fieldLink RX1 12 "SelfSteer$Change" "tried" "LSelfSteer$Bicycle;", Cond.instanceMethod yX2_init, Cond.code yX2_init cX2_init 2 none, Cond.methodLink RX2 3 objectInit, Cond.classLink RX2 9 RX0, Cond.fieldLink RX2 12 "SelfSteer$Doubt" "tried" "LSelfSteer$Bicycle;"]
def wsL_law_r4 : List Cond := [Cond.fieldLink RX2 18 "SelfSteer$Doubt" "changed" "[I", Cond.fieldLink RX2 22 "SelfSteer$Doubt" "speedCounts" "[I", Cond.methodLink RX2 25 yX2_changedIn, Cond.static yX2_changedIn, Cond.code yX2_changedIn cX2_changedIn 4 (some .int), Cond.instanceMethod yX5_init, Cond.code yX5_init cX5_init 1 none, Cond.methodLink RX5 1 objectInit, Cond.fieldLink RX5 7 "SelfSteer$Reader" "bytes" "[I", Cond.fieldLink RX5 13 "SelfSteer$Reader" "length" "I", Cond.fieldLink RX5 17 "SelfSteer$Reader" "place" "I", Cond.fieldLink RX5 20 "SelfSteer$Reader" "begin" "I", Cond.fieldLink RX5 23 "SelfSteer$Reader" "token" "I", Cond.fieldLink RX5 26 "SelfSteer$Reader" "value" "I", Cond.instanceMethod yX7_init, Cond.code yX7_init cX7_init 1 none, Cond.methodLink RX7 1 objectInit, Cond.fieldLink RX7 9 "SelfSteer$Rider" "values" "[I", Cond.fieldLink RX7 13 "SelfSteer$Rider" "toldBits" "I", Cond.fieldLink RX7 17 "SelfSteer$Rider" "UNTOLD" "[I", Cond.methodLink RX7 20 arraycopyName, Cond.instanceMethod yX6_init, Cond.code yX6_init cX6_init 1 none, Cond.methodLink RX6 3 objectInit]
def wsL_law_r5 : List Cond := [Cond.fieldLink RX6 9 "SelfSteer$Ride" "bicycle" "I", Cond.fieldLink RX6 15 "SelfSteer$Ride" "speed" "I", Cond.fieldLink RX6 18 "SelfSteer$Ride" "reversed" "Z", Cond.fieldLink RX6 22 "SelfSteer$Ride" "lean" "I", Cond.fieldLink RX6 25 "SelfSteer$Ride" "bar" "I", Cond.fieldLink RX6 28 "SelfSteer$Ride" "leanChange" "I", Cond.fieldLink RX6 31 "SelfSteer$Ride" "barChange" "I", Cond.fieldLink RX6 34 "SelfSteer$Ride" "hand" "I", Cond.fieldLink RX6 37 "SelfSteer$Ride" "ticks" "I", Cond.fieldLink RX6 40 "SelfSteer$Ride" "lies" "Z", Cond.fieldLink RX6 43 "SelfSteer$Ride" "pastLean" "[I", Cond.fieldLink RX6 47 "SelfSteer$Ride" "pastLeanChange" "[I", Cond.fieldLink RX6 50 "SelfSteer$Ride" "pastBar" "[I", Cond.instanceMethod yX3_init, Cond.code yX3_init cX3_init 1 none, Cond.methodLink RX3 1 objectInit, Cond.fieldLink RX3 9 "SelfSteer$Habits" "values" "[I", Cond.arrayClass .boolean, Cond.fieldLink RX3 13 "SelfSteer$Habits" "wasWhole" "[Z", Cond.instanceMethod yX4_init, Cond.code yX4_init cX4_init 1 none, Cond.methodLink RX4 1 objectInit, Cond.classLink RX4 7 RX6, Cond.fieldLink RX4 10 "SelfSteer$Image" "ride" "LSelfSteer$Ride;"]
def wsL_law_r6 : List Cond := [Cond.classLink RX4 16 RX3, Cond.fieldLink RX4 19 "SelfSteer$Image" "habits" "LSelfSteer$Habits;", Cond.fieldLink RX4 23 "SelfSteer$Image" "kept" "Z", Cond.methodLink RL 12 yX9_init, Cond.instanceMethod yX9_init, Cond.code yX9_init cX9_init 3 none, Cond.methodLink RX9 1 objectInit, Cond.fieldLink RX9 7 "SelfSteerModel" "numbers" "[I", Cond.fieldLink RX9 13 "SelfSteerModel" "tried" "[I", Cond.fieldLink RX9 16 "SelfSteerModel" "s" "[I", Cond.fieldLink RX9 19 "SelfSteerModel" "kept" "[I", Cond.fieldLink RX9 22 "SelfSteerModel" "spare" "[I", Cond.fieldLink RX9 25 "SelfSteerModel" "isKept" "[Z", Cond.fieldLink RX9 29 "SelfSteerModel" "law" "[I", Cond.fieldLink RX9 32 "SelfSteerModel" "upBy" "I", Cond.fieldLink RX9 36 "SelfSteerModel" "downBy" "I", Cond.fieldLink RX9 39 "SelfSteerModel" "text" "[I", Cond.fieldLink RX9 42 "SelfSteerModel" "counts" "[I", Cond.fieldLink RX9 45 "SelfSteerModel" "found" "[I", Cond.methodLink RL 13 yX8_number, Cond.instanceMethod yX8_number, Cond.selects RX8 yX8_number yX8_number, Cond.code yX8_number cX8_number 5 (some .int), Cond.fieldLink RX8 100 "SelfSteer" "LOWEST" "[I"]
def wsL_law_r7 : List Cond := [Cond.fieldLink RX8 103 "SelfSteer" "HIGHEST" "[I", Cond.constant RX8 110 (-1000000), Cond.methodLink RX8 93 yX8_isBicycle, Cond.static yX8_isBicycle, Cond.code yX8_isBicycle cX8_isBicycle 1 (some .boolean), Cond.methodLink RX8 106 yX8_within, Cond.static yX8_within, Cond.code yX8_within cX8_within 3 (some .boolean), Cond.methodLink RX8 97 yX8_isNumber, Cond.static yX8_isNumber, Cond.code yX8_isNumber cX8_isNumber 1 (some .boolean), Cond.instanceMethod yX0_valueOf, Cond.selects RX0 yX0_valueOf yX0_valueOf, Cond.code yX0_valueOf cX0_valueOf 2 (some .int), Cond.instanceMethod yX0_put, Cond.selects RX0 yX0_put yX0_put, Cond.code yX0_put cX0_put 3 none, Cond.methodLink RL 17 yX9_number, Cond.instanceMethod yX9_number, Cond.selects RX9 yX9_number yX9_number, Cond.code yX9_number cX9_number 5 (some .int), Cond.fieldLink RX9 48 "SelfSteerModel" "thrown" "I", Cond.constant RX9 70 (-1000000), Cond.methodLink RX9 59 yX9_isBicycle]
def wsL_law_r8 : List Cond := [Cond.static yX9_isBicycle, Cond.code yX9_isBicycle cX9_isBicycle 1 (some .boolean), Cond.methodLink RX9 51 yX9_in, Cond.static yX9_in, Cond.code yX9_in cX9_in 3 (some .boolean), Cond.methodLink RX9 63 yX9_isNumber, Cond.static yX9_isNumber, Cond.code yX9_isNumber cX9_isNumber 1 (some .boolean), Cond.methodLink RX9 66 yX9_mayBe, Cond.static yX9_mayBe, Cond.code yX9_mayBe cX9_mayBe 2 (some .boolean), Cond.methodLink RX9 55 yX9_bottom, Cond.static yX9_bottom, Cond.code yX9_bottom cX9_bottom 1 (some .int), Cond.methodLink RL 18 yX8_has, Cond.instanceMethod yX8_has, Cond.selects RX8 yX8_has yX8_has, Cond.code yX8_has cX8_has 3 (some .int), Cond.methodLink RL 22 yX9_has, Cond.instanceMethod yX9_has, Cond.selects RX9 yX9_has yX9_has, Cond.code yX9_has cX9_has 3 (some .int), Cond.methodLink RL 23 yX8_sign, Cond.instanceMethod yX8_sign]
def wsL_law_r9 : List Cond := [Cond.selects RX8 yX8_sign yX8_sign, Cond.code yX8_sign cX8_sign 7 (some .long), Cond.constantLong RX8 127 (-9223372036854775808), Cond.methodLink RX8 119 yX8_isSpeed, Cond.static yX8_isSpeed, Cond.code yX8_isSpeed cX8_isSpeed 1 (some .boolean), Cond.methodLink RX8 122 yX8_isHand, Cond.static yX8_isHand, Cond.code yX8_isHand cX8_isHand 1 (some .boolean), Cond.instanceMethod yX0_signThree, Cond.selects RX0 yX0_signThree yX0_signThree, Cond.code yX0_signThree cX0_signThree 1 (some .long), Cond.constantLong RX0 28 (100), Cond.instanceMethod yX0_signTwo, Cond.selects RX0 yX0_signTwo yX0_signTwo, Cond.code yX0_signTwo cX0_signTwo 5 (some .long), Cond.constantLong RX0 30 (10), Cond.instanceMethod yX0_signOne, Cond.selects RX0 yX0_signOne yX0_signOne, Cond.code yX0_signOne cX0_signOne 8 (some .long), Cond.instanceMethod yX0_signZero, Cond.selects RX0 yX0_signZero yX0_signZero, Cond.code yX0_signZero cX0_signZero 5 (some .long), Cond.methodLink RL 27 yX9_sign]
def wsL_law_r10 : List Cond := [Cond.instanceMethod yX9_sign, Cond.selects RX9 yX9_sign yX9_sign, Cond.code yX9_sign cX9_sign 6 (some .long), Cond.constantLong RX9 83 (-9223372036854775808), Cond.methodLink RX9 79 yX9_isAsked, Cond.static yX9_isAsked, Cond.code yX9_isAsked cX9_isAsked 4 (some .boolean), Cond.methodLink RX9 85 yX9_takes, Cond.instanceMethod yX9_takes, Cond.selects RX9 yX9_takes yX9_takes, Cond.code yX9_takes cX9_takes 3 none, Cond.methodLink RX9 75 yX9_signOf, Cond.instanceMethod yX9_signOf, Cond.selects RX9 yX9_signOf yX9_signOf, Cond.code yX9_signOf cX9_signOf 12 (some .long), Cond.constantLong RX9 71 (100), Cond.constantLong RX9 73 (10), Cond.methodLink RL 28 yX8_stays, Cond.instanceMethod yX8_stays, Cond.selects RX8 yX8_stays yX8_stays, Cond.code yX8_stays cX8_stays 5 (some .int), Cond.instanceMethod yX0_staysUp, Cond.selects RX0 yX0_staysUp yX0_staysUp, Cond.code yX0_staysUp cX0_staysUp 12 (some .boolean)]
def wsL_law_r11 : List Cond := [Cond.methodLink RX0 32 yX0_signZero, Cond.methodLink RX0 36 yX0_signTwo, Cond.methodLink RX0 39 yX0_signOne, Cond.methodLink RX0 43 yX0_signThree, Cond.methodLink RL 32 yX9_stays, Cond.instanceMethod yX9_stays, Cond.selects RX9 yX9_stays yX9_stays, Cond.code yX9_stays cX9_stays 5 (some .int), Cond.methodLink RX9 89 yX9_isUp, Cond.instanceMethod yX9_isUp, Cond.selects RX9 yX9_isUp yX9_isUp, Cond.code yX9_isUp cX9_isUp 13 (some .boolean), Cond.methodLink RL 33 yX8_range, Cond.instanceMethod yX8_range, Cond.selects RX8 yX8_range yX8_range, Cond.code yX8_range cX8_range 2 (some .long), Cond.constantLong RX8 150 (-1), Cond.instanceMethod yX0_speeds, Cond.selects RX0 yX0_speeds yX0_speeds, Cond.code yX0_speeds cX0_speeds 4 (some .long), Cond.methodLink RX0 47 yX0_staysUp, Cond.methodLink RL 37 yX9_range, Cond.instanceMethod yX9_range, Cond.selects RX9 yX9_range yX9_range]
def wsL_law_r12 : List Cond := [Cond.code yX9_range cX9_range 2 (some .long), Cond.constantLong RX9 92 (-1), Cond.methodLink RX9 94 yX9_speeds, Cond.instanceMethod yX9_speeds, Cond.selects RX9 yX9_speeds yX9_speeds, Cond.code yX9_speeds cX9_speeds 4 (some .long), Cond.methodLink RL 38 yX8_without, Cond.instanceMethod yX8_without, Cond.selects RX8 yX8_without yX8_without, Cond.code yX8_without cX8_without 3 (some .long), Cond.methodLink RX8 152 yX8_isReason, Cond.static yX8_isReason, Cond.code yX8_isReason cX8_isReason 1 (some .boolean), Cond.methodLink RX8 155 yX8_speedsWith, Cond.instanceMethod yX8_speedsWith, Cond.selects RX8 yX8_speedsWith yX8_speedsWith, Cond.code yX8_speedsWith cX8_speedsWith 4 (some .long), Cond.instanceMethod yX0_copyFrom, Cond.selects RX0 yX0_copyFrom yX0_copyFrom, Cond.code yX0_copyFrom cX0_copyFrom 2 none, Cond.methodLink RL 42 yX9_without, Cond.instanceMethod yX9_without, Cond.selects RX9 yX9_without yX9_without, Cond.code yX9_without cX9_without 3 (some .long)]
def wsL_law_r13 : List Cond := [Cond.methodLink RX9 98 yX9_rangeWithout, Cond.instanceMethod yX9_rangeWithout, Cond.selects RX9 yX9_rangeWithout yX9_rangeWithout, Cond.code yX9_rangeWithout cX9_rangeWithout 3 (some .long), Cond.methodLink RL 43 yX8_reason, Cond.instanceMethod yX8_reason, Cond.selects RX8 yX8_reason yX8_reason, Cond.code yX8_reason cX8_reason 5 (some .int), Cond.instanceMethod yX1_leastWithout, Cond.selects RX1 yX1_leastWithout yX1_leastWithout, Cond.code yX1_leastWithout cX1_leastWithout 4 (some .int), Cond.methodLink RX1 18 yX1_findsFrom, Cond.instanceMethod yX1_findsFrom, Cond.selects RX1 yX1_findsFrom yX1_findsFrom, Cond.code yX1_findsFrom cX1_findsFrom 8 (some .boolean), Cond.methodLink RX1 38 Lib.Math.min.name, Cond.static Lib.Math.min.name, Cond.initialized "java/lang/Math", Cond.code Lib.Math.min.name Lib.Math.min.code 2 (some .int), Cond.methodLink RX1 47 Lib.Math.max.name, Cond.static Lib.Math.max.name, Cond.code Lib.Math.max.name Lib.Math.max.code 2 (some .int), Cond.methodLink RX1 50 Lib.Math.abs.name, Cond.static Lib.Math.abs.name]
def wsL_law_r14 : List Cond := [Cond.code Lib.Math.abs.name Lib.Math.abs.code 1 (some .int), Cond.instanceMethod yX1_valueFound, Cond.selects RX1 yX1_valueFound yX1_valueFound, Cond.code yX1_valueFound cX1_valueFound 2 (some .int), Cond.methodLink RL 46 yX9_reason, Cond.instanceMethod yX9_reason, Cond.selects RX9 yX9_reason yX9_reason, Cond.code yX9_reason cX9_reason 5 (some .int), Cond.methodLink RX9 103 yX9_allTheSame, Cond.instanceMethod yX9_allTheSame, Cond.selects RX9 yX9_allTheSame yX9_allTheSame, Cond.code yX9_allTheSame cX9_allTheSame 10 (some .int), Cond.constant RX9 102 (371293), Cond.methodLink RL 47 yX8_moves, Cond.instanceMethod yX8_moves, Cond.selects RX8 yX8_moves yX8_moves, Cond.code yX8_moves cX8_moves 5 (some .int), Cond.methodLink RX8 166 yX8_isFlag, Cond.static yX8_isFlag, Cond.code yX8_isFlag cX8_isFlag 1 (some .boolean), Cond.methodLink RX8 169 yJ13_bitCount_95d88, Cond.static yJ13_bitCount_95d88, Cond.initialized RJ13, Cond.code yJ13_bitCount_95d88 cJ13_bitCount_95d88 2 (some .int)]
def wsL_law_r15 : List Cond := [Cond.constantLong RJ13 314 (6148914691236517205), Cond.constantLong RJ13 316 (3689348814741910323), Cond.constantLong RJ13 318 (1085102592571150095), Cond.instanceMethod yX0_speedCount, Cond.selects RX0 yX0_speedCount yX0_speedCount, Cond.code yX0_speedCount cX0_speedCount 1 (some .int), Cond.methodLink RX0 51 yX0_speeds, Cond.methodLink RX0 54 yJ13_bitCount_95d88, Cond.methodLink RL 50 yX9_moves, Cond.instanceMethod yX9_moves, Cond.selects RX9 yX9_moves yX9_moves, Cond.code yX9_moves cX9_moves 5 (some .int), Cond.methodLink RX9 107 yX9_manySpeeds, Cond.instanceMethod yX9_manySpeeds, Cond.selects RX9 yX9_manySpeeds yX9_manySpeeds, Cond.code yX9_manySpeeds cX9_manySpeeds 3 (some .int), Cond.methodLink RL 51 yX8_grid, Cond.instanceMethod yX8_grid, Cond.selects RX8 yX8_grid yX8_grid, Cond.code yX8_grid cX8_grid 8 (some .int), Cond.methodLink RL 54 yX9_grid, Cond.instanceMethod yX9_grid, Cond.selects RX9 yX9_grid yX9_grid, Cond.code yX9_grid cX9_grid 10 (some .int)]
def wsL_law_r16 : List Cond := [Cond.methodLink RL 55 yX8_least, Cond.instanceMethod yX8_least, Cond.selects RX8 yX8_least yX8_least, Cond.code yX8_least cX8_least 5 (some .int), Cond.methodLink RL 58 yX9_least, Cond.instanceMethod yX9_least, Cond.selects RX9 yX9_least yX9_least, Cond.code yX9_least cX9_least 5 (some .int), Cond.methodLink RL 59 yX8_spread, Cond.instanceMethod yX8_spread, Cond.selects RX8 yX8_spread yX8_spread, Cond.code yX8_spread cX8_spread 3 (some .int), Cond.instanceMethod yX2_weigh, Cond.selects RX2 yX2_weigh yX2_weigh, Cond.code yX2_weigh cX2_weigh 4 none, Cond.methodLink RX2 29 yX2_mayBe, Cond.instanceMethod yX2_mayBe, Cond.selects RX2 yX2_mayBe yX2_mayBe, Cond.code yX2_mayBe cX2_mayBe 7 (some .boolean), Cond.instanceMethod yX2_spreadOf, Cond.selects RX2 yX2_spreadOf yX2_spreadOf, Cond.code yX2_spreadOf cX2_spreadOf 5 (some .int), Cond.methodLink RX2 54 Lib.Math.min.name, Cond.methodLink RX2 60 Lib.Math.max.name]
def wsL_law_r17 : List Cond := [Cond.methodLink RL 62 yX9_spread, Cond.instanceMethod yX9_spread, Cond.selects RX9 yX9_spread yX9_spread, Cond.code yX9_spread cX9_spread 3 (some .int), Cond.methodLink RX9 111 yX9_tries, Cond.instanceMethod yX9_tries, Cond.selects RX9 yX9_tries yX9_tries, Cond.code yX9_tries cX9_tries 6 none, Cond.methodLink RX9 114 yX9_spreadOf, Cond.instanceMethod yX9_spreadOf, Cond.selects RX9 yX9_spreadOf yX9_spreadOf, Cond.code yX9_spreadOf cX9_spreadOf 8 (some .int), Cond.methodLink RL 63 yX8_fewest, Cond.instanceMethod yX8_fewest, Cond.selects RX8 yX8_fewest yX8_fewest, Cond.code yX8_fewest cX8_fewest 5 (some .int), Cond.instanceMethod yX2_fewestFor, Cond.selects RX2 yX2_fewestFor yX2_fewestFor, Cond.code yX2_fewestFor cX2_fewestFor 4 (some .int), Cond.methodLink RX2 63 yJ6_bitCount_0f7a4, Cond.static yJ6_bitCount_0f7a4, Cond.initialized RJ6, Cond.code yJ6_bitCount_0f7a4 cJ6_bitCount_0f7a4 1 (some .int), Cond.constant RJ6 265 (1431655765)]
def wsL_law_r18 : List Cond := [Cond.constant RJ6 266 (858993459), Cond.constant RJ6 267 (252645135), Cond.methodLink RX2 68 yX2_spreadOf, Cond.methodLink RX8 191 yJ6_bitCount_0f7a4, Cond.methodLink RL 66 yX9_fewest, Cond.instanceMethod yX9_fewest, Cond.selects RX9 yX9_fewest yX9_fewest, Cond.code yX9_fewest cX9_fewest 6 (some .int), Cond.methodLink RX9 117 yX9_ones, Cond.static yX9_ones, Cond.code yX9_ones cX9_ones 3 (some .int), Cond.methodLink RL 69 yX8_type, Cond.instanceMethod yX8_type, Cond.selects RX8 yX8_type yX8_type, Cond.code yX8_type cX8_type 5 (some .int), Cond.methodLink RL 73 yX9_type, Cond.instanceMethod yX9_type, Cond.selects RX9 yX9_type yX9_type, Cond.code yX9_type cX9_type 5 (some .int), Cond.fieldLink RX9 120 "SelfSteerModel" "typed" "I", Cond.constantLong RX9 123 (255), Cond.methodLink RL 74 yX8_clear, Cond.instanceMethod yX8_clear, Cond.selects RX8 yX8_clear yX8_clear]
def wsL_law_r19 : List Cond := [Cond.code yX8_clear cX8_clear 2 (some .int), Cond.methodLink RL 78 yX9_clear, Cond.instanceMethod yX9_clear, Cond.selects RX9 yX9_clear yX9_clear, Cond.code yX9_clear cX9_clear 2 (some .int), Cond.methodLink RL 79 yX8_rider, Cond.instanceMethod yX8_rider, Cond.selects RX8 yX8_rider yX8_rider, Cond.code yX8_rider cX8_rider 2 (some .int), Cond.instanceMethod yX5_faultOf, Cond.selects RX5 yX5_faultOf yX5_faultOf, Cond.code yX5_faultOf cX5_faultOf 5 (some .int), Cond.methodLink RX5 29 Lib.Math.min.name, Cond.instanceMethod yX7_forget, Cond.selects RX7 yX7_forget yX7_forget, Cond.code yX7_forget cX7_forget 1 none, Cond.methodLink RX5 40 yX5_next, Cond.instanceMethod yX5_next, Cond.selects RX5 yX5_next yX5_next, Cond.code yX5_next cX5_next 2 none, Cond.methodLink RX5 61 yX5_isLetter, Cond.static yX5_isLetter, Cond.code yX5_isLetter cX5_isLetter 1 (some .boolean), Cond.methodLink RX5 64 yX5_readWord]
def wsL_law_r20 : List Cond := [Cond.instanceMethod yX5_readWord, Cond.selects RX5 yX5_readWord yX5_readWord, Cond.code yX5_readWord cX5_readWord 2 none, Cond.methodLink RX5 73 yX5_isWord, Cond.instanceMethod yX5_isWord, Cond.selects RX5 yX5_isWord yX5_isWord, Cond.code yX5_isWord cX5_isWord 4 (some .boolean), Cond.methodLink RX5 78 yJ0_charAt_5068e, Cond.instanceMethod yJ0_charAt_5068e, Cond.selects RJ0 yJ0_charAt_5068e yJ0_charAt_5068e, Cond.initialized RJ0, Cond.code yJ0_charAt_5068e cJ0_charAt_5068e 2 (some .char), Cond.fieldLink RJ0 9 "java/lang/String" "value" "[B", Cond.methodLink RJ0 492 yJ0_isLatin1_aae02, Cond.instanceMethod yJ0_isLatin1_aae02, Cond.selects RJ0 yJ0_isLatin1_aae02 yJ0_isLatin1_aae02, Cond.code yJ0_isLatin1_aae02 cJ0_isLatin1_aae02 1 (some .boolean), Cond.fieldLink RJ0 38 "java/lang/String" "COMPACT_STRINGS" "Z", Cond.fieldLink RJ0 15 "java/lang/String" "coder" "B", Cond.methodLink RJ0 495 yJ1_charAt_3b067, Cond.static yJ1_charAt_3b067, Cond.initialized RJ1, Cond.code yJ1_charAt_3b067 cJ1_charAt_3b067 2 (some .char), Cond.methodLink RJ1 9 yJ0_checkIndex_df160]
def wsL_law_r21 : List Cond := [Cond.static yJ0_checkIndex_df160, Cond.code yJ0_checkIndex_df160 cJ0_checkIndex_df160 2 none, Cond.fieldLink RJ0 1053 "jdk/internal/util/Preconditions" "SIOOBE_FORMATTER" "Ljava/util/function/BiFunction;", Cond.methodLink RJ0 1059 yJ3_checkIndex_8e157, Cond.static yJ3_checkIndex_8e157, Cond.initialized RJ3, Cond.code yJ3_checkIndex_8e157 cJ3_checkIndex_8e157 3 (some .int), Cond.methodLink RJ0 498 yJ2_charAt_3b067, Cond.static yJ2_charAt_3b067, Cond.initialized RJ2, Cond.code yJ2_charAt_3b067 cJ2_charAt_3b067 2 (some .char), Cond.methodLink RJ2 67 yJ2_checkIndex_2214a, Cond.static yJ2_checkIndex_2214a, Cond.code yJ2_checkIndex_2214a cJ2_checkIndex_2214a 2 none, Cond.methodLink RJ2 48 yJ2_length_9d52b, Cond.static yJ2_length_9d52b, Cond.code yJ2_length_9d52b cJ2_length_9d52b 1 (some .int), Cond.methodLink RJ2 414 yJ0_checkIndex_df160, Cond.methodLink RJ2 71 yJ2_getChar_3b067, Cond.static yJ2_getChar_3b067, Cond.code yJ2_getChar_3b067 cJ2_getChar_3b067 2 (some .char), Cond.fieldLink RJ2 44 "java/lang/StringUTF16" "$assertionsDisabled" "Z", Cond.fieldLink RJ2 59 "java/lang/StringUTF16" "HI_BYTE_SHIFT" "I", Cond.fieldLink RJ2 63 "java/lang/StringUTF16" "LO_BYTE_SHIFT" "I"]
def wsL_law_r22 : List Cond := [Cond.methodLink RX5 67 yX5_isDigit, Cond.static yX5_isDigit, Cond.code yX5_isDigit cX5_isDigit 1 (some .boolean), Cond.methodLink RX5 70 yX5_readAmount, Cond.instanceMethod yX5_readAmount, Cond.selects RX5 yX5_readAmount yX5_readAmount, Cond.code yX5_readAmount cX5_readAmount 2 none, Cond.methodLink RX5 43 yX5_readsItem, Cond.instanceMethod yX5_readsItem, Cond.selects RX5 yX5_readsItem yX5_readsItem, Cond.code yX5_readsItem cX5_readsItem 5 (some .boolean), Cond.instanceMethod yX7_wasTold, Cond.selects RX7 yX7_wasTold yX7_wasTold, Cond.code yX7_wasTold cX7_wasTold 2 (some .boolean), Cond.instanceMethod yX7_tell, Cond.selects RX7 yX7_tell yX7_tell, Cond.code yX7_tell cX7_tell 3 none, Cond.instanceMethod yX7_copyFrom, Cond.selects RX7 yX7_copyFrom yX7_copyFrom, Cond.code yX7_copyFrom cX7_copyFrom 2 none, Cond.instanceMethod yX7_itemCount, Cond.selects RX7 yX7_itemCount yX7_itemCount, Cond.code yX7_itemCount cX7_itemCount 1 (some .int), Cond.methodLink RX7 32 yJ6_bitCount_0f7a4]
def wsL_law_r23 : List Cond := [Cond.methodLink RL 82 yX9_rider, Cond.instanceMethod yX9_rider, Cond.selects RX9 yX9_rider yX9_rider, Cond.code yX9_rider cX9_rider 6 (some .int), Cond.fieldLink RX9 152 "SelfSteerModel" "fault" "I", Cond.fieldLink RX9 133 "SelfSteerModel" "next" "I", Cond.fieldLink RX9 142 "SelfSteerModel" "token" "I", Cond.fieldLink RX9 149 "SelfSteerModel" "value" "I", Cond.fieldLink RX9 166 "SelfSteerModel" "items" "I", Cond.methodLink RX9 159 yX9_advances, Cond.instanceMethod yX9_advances, Cond.selects RX9 yX9_advances yX9_advances, Cond.code yX9_advances cX9_advances 4 none, Cond.fieldLink RX9 139 "SelfSteerModel" "place" "I", Cond.constantLong RX9 127 (256), Cond.methodLink RX9 136 yX9_byteAt, Cond.instanceMethod yX9_byteAt, Cond.selects RX9 yX9_byteAt yX9_byteAt, Cond.code yX9_byteAt cX9_byteAt 2 (some .int), Cond.methodLink RX9 145 yX9_wordOf, Cond.static yX9_wordOf, Cond.code yX9_wordOf cX9_wordOf 2 (some .int), Cond.methodLink RX9 129 yX9_word, Cond.static yX9_word]
def wsL_law_r24 : List Cond := [Cond.code yX9_word cX9_word 6 (some .long), Cond.constantLong RX9 125 (65536), Cond.methodLink RX9 155 yX9_isWell, Cond.instanceMethod yX9_isWell, Cond.selects RX9 yX9_isWell yX9_isWell, Cond.code yX9_isWell cX9_isWell 1 (some .boolean), Cond.methodLink RX9 162 yX9_reads, Cond.instanceMethod yX9_reads, Cond.selects RX9 yX9_reads yX9_reads, Cond.code yX9_reads cX9_reads 3 (some .int), Cond.methodLink RL 83 yX8_ride, Cond.instanceMethod yX8_ride, Cond.selects RX8 yX8_ride yX8_ride, Cond.code yX8_ride cX8_ride 5 (some .int), Cond.instanceMethod yX6_begin, Cond.selects RX6 yX6_begin yX6_begin, Cond.code yX6_begin cX6_begin 4 none, Cond.methodLink RL 86 yX9_ride, Cond.instanceMethod yX9_ride, Cond.selects RX9 yX9_ride yX9_ride, Cond.code yX9_ride cX9_ride 5 (some .int), Cond.methodLink RX9 169 yX9_sets, Cond.instanceMethod yX9_sets, Cond.selects RX9 yX9_sets yX9_sets]
def wsL_law_r25 : List Cond := [Cond.code yX9_sets cX9_sets 5 none, Cond.methodLink RL 87 yX8_push, Cond.instanceMethod yX8_push, Cond.selects RX8 yX8_push yX8_push, Cond.code yX8_push cX8_push 2 (some .int), Cond.instanceMethod yX6_takePush, Cond.selects RX6 yX6_takePush yX6_takePush, Cond.code yX6_takePush cX6_takePush 2 none, Cond.methodLink RX6 59 yX6_lookWhetherItFalls, Cond.instanceMethod yX6_lookWhetherItFalls, Cond.selects RX6 yX6_lookWhetherItFalls yX6_lookWhetherItFalls, Cond.code yX6_lookWhetherItFalls cX6_lookWhetherItFalls 1 none, Cond.methodLink RL 91 yX9_push, Cond.instanceMethod yX9_push, Cond.selects RX9 yX9_push yX9_push, Cond.code yX9_push cX9_push 2 (some .int), Cond.methodLink RL 92 yX8_ticks, Cond.instanceMethod yX8_ticks, Cond.selects RX8 yX8_ticks yX8_ticks, Cond.code yX8_ticks cX8_ticks 2 (some .int), Cond.instanceMethod yX6_goOn, Cond.selects RX6 yX6_goOn yX6_goOn, Cond.code yX6_goOn cX6_goOn 5 (some .int), Cond.methodLink RX6 62 yX6_doTick]
def wsL_law_r26 : List Cond := [Cond.instanceMethod yX6_doTick, Cond.selects RX6 yX6_doTick yX6_doTick, Cond.code yX6_doTick cX6_doTick 10 none, Cond.methodLink RX6 78 Lib.Math.max.name, Cond.constant RX6 84 (100000), Cond.methodLink RX6 66 yX6_remember, Cond.instanceMethod yX6_remember, Cond.selects RX6 yX6_remember yX6_remember, Cond.code yX6_remember cX6_remember 2 none, Cond.methodLink RX6 88 yJ9_floorMod_7cf53, Cond.static yJ9_floorMod_7cf53, Cond.initialized RJ9, Cond.code yJ9_floorMod_7cf53 cJ9_floorMod_7cf53 3 (some .int), Cond.methodLink RX6 69 yX6_handOf, Cond.instanceMethod yX6_handOf, Cond.selects RX6 yX6_handOf yX6_handOf, Cond.code yX6_handOf cX6_handOf 6 (some .int), Cond.static yX8_clamp, Cond.code yX8_clamp cX8_clamp 2 (some .int), Cond.methodLink RX8 286 Lib.Math.min.name, Cond.methodLink RX8 291 Lib.Math.max.name, Cond.methodLink RL 95 yX9_ticks, Cond.instanceMethod yX9_ticks, Cond.selects RX9 yX9_ticks yX9_ticks]
def wsL_law_r27 : List Cond := [Cond.code yX9_ticks cX9_ticks 3 (some .int), Cond.methodLink RX9 177 yX9_tick, Cond.instanceMethod yX9_tick, Cond.selects RX9 yX9_tick yX9_tick, Cond.code yX9_tick cX9_tick 10 none, Cond.constant RX9 173 (100000), Cond.methodLink RX9 174 yX9_within, Cond.static yX9_within, Cond.code yX9_within cX9_within 2 (some .int), Cond.methodLink RL 96 yX8_at, Cond.instanceMethod yX8_at, Cond.selects RX8 yX8_at yX8_at, Cond.code yX8_at cX8_at 2 (some .int), Cond.methodLink RL 99 yX9_at, Cond.instanceMethod yX9_at, Cond.selects RX9 yX9_at yX9_at, Cond.code yX9_at cX9_at 2 (some .int), Cond.methodLink RL 100 yX8_bears, Cond.instanceMethod yX8_bears, Cond.selects RX8 yX8_bears yX8_bears, Cond.code yX8_bears cX8_bears 3 (some .int), Cond.methodLink RL 103 yX9_bears, Cond.instanceMethod yX9_bears, Cond.selects RX9 yX9_bears yX9_bears]
def wsL_law_r28 : List Cond := [Cond.code yX9_bears cX9_bears 5 (some .int), Cond.methodLink RL 104 yX8_weeks, Cond.instanceMethod yX8_weeks, Cond.selects RX8 yX8_weeks yX8_weeks, Cond.code yX8_weeks cX8_weeks 4 (some .int), Cond.methodLink RX8 248 yX8_isBar, Cond.static yX8_isBar, Cond.code yX8_isBar cX8_isBar 1 (some .boolean), Cond.instanceMethod yX3_practise, Cond.selects RX3 yX3_practise yX3_practise, Cond.code yX3_practise cX3_practise 5 none, Cond.methodLink RX3 23 Lib.Math.min.name, Cond.methodLink RX3 29 Lib.Math.max.name, Cond.instanceMethod yX3_valueOf, Cond.selects RX3 yX3_valueOf yX3_valueOf, Cond.code yX3_valueOf cX3_valueOf 2 (some .int), Cond.methodLink RL 107 yX9_weeks, Cond.instanceMethod yX9_weeks, Cond.selects RX9 yX9_weeks yX9_weeks, Cond.code yX9_weeks cX9_weeks 7 (some .int), Cond.methodLink RL 108 yX8_tune, Cond.instanceMethod yX8_tune, Cond.selects RX8 yX8_tune yX8_tune, Cond.code yX8_tune cX8_tune 4 (some .int)]
def wsL_law_r29 : List Cond := [Cond.methodLink RL 111 yX9_tune, Cond.instanceMethod yX9_tune, Cond.selects RX9 yX9_tune yX9_tune, Cond.code yX9_tune cX9_tune 4 (some .int), Cond.methodLink RL 112 yX8_habit, Cond.instanceMethod yX8_habit, Cond.selects RX8 yX8_habit yX8_habit, Cond.code yX8_habit cX8_habit 3 (some .int), Cond.instanceMethod yX3_weeksTillWhole, Cond.selects RX3 yX3_weeksTillWhole yX3_weeksTillWhole, Cond.code yX3_weeksTillWhole cX3_weeksTillWhole 5 (some .int), Cond.methodLink RL 115 yX9_habit, Cond.instanceMethod yX9_habit, Cond.selects RX9 yX9_habit yX9_habit, Cond.code yX9_habit cX9_habit 4 (some .int), Cond.methodLink RL 116 yX8_score, Cond.instanceMethod yX8_score, Cond.selects RX8 yX8_score yX8_score, Cond.code yX8_score cX8_score 3 (some .int), Cond.methodLink RX8 260 yX8_askKind, Cond.instanceMethod yX8_askKind, Cond.selects RX8 yX8_askKind yX8_askKind, Cond.code yX8_askKind cX8_askKind 5 (some .int), Cond.fieldLink RX8 280 "SelfSteer" "TRACE_OF_KIND" "[I"]
def wsL_law_r30 : List Cond := [Cond.fieldLink RX8 283 "SelfSteer" "KIND_ABOVE" "[I", Cond.methodLink RL 119 yX9_score, Cond.instanceMethod yX9_score, Cond.selects RX9 yX9_score yX9_score, Cond.code yX9_score cX9_score 6 (some .int), Cond.fieldLink RX9 183 "SelfSteerModel" "trace" "J", Cond.constantLong RX9 187 (11), Cond.constantLong RX9 189 (101), Cond.constantLong RX9 191 (1001), Cond.constantLong RX9 193 (11001), Cond.constantLong RX9 195 (100001), Cond.constantLong RX9 197 (1000001), Cond.methodLink RX9 180 yX9_many, Cond.static yX9_many, Cond.code yX9_many cX9_many 4 (some .int), Cond.methodLink RL 120 yX8_keep, Cond.instanceMethod yX8_keep, Cond.selects RX8 yX8_keep yX8_keep, Cond.code yX8_keep cX8_keep 2 (some .int), Cond.methodLink RX8 264 yX8_isImage, Cond.static yX8_isImage, Cond.code yX8_isImage cX8_isImage 1 (some .boolean), Cond.instanceMethod yX4_take, Cond.selects RX4 yX4_take yX4_take]
def wsL_law_r31 : List Cond := [Cond.code yX4_take cX4_take 3 none, Cond.instanceMethod yX6_copyFrom, Cond.selects RX6 yX6_copyFrom yX6_copyFrom, Cond.code yX6_copyFrom cX6_copyFrom 2 none, Cond.methodLink RX6 53 arraycopyName, Cond.instanceMethod yX3_copyFrom, Cond.selects RX3 yX3_copyFrom yX3_copyFrom, Cond.code yX3_copyFrom cX3_copyFrom 3 none, Cond.methodLink RL 123 yX9_keep, Cond.instanceMethod yX9_keep, Cond.selects RX9 yX9_keep yX9_keep, Cond.code yX9_keep cX9_keep 3 (some .int), Cond.methodLink RL 124 yX8_back, Cond.instanceMethod yX8_back, Cond.selects RX8 yX8_back yX8_back, Cond.code yX8_back cX8_back 2 (some .int), Cond.instanceMethod yX4_giveBack, Cond.selects RX4 yX4_giveBack yX4_giveBack, Cond.code yX4_giveBack cX4_giveBack 3 none, Cond.methodLink RL 127 yX9_back, Cond.instanceMethod yX9_back, Cond.selects RX9 yX9_back yX9_back, Cond.code yX9_back cX9_back 3 (some .int), Cond.methodLink RL 128 yX8_count]
def wsL_law_r32 : List Cond := [Cond.instanceMethod yX8_count, Cond.selects RX8 yX8_count yX8_count, Cond.code yX8_count cX8_count 2 (some .int), Cond.methodLink RX8 277 yX8_speedsOfAll, Cond.instanceMethod yX8_speedsOfAll, Cond.selects RX8 yX8_speedsOfAll yX8_speedsOfAll, Cond.code yX8_speedsOfAll cX8_speedsOfAll 3 (some .int), Cond.methodLink RL 131 yX9_count, Cond.instanceMethod yX9_count, Cond.selects RX9 yX9_count yX9_count, Cond.code yX9_count cX9_count 4 (some .int), Cond.methodLink RL 132 yX8_trace, Cond.instanceMethod yX8_trace, Cond.selects RX8 yX8_trace yX8_trace, Cond.code yX8_trace cX8_trace 1 (some .long), Cond.methodLink RL 136 yX9_trace, Cond.instanceMethod yX9_trace, Cond.selects RX9 yX9_trace yX9_trace, Cond.code yX9_trace cX9_trace 1 (some .long)]
def wsL_law : List Cond := (wsL_law_r1 ++ (wsL_law_r2 ++ (wsL_law_r3 ++ (wsL_law_r4 ++ (wsL_law_r5 ++ (wsL_law_r6 ++ (wsL_law_r7 ++ (wsL_law_r8 ++ (wsL_law_r9 ++ (wsL_law_r10 ++ (wsL_law_r11 ++ (wsL_law_r12 ++ (wsL_law_r13 ++ (wsL_law_r14 ++ (wsL_law_r15 ++ (wsL_law_r16 ++ (wsL_law_r17 ++ (wsL_law_r18 ++ (wsL_law_r19 ++ (wsL_law_r20 ++ (wsL_law_r21 ++ (wsL_law_r22 ++ (wsL_law_r23 ++ (wsL_law_r24 ++ (wsL_law_r25 ++ (wsL_law_r26 ++ (wsL_law_r27 ++ (wsL_law_r28 ++ (wsL_law_r29 ++ (wsL_law_r30 ++ (wsL_law_r31 ++ wsL_law_r32))))))))))))))))))))))))))))))) ++ wsX80 ++ wsX90 ++ wsX00 ++ wsX10 ++ wsX20 ++ wsX50 ++ wsX70 ++ wsX60 ++ wsX30 ++ wsX40 ++ ([] : List Cond)
set_option maxRecDepth 20000 in
theorem wsL_law_in : ∀ w ∈ wsL_law, w ∈ lw_tbl := fun w h => (goodIn_p wsL_law [83, 86, 92, 109, 121, 127, 142, 167, 184, 240, 255, 771, 324, 327, 330, 333, 342, 347, 840, 843, 846, 849, 852, 855, 351, 860, 355, 358, 361, 366, 371, 376, 380, 864, 867, 872, 876, 384, 388, 882, 886, 396, 400, 890, 895, 406, 409, 413, 417, 899, 903, 421, 425, 429, 436, 440, 443, 447, 907, 911, 451, 454, 457, 464, 916, 920, 470, 924, 474, 928, 478, 482, 486, 496, 932, 936, 940, 502, 506, 509, 944, 947, 518, 951, 522, 956, 526, 530, 535, 539, 542, 547, 551, 556, 560, 565, 568, 573, 576, 579, 582, 586, 595, 599, 603, 607, 615, 620, 624, 960, 964, 968, 972, 975, 980, 984, 630, 634, 988, 992, 638, 642, 646, 996, 650, 654, 658, 662, 665, 669, 672, 1000, 1004, 1008, 680, 1012, 684, 1016, 688, 691, 695, 702, 1020, 706, 1024, 710, 714, 1028, 718, 722, 1032, 1035, 730, 733, 737, 741, 746, 1045, 750, 754, 1049, 758, 762, 1053, 766, 1057] (by decide +kernel) (by decide +kernel) w h).1
theorem inlX0 : ∀ w ∈ wsX00, w ∈ wsL_law := fun _ h => List.mem_append_left _ (List.mem_append_left _ (List.mem_append_left _ (List.mem_append_left _ (List.mem_append_left _ (List.mem_append_left _ (List.mem_append_left _ (List.mem_append_left _ (List.mem_append_right _ h))))))))
theorem inX0 : ∀ w ∈ wsX00, w ∈ lw_tbl := fun w h => wsL_law_in w (inlX0 w h)
theorem inlX1 : ∀ w ∈ wsX10, w ∈ wsL_law := fun _ h => List.mem_append_left _ (List.mem_append_left _ (List.mem_append_left _ (List.mem_append_left _ (List.mem_append_left _ (List.mem_append_left _ (List.mem_append_left _ (List.mem_append_right _ h)))))))
theorem inX1 : ∀ w ∈ wsX10, w ∈ lw_tbl := fun w h => wsL_law_in w (inlX1 w h)
theorem inlX2 : ∀ w ∈ wsX20, w ∈ wsL_law := fun _ h => List.mem_append_left _ (List.mem_append_left _ (List.mem_append_left _ (List.mem_append_left _ (List.mem_append_left _ (List.mem_append_left _ (List.mem_append_right _ h))))))
theorem inX2 : ∀ w ∈ wsX20, w ∈ lw_tbl := fun w h => wsL_law_in w (inlX2 w h)
theorem inlX3 : ∀ w ∈ wsX30, w ∈ wsL_law := fun _ h => List.mem_append_left _ (List.mem_append_left _ (List.mem_append_right _ h))
theorem inX3 : ∀ w ∈ wsX30, w ∈ lw_tbl := fun w h => wsL_law_in w (inlX3 w h)
theorem inlX4 : ∀ w ∈ wsX40, w ∈ wsL_law := fun _ h => List.mem_append_left _ (List.mem_append_right _ h)
theorem inX4 : ∀ w ∈ wsX40, w ∈ lw_tbl := fun w h => wsL_law_in w (inlX4 w h)
theorem inlX5 : ∀ w ∈ wsX50, w ∈ wsL_law := fun _ h => List.mem_append_left _ (List.mem_append_left _ (List.mem_append_left _ (List.mem_append_left _ (List.mem_append_left _ (List.mem_append_right _ h)))))
theorem inX5 : ∀ w ∈ wsX50, w ∈ lw_tbl := fun w h => wsL_law_in w (inlX5 w h)
theorem inlX6 : ∀ w ∈ wsX60, w ∈ wsL_law := fun _ h => List.mem_append_left _ (List.mem_append_left _ (List.mem_append_left _ (List.mem_append_right _ h)))
theorem inX6 : ∀ w ∈ wsX60, w ∈ lw_tbl := fun w h => wsL_law_in w (inlX6 w h)
theorem inlX7 : ∀ w ∈ wsX70, w ∈ wsL_law := fun _ h => List.mem_append_left _ (List.mem_append_left _ (List.mem_append_left _ (List.mem_append_left _ (List.mem_append_right _ h))))
theorem inX7 : ∀ w ∈ wsX70, w ∈ lw_tbl := fun w h => wsL_law_in w (inlX7 w h)
theorem inlX8 : ∀ w ∈ wsX80, w ∈ wsL_law := fun _ h => List.mem_append_left _ (List.mem_append_left _ (List.mem_append_left _ (List.mem_append_left _ (List.mem_append_left _ (List.mem_append_left _ (List.mem_append_left _ (List.mem_append_left _ (List.mem_append_left _ (List.mem_append_left _ (List.mem_append_right _ h))))))))))
theorem inX8 : ∀ w ∈ wsX80, w ∈ lw_tbl := fun w h => wsL_law_in w (inlX8 w h)
theorem inlX9 : ∀ w ∈ wsX90, w ∈ wsL_law := fun _ h => List.mem_append_left _ (List.mem_append_left _ (List.mem_append_left _ (List.mem_append_left _ (List.mem_append_left _ (List.mem_append_left _ (List.mem_append_left _ (List.mem_append_left _ (List.mem_append_left _ (List.mem_append_right _ h)))))))))
theorem inX9 : ∀ w ∈ wsX90, w ∈ lw_tbl := fun w h => wsL_law_in w (inlX9 w h)
theorem inJ6 : ∀ w ∈ wsJ60, w ∈ lw_tbl := by decide +kernel
theorem inJ13 : ∀ w ∈ wsJ130, w ∈ lw_tbl := by decide +kernel
theorem inJ9 : ∀ w ∈ wsJ90, w ∈ lw_tbl := by decide +kernel
theorem inJ0 : ∀ w ∈ wsJ00, w ∈ lw_tbl := by decide +kernel
theorem inJ1 : ∀ w ∈ wsJ10, w ∈ lw_tbl := by decide +kernel
theorem inJ2 : ∀ w ∈ wsJ20, w ∈ lw_tbl := by decide +kernel
theorem inJ10 : ∀ w ∈ wsJ100, w ∈ lw_tbl := by decide +kernel
theorem inJ3 : ∀ w ∈ wsJ30, w ∈ lw_tbl := by decide +kernel
theorem dX0_init_0 : decode cX0_init 0 = .ok (.aload_n 0, 1) := by decide +kernel
theorem dX0_init_1 : decode cX0_init 1 = .ok (.invokespecial 3, 3) := by decide +kernel
theorem dX0_init_4 : decode cX0_init 4 = .ok (.aload_n 0, 1) := by decide +kernel
theorem dX0_init_5 : decode cX0_init 5 = .ok (.bipush 6, 2) := by decide +kernel
theorem dX0_init_7 : decode cX0_init 7 = .ok (.newarray .int, 2) := by decide +kernel
theorem dX0_init_9 : decode cX0_init 9 = .ok (.putfield 9, 3) := by decide +kernel
theorem dX0_init_12 : decode cX0_init 12 = .ok (.getstatic 15, 3) := by decide +kernel
theorem dX0_init_15 : decode cX0_init 15 = .ok (.iconst 0, 1) := by decide +kernel
theorem dX0_init_16 : decode cX0_init 16 = .ok (.aload_n 0, 1) := by decide +kernel
theorem dX0_init_17 : decode cX0_init 17 = .ok (.getfield 9, 3) := by decide +kernel
theorem dX0_init_20 : decode cX0_init 20 = .ok (.iconst 0, 1) := by decide +kernel
theorem dX0_init_21 : decode cX0_init 21 = .ok (.bipush 6, 2) := by decide +kernel
theorem dX0_init_23 : decode cX0_init 23 = .ok (.invokestatic 18, 3) := by decide +kernel
theorem dX0_init_26 : decode cX0_init 26 = .ok (.return_, 1) := by decide +kernel
set_option maxRecDepth 20000 in
theorem ggX0_valueOf_X8_isNumber : GoodIn wsX0_valueOf wsX8_isNumber := goodIn_r _ [4, 5, 6, 3, 7] (by decide +kernel) (by decide +kernel)
set_option maxRecDepth 20000 in
theorem gX0_valueOf_X8_isNumber_n24 : GoodIn wsX0_valueOf (wsX8_isNumber) := ggX0_valueOf_X8_isNumber
theorem dX0_valueOf_0 : decode cX0_valueOf 0 = .ok (.iload_n 1, 1) := by decide +kernel
theorem dX0_valueOf_1 : decode cX0_valueOf 1 = .ok (.invokestatic 24, 3) := by decide +kernel
theorem dX0_valueOf_4 : decode cX0_valueOf 4 = .ok (.ifCond .eq 12, 3) := by decide +kernel
theorem dX0_valueOf_7 : decode cX0_valueOf 7 = .ok (.aload_n 0, 1) := by decide +kernel
theorem dX0_valueOf_8 : decode cX0_valueOf 8 = .ok (.getfield 9, 3) := by decide +kernel
theorem dX0_valueOf_11 : decode cX0_valueOf 11 = .ok (.iload_n 1, 1) := by decide +kernel
theorem dX0_valueOf_12 : decode cX0_valueOf 12 = .ok (.iaload, 1) := by decide +kernel
theorem dX0_valueOf_13 : decode cX0_valueOf 13 = .ok (.goto 4, 3) := by decide +kernel
theorem dX0_valueOf_16 : decode cX0_valueOf 16 = .ok (.iconst 0, 1) := by decide +kernel
theorem dX0_valueOf_17 : decode cX0_valueOf 17 = .ok (.ireturn, 1) := by decide +kernel
set_option maxRecDepth 20000 in
theorem ggX0_put_X8_isNumber : GoodIn wsX0_put wsX8_isNumber := goodIn_r _ [4, 5, 6, 3, 7] (by decide +kernel) (by decide +kernel)
set_option maxRecDepth 20000 in
theorem gX0_put_X8_isNumber_n24 : GoodIn wsX0_put (wsX8_isNumber) := ggX0_put_X8_isNumber
theorem dX0_put_0 : decode cX0_put 0 = .ok (.iload_n 1, 1) := by decide +kernel
theorem dX0_put_1 : decode cX0_put 1 = .ok (.invokestatic 24, 3) := by decide +kernel
theorem dX0_put_4 : decode cX0_put 4 = .ok (.ifCond .eq 10, 3) := by decide +kernel
theorem dX0_put_7 : decode cX0_put 7 = .ok (.aload_n 0, 1) := by decide +kernel
theorem dX0_put_8 : decode cX0_put 8 = .ok (.getfield 9, 3) := by decide +kernel
theorem dX0_put_11 : decode cX0_put 11 = .ok (.iload_n 1, 1) := by decide +kernel
theorem dX0_put_12 : decode cX0_put 12 = .ok (.iload_n 2, 1) := by decide +kernel
theorem dX0_put_13 : decode cX0_put 13 = .ok (.iastore, 1) := by decide +kernel
theorem dX0_put_14 : decode cX0_put 14 = .ok (.return_, 1) := by decide +kernel
theorem dX0_copyFrom_0 : decode cX0_copyFrom 0 = .ok (.aload_n 1, 1) := by decide +kernel
theorem dX0_copyFrom_1 : decode cX0_copyFrom 1 = .ok (.getfield 9, 3) := by decide +kernel
theorem dX0_copyFrom_4 : decode cX0_copyFrom 4 = .ok (.iconst 0, 1) := by decide +kernel
theorem dX0_copyFrom_5 : decode cX0_copyFrom 5 = .ok (.aload_n 0, 1) := by decide +kernel
theorem dX0_copyFrom_6 : decode cX0_copyFrom 6 = .ok (.getfield 9, 3) := by decide +kernel
theorem dX0_copyFrom_9 : decode cX0_copyFrom 9 = .ok (.iconst 0, 1) := by decide +kernel
theorem dX0_copyFrom_10 : decode cX0_copyFrom 10 = .ok (.bipush 6, 2) := by decide +kernel
theorem dX0_copyFrom_12 : decode cX0_copyFrom 12 = .ok (.invokestatic 18, 3) := by decide +kernel
theorem dX0_copyFrom_15 : decode cX0_copyFrom 15 = .ok (.return_, 1) := by decide +kernel
theorem dX0_signThree_0 : decode cX0_signThree 0 = .ok (.ldc2_w 28, 3) := by decide +kernel
theorem dX0_signThree_3 : decode cX0_signThree 3 = .ok (.aload_n 0, 1) := by decide +kernel
theorem dX0_signThree_4 : decode cX0_signThree 4 = .ok (.getfield 9, 3) := by decide +kernel
theorem dX0_signThree_7 : decode cX0_signThree 7 = .ok (.iconst 4, 1) := by decide +kernel
theorem dX0_signThree_8 : decode cX0_signThree 8 = .ok (.iaload, 1) := by decide +kernel
theorem dX0_signThree_9 : decode cX0_signThree 9 = .ok (.i2l, 1) := by decide +kernel
theorem dX0_signThree_10 : decode cX0_signThree 10 = .ok (.lmul, 1) := by decide +kernel
theorem dX0_signThree_11 : decode cX0_signThree 11 = .ok (.aload_n 0, 1) := by decide +kernel
theorem dX0_signThree_12 : decode cX0_signThree 12 = .ok (.getfield 9, 3) := by decide +kernel
theorem dX0_signThree_15 : decode cX0_signThree 15 = .ok (.iconst 5, 1) := by decide +kernel
theorem dX0_signThree_16 : decode cX0_signThree 16 = .ok (.iaload, 1) := by decide +kernel
theorem dX0_signThree_17 : decode cX0_signThree 17 = .ok (.i2l, 1) := by decide +kernel
theorem dX0_signThree_18 : decode cX0_signThree 18 = .ok (.lmul, 1) := by decide +kernel
theorem dX0_signThree_19 : decode cX0_signThree 19 = .ok (.lreturn, 1) := by decide +kernel
theorem dX0_signTwo_0 : decode cX0_signTwo 0 = .ok (.aload_n 0, 1) := by decide +kernel
theorem dX0_signTwo_1 : decode cX0_signTwo 1 = .ok (.getfield 9, 3) := by decide +kernel
theorem dX0_signTwo_4 : decode cX0_signTwo 4 = .ok (.iconst 0, 1) := by decide +kernel
theorem dX0_signTwo_5 : decode cX0_signTwo 5 = .ok (.iaload, 1) := by decide +kernel
theorem dX0_signTwo_6 : decode cX0_signTwo 6 = .ok (.i2l, 1) := by decide +kernel
theorem dX0_signTwo_7 : decode cX0_signTwo 7 = .ok (.iload_n 1, 1) := by decide +kernel
theorem dX0_signTwo_8 : decode cX0_signTwo 8 = .ok (.i2l, 1) := by decide +kernel
theorem dX0_signTwo_9 : decode cX0_signTwo 9 = .ok (.lmul, 1) := by decide +kernel
theorem dX0_signTwo_10 : decode cX0_signTwo 10 = .ok (.lstore_n 3, 1) := by decide +kernel
theorem dX0_signTwo_11 : decode cX0_signTwo 11 = .ok (.ldc2_w 30, 3) := by decide +kernel
theorem dX0_signTwo_14 : decode cX0_signTwo 14 = .ok (.aload_n 0, 1) := by decide +kernel
theorem dX0_signTwo_15 : decode cX0_signTwo 15 = .ok (.getfield 9, 3) := by decide +kernel
theorem dX0_signTwo_18 : decode cX0_signTwo 18 = .ok (.iconst 1, 1) := by decide +kernel
theorem dX0_signTwo_19 : decode cX0_signTwo 19 = .ok (.iaload, 1) := by decide +kernel
theorem dX0_signTwo_20 : decode cX0_signTwo 20 = .ok (.i2l, 1) := by decide +kernel
theorem dX0_signTwo_21 : decode cX0_signTwo 21 = .ok (.lmul, 1) := by decide +kernel
theorem dX0_signTwo_22 : decode cX0_signTwo 22 = .ok (.iload_n 1, 1) := by decide +kernel
theorem dX0_signTwo_23 : decode cX0_signTwo 23 = .ok (.i2l, 1) := by decide +kernel
theorem dX0_signTwo_24 : decode cX0_signTwo 24 = .ok (.lmul, 1) := by decide +kernel
theorem dX0_signTwo_25 : decode cX0_signTwo 25 = .ok (.iload_n 1, 1) := by decide +kernel
theorem dX0_signTwo_26 : decode cX0_signTwo 26 = .ok (.i2l, 1) := by decide +kernel
theorem dX0_signTwo_27 : decode cX0_signTwo 27 = .ok (.lmul, 1) := by decide +kernel
theorem dX0_signTwo_28 : decode cX0_signTwo 28 = .ok (.ldc2_w 28, 3) := by decide +kernel
theorem dX0_signTwo_31 : decode cX0_signTwo 31 = .ok (.aload_n 0, 1) := by decide +kernel
theorem dX0_signTwo_32 : decode cX0_signTwo 32 = .ok (.getfield 9, 3) := by decide +kernel
theorem dX0_signTwo_35 : decode cX0_signTwo 35 = .ok (.iconst 4, 1) := by decide +kernel
theorem dX0_signTwo_36 : decode cX0_signTwo 36 = .ok (.iaload, 1) := by decide +kernel
theorem dX0_signTwo_37 : decode cX0_signTwo 37 = .ok (.i2l, 1) := by decide +kernel
theorem dX0_signTwo_38 : decode cX0_signTwo 38 = .ok (.lmul, 1) := by decide +kernel
theorem dX0_signTwo_39 : decode cX0_signTwo 39 = .ok (.aload_n 0, 1) := by decide +kernel
theorem dX0_signTwo_40 : decode cX0_signTwo 40 = .ok (.getfield 9, 3) := by decide +kernel
theorem dX0_signTwo_43 : decode cX0_signTwo 43 = .ok (.iconst 3, 1) := by decide +kernel
theorem dX0_signTwo_44 : decode cX0_signTwo 44 = .ok (.iaload, 1) := by decide +kernel
theorem dX0_signTwo_45 : decode cX0_signTwo 45 = .ok (.i2l, 1) := by decide +kernel
theorem dX0_signTwo_46 : decode cX0_signTwo 46 = .ok (.lmul, 1) := by decide +kernel
theorem dX0_signTwo_47 : decode cX0_signTwo 47 = .ok (.lsub, 1) := by decide +kernel
theorem dX0_signTwo_48 : decode cX0_signTwo 48 = .ok (.aload_n 0, 1) := by decide +kernel
theorem dX0_signTwo_49 : decode cX0_signTwo 49 = .ok (.getfield 9, 3) := by decide +kernel
theorem dX0_signTwo_52 : decode cX0_signTwo 52 = .ok (.iconst 4, 1) := by decide +kernel
theorem dX0_signTwo_53 : decode cX0_signTwo 53 = .ok (.iaload, 1) := by decide +kernel
theorem dX0_signTwo_54 : decode cX0_signTwo 54 = .ok (.i2l, 1) := by decide +kernel
theorem dX0_signTwo_55 : decode cX0_signTwo 55 = .ok (.lload_n 3, 1) := by decide +kernel
theorem dX0_signTwo_56 : decode cX0_signTwo 56 = .ok (.lmul, 1) := by decide +kernel
theorem dX0_signTwo_57 : decode cX0_signTwo 57 = .ok (.lload_n 3, 1) := by decide +kernel
theorem dX0_signTwo_58 : decode cX0_signTwo 58 = .ok (.ldc2_w 30, 3) := by decide +kernel
theorem dX0_signTwo_61 : decode cX0_signTwo 61 = .ok (.iload_n 2, 1) := by decide +kernel
theorem dX0_signTwo_62 : decode cX0_signTwo 62 = .ok (.i2l, 1) := by decide +kernel
theorem dX0_signTwo_63 : decode cX0_signTwo 63 = .ok (.lmul, 1) := by decide +kernel
theorem dX0_signTwo_64 : decode cX0_signTwo 64 = .ok (.ladd, 1) := by decide +kernel
theorem dX0_signTwo_65 : decode cX0_signTwo 65 = .ok (.lmul, 1) := by decide +kernel
theorem dX0_signTwo_66 : decode cX0_signTwo 66 = .ok (.ladd, 1) := by decide +kernel
theorem dX0_signTwo_67 : decode cX0_signTwo 67 = .ok (.lreturn, 1) := by decide +kernel
theorem dX0_signOne_0 : decode cX0_signOne 0 = .ok (.aload_n 0, 1) := by decide +kernel
theorem dX0_signOne_1 : decode cX0_signOne 1 = .ok (.getfield 9, 3) := by decide +kernel
theorem dX0_signOne_4 : decode cX0_signOne 4 = .ok (.iconst 0, 1) := by decide +kernel
theorem dX0_signOne_5 : decode cX0_signOne 5 = .ok (.iaload, 1) := by decide +kernel
theorem dX0_signOne_6 : decode cX0_signOne 6 = .ok (.i2l, 1) := by decide +kernel
theorem dX0_signOne_7 : decode cX0_signOne 7 = .ok (.iload_n 1, 1) := by decide +kernel
theorem dX0_signOne_8 : decode cX0_signOne 8 = .ok (.i2l, 1) := by decide +kernel
theorem dX0_signOne_9 : decode cX0_signOne 9 = .ok (.lmul, 1) := by decide +kernel
theorem dX0_signOne_10 : decode cX0_signOne 10 = .ok (.lstore 4, 2) := by decide +kernel
theorem dX0_signOne_12 : decode cX0_signOne 12 = .ok (.iload_n 1, 1) := by decide +kernel
theorem dX0_signOne_13 : decode cX0_signOne 13 = .ok (.i2l, 1) := by decide +kernel
theorem dX0_signOne_14 : decode cX0_signOne 14 = .ok (.iload_n 1, 1) := by decide +kernel
theorem dX0_signOne_15 : decode cX0_signOne 15 = .ok (.i2l, 1) := by decide +kernel
theorem dX0_signOne_16 : decode cX0_signOne 16 = .ok (.lmul, 1) := by decide +kernel
theorem dX0_signOne_17 : decode cX0_signOne 17 = .ok (.lstore 6, 2) := by decide +kernel
theorem dX0_signOne_19 : decode cX0_signOne 19 = .ok (.ldc2_w 30, 3) := by decide +kernel
theorem dX0_signOne_22 : decode cX0_signOne 22 = .ok (.lload 4, 2) := by decide +kernel
theorem dX0_signOne_24 : decode cX0_signOne 24 = .ok (.lmul, 1) := by decide +kernel
theorem dX0_signOne_25 : decode cX0_signOne 25 = .ok (.lload 6, 2) := by decide +kernel
theorem dX0_signOne_27 : decode cX0_signOne 27 = .ok (.aload_n 0, 1) := by decide +kernel
theorem dX0_signOne_28 : decode cX0_signOne 28 = .ok (.getfield 9, 3) := by decide +kernel
theorem dX0_signOne_31 : decode cX0_signOne 31 = .ok (.iconst 4, 1) := by decide +kernel
theorem dX0_signOne_32 : decode cX0_signOne 32 = .ok (.iaload, 1) := by decide +kernel
theorem dX0_signOne_33 : decode cX0_signOne 33 = .ok (.i2l, 1) := by decide +kernel
theorem dX0_signOne_34 : decode cX0_signOne 34 = .ok (.aload_n 0, 1) := by decide +kernel
theorem dX0_signOne_35 : decode cX0_signOne 35 = .ok (.getfield 9, 3) := by decide +kernel
theorem dX0_signOne_38 : decode cX0_signOne 38 = .ok (.iconst 1, 1) := by decide +kernel
theorem dX0_signOne_39 : decode cX0_signOne 39 = .ok (.iaload, 1) := by decide +kernel
theorem dX0_signOne_40 : decode cX0_signOne 40 = .ok (.aload_n 0, 1) := by decide +kernel
theorem dX0_signOne_41 : decode cX0_signOne 41 = .ok (.getfield 9, 3) := by decide +kernel
theorem dX0_signOne_44 : decode cX0_signOne 44 = .ok (.iconst 2, 1) := by decide +kernel
theorem dX0_signOne_45 : decode cX0_signOne 45 = .ok (.iaload, 1) := by decide +kernel
theorem dX0_signOne_46 : decode cX0_signOne 46 = .ok (.iadd, 1) := by decide +kernel
theorem dX0_signOne_47 : decode cX0_signOne 47 = .ok (.iload_n 2, 1) := by decide +kernel
theorem dX0_signOne_48 : decode cX0_signOne 48 = .ok (.iadd, 1) := by decide +kernel
theorem dX0_signOne_49 : decode cX0_signOne 49 = .ok (.i2l, 1) := by decide +kernel
theorem dX0_signOne_50 : decode cX0_signOne 50 = .ok (.lmul, 1) := by decide +kernel
theorem dX0_signOne_51 : decode cX0_signOne 51 = .ok (.ladd, 1) := by decide +kernel
theorem dX0_signOne_52 : decode cX0_signOne 52 = .ok (.lmul, 1) := by decide +kernel
theorem dX0_signOne_53 : decode cX0_signOne 53 = .ok (.ldc2_w 28, 3) := by decide +kernel
theorem dX0_signOne_56 : decode cX0_signOne 56 = .ok (.aload_n 0, 1) := by decide +kernel
theorem dX0_signOne_57 : decode cX0_signOne 57 = .ok (.getfield 9, 3) := by decide +kernel
theorem dX0_signOne_60 : decode cX0_signOne 60 = .ok (.iconst 4, 1) := by decide +kernel
theorem dX0_signOne_61 : decode cX0_signOne 61 = .ok (.iaload, 1) := by decide +kernel
theorem dX0_signOne_62 : decode cX0_signOne 62 = .ok (.i2l, 1) := by decide +kernel
theorem dX0_signOne_63 : decode cX0_signOne 63 = .ok (.lmul, 1) := by decide +kernel
theorem dX0_signOne_64 : decode cX0_signOne 64 = .ok (.aload_n 0, 1) := by decide +kernel
theorem dX0_signOne_65 : decode cX0_signOne 65 = .ok (.getfield 9, 3) := by decide +kernel
theorem dX0_signOne_68 : decode cX0_signOne 68 = .ok (.iconst 3, 1) := by decide +kernel
theorem dX0_signOne_69 : decode cX0_signOne 69 = .ok (.iaload, 1) := by decide +kernel
theorem dX0_signOne_70 : decode cX0_signOne 70 = .ok (.i2l, 1) := by decide +kernel
theorem dX0_signOne_71 : decode cX0_signOne 71 = .ok (.lmul, 1) := by decide +kernel
theorem dX0_signOne_72 : decode cX0_signOne 72 = .ok (.aload_n 0, 1) := by decide +kernel
theorem dX0_signOne_73 : decode cX0_signOne 73 = .ok (.getfield 9, 3) := by decide +kernel
theorem dX0_signOne_76 : decode cX0_signOne 76 = .ok (.iconst 5, 1) := by decide +kernel
theorem dX0_signOne_77 : decode cX0_signOne 77 = .ok (.iaload, 1) := by decide +kernel
theorem dX0_signOne_78 : decode cX0_signOne 78 = .ok (.i2l, 1) := by decide +kernel
theorem dX0_signOne_79 : decode cX0_signOne 79 = .ok (.lmul, 1) := by decide +kernel
theorem dX0_signOne_80 : decode cX0_signOne 80 = .ok (.lsub, 1) := by decide +kernel
theorem dX0_signOne_81 : decode cX0_signOne 81 = .ok (.ldc2_w 28, 3) := by decide +kernel
theorem dX0_signOne_84 : decode cX0_signOne 84 = .ok (.iload_n 3, 1) := by decide +kernel
theorem dX0_signOne_85 : decode cX0_signOne 85 = .ok (.i2l, 1) := by decide +kernel
theorem dX0_signOne_86 : decode cX0_signOne 86 = .ok (.lmul, 1) := by decide +kernel
theorem dX0_signOne_87 : decode cX0_signOne 87 = .ok (.lload 6, 2) := by decide +kernel
theorem dX0_signOne_89 : decode cX0_signOne 89 = .ok (.lmul, 1) := by decide +kernel
theorem dX0_signOne_90 : decode cX0_signOne 90 = .ok (.ladd, 1) := by decide +kernel
theorem dX0_signOne_91 : decode cX0_signOne 91 = .ok (.lreturn, 1) := by decide +kernel
theorem dX0_signZero_0 : decode cX0_signZero 0 = .ok (.iload_n 1, 1) := by decide +kernel
theorem dX0_signZero_1 : decode cX0_signZero 1 = .ok (.i2l, 1) := by decide +kernel
theorem dX0_signZero_2 : decode cX0_signZero 2 = .ok (.iload_n 1, 1) := by decide +kernel
theorem dX0_signZero_3 : decode cX0_signZero 3 = .ok (.i2l, 1) := by decide +kernel
theorem dX0_signZero_4 : decode cX0_signZero 4 = .ok (.lmul, 1) := by decide +kernel
theorem dX0_signZero_5 : decode cX0_signZero 5 = .ok (.lstore_n 3, 1) := by decide +kernel
theorem dX0_signZero_6 : decode cX0_signZero 6 = .ok (.ldc2_w 28, 3) := by decide +kernel
theorem dX0_signZero_9 : decode cX0_signZero 9 = .ok (.lload_n 3, 1) := by decide +kernel
theorem dX0_signZero_10 : decode cX0_signZero 10 = .ok (.lmul, 1) := by decide +kernel
theorem dX0_signZero_11 : decode cX0_signZero 11 = .ok (.aload_n 0, 1) := by decide +kernel
theorem dX0_signZero_12 : decode cX0_signZero 12 = .ok (.getfield 9, 3) := by decide +kernel
theorem dX0_signZero_15 : decode cX0_signZero 15 = .ok (.iconst 1, 1) := by decide +kernel
theorem dX0_signZero_16 : decode cX0_signZero 16 = .ok (.iaload, 1) := by decide +kernel
theorem dX0_signZero_17 : decode cX0_signZero 17 = .ok (.aload_n 0, 1) := by decide +kernel
theorem dX0_signZero_18 : decode cX0_signZero 18 = .ok (.getfield 9, 3) := by decide +kernel
theorem dX0_signZero_21 : decode cX0_signZero 21 = .ok (.iconst 2, 1) := by decide +kernel
theorem dX0_signZero_22 : decode cX0_signZero 22 = .ok (.iaload, 1) := by decide +kernel
theorem dX0_signZero_23 : decode cX0_signZero 23 = .ok (.iadd, 1) := by decide +kernel
theorem dX0_signZero_24 : decode cX0_signZero 24 = .ok (.iload_n 2, 1) := by decide +kernel
theorem dX0_signZero_25 : decode cX0_signZero 25 = .ok (.iadd, 1) := by decide +kernel
theorem dX0_signZero_26 : decode cX0_signZero 26 = .ok (.i2l, 1) := by decide +kernel
theorem dX0_signZero_27 : decode cX0_signZero 27 = .ok (.lmul, 1) := by decide +kernel
theorem dX0_signZero_28 : decode cX0_signZero 28 = .ok (.ldc2_w 30, 3) := by decide +kernel
theorem dX0_signZero_31 : decode cX0_signZero 31 = .ok (.aload_n 0, 1) := by decide +kernel
theorem dX0_signZero_32 : decode cX0_signZero 32 = .ok (.getfield 9, 3) := by decide +kernel
theorem dX0_signZero_35 : decode cX0_signZero 35 = .ok (.iconst 3, 1) := by decide +kernel
theorem dX0_signZero_36 : decode cX0_signZero 36 = .ok (.iaload, 1) := by decide +kernel
theorem dX0_signZero_37 : decode cX0_signZero 37 = .ok (.i2l, 1) := by decide +kernel
theorem dX0_signZero_38 : decode cX0_signZero 38 = .ok (.lmul, 1) := by decide +kernel
theorem dX0_signZero_39 : decode cX0_signZero 39 = .ok (.aload_n 0, 1) := by decide +kernel
theorem dX0_signZero_40 : decode cX0_signZero 40 = .ok (.getfield 9, 3) := by decide +kernel
theorem dX0_signZero_43 : decode cX0_signZero 43 = .ok (.iconst 1, 1) := by decide +kernel
theorem dX0_signZero_44 : decode cX0_signZero 44 = .ok (.iaload, 1) := by decide +kernel
theorem dX0_signZero_45 : decode cX0_signZero 45 = .ok (.i2l, 1) := by decide +kernel
theorem dX0_signZero_46 : decode cX0_signZero 46 = .ok (.lmul, 1) := by decide +kernel
theorem dX0_signZero_47 : decode cX0_signZero 47 = .ok (.lload_n 3, 1) := by decide +kernel
theorem dX0_signZero_48 : decode cX0_signZero 48 = .ok (.lmul, 1) := by decide +kernel
theorem dX0_signZero_49 : decode cX0_signZero 49 = .ok (.lsub, 1) := by decide +kernel
theorem dX0_signZero_50 : decode cX0_signZero 50 = .ok (.lreturn, 1) := by decide +kernel
set_option maxRecDepth 20000 in
theorem ggX0_staysUp_X0_signZero : GoodIn wsX0_staysUp wsX0_signZero := goodIn_r _ [7, 1, 2, 8, 21] (by decide +kernel) (by decide +kernel)
set_option maxRecDepth 20000 in
theorem gX0_staysUp_X0_signZero : GoodIn wsX0_staysUp (wsV RX0 32 RX0 yX0_signZero wsX0_signZero) := goodIn_app (goodIn_of _ (by decide +kernel)) ggX0_staysUp_X0_signZero
set_option maxRecDepth 20000 in
theorem ggX0_staysUp_X0_signTwo : GoodIn wsX0_staysUp wsX0_signTwo := goodIn_r _ [12, 2, 8, 1, 21] (by decide +kernel) (by decide +kernel)
set_option maxRecDepth 20000 in
theorem gX0_staysUp_X0_signTwo : GoodIn wsX0_staysUp (wsV RX0 36 RX0 yX0_signTwo wsX0_signTwo) := goodIn_app (goodIn_of _ (by decide +kernel)) ggX0_staysUp_X0_signTwo
set_option maxRecDepth 20000 in
theorem ggX0_staysUp_X0_signOne : GoodIn wsX0_staysUp wsX0_signOne := goodIn_r _ [16, 2, 8, 1, 21] (by decide +kernel) (by decide +kernel)
set_option maxRecDepth 20000 in
theorem gX0_staysUp_X0_signOne : GoodIn wsX0_staysUp (wsV RX0 39 RX0 yX0_signOne wsX0_signOne) := goodIn_app (goodIn_of _ (by decide +kernel)) ggX0_staysUp_X0_signOne
set_option maxRecDepth 20000 in
theorem ggX0_staysUp_X0_signThree : GoodIn wsX0_staysUp wsX0_signThree := goodIn_r _ [20, 1, 2, 21] (by decide +kernel) (by decide +kernel)
set_option maxRecDepth 20000 in
theorem gX0_staysUp_X0_signThree : GoodIn wsX0_staysUp (wsV RX0 43 RX0 yX0_signThree wsX0_signThree) := goodIn_app (goodIn_of _ (by decide +kernel)) ggX0_staysUp_X0_signThree
theorem dX0_staysUp_0 : decode cX0_staysUp 0 = .ok (.aload_n 0, 1) := by decide +kernel
theorem dX0_staysUp_1 : decode cX0_staysUp 1 = .ok (.iload_n 1, 1) := by decide +kernel
theorem dX0_staysUp_2 : decode cX0_staysUp 2 = .ok (.iload_n 2, 1) := by decide +kernel
theorem dX0_staysUp_3 : decode cX0_staysUp 3 = .ok (.invokevirtual 32, 3) := by decide +kernel
theorem dX0_staysUp_6 : decode cX0_staysUp 6 = .ok (.lstore 4, 2) := by decide +kernel
theorem dX0_staysUp_8 : decode cX0_staysUp 8 = .ok (.aload_n 0, 1) := by decide +kernel
theorem dX0_staysUp_9 : decode cX0_staysUp 9 = .ok (.iload_n 1, 1) := by decide +kernel
theorem dX0_staysUp_10 : decode cX0_staysUp 10 = .ok (.iload_n 3, 1) := by decide +kernel
theorem dX0_staysUp_11 : decode cX0_staysUp 11 = .ok (.invokevirtual 36, 3) := by decide +kernel
theorem dX0_staysUp_14 : decode cX0_staysUp 14 = .ok (.lstore 6, 2) := by decide +kernel
theorem dX0_staysUp_16 : decode cX0_staysUp 16 = .ok (.lload 4, 2) := by decide +kernel
theorem dX0_staysUp_18 : decode cX0_staysUp 18 = .ok (.lconst 0, 1) := by decide +kernel
theorem dX0_staysUp_19 : decode cX0_staysUp 19 = .ok (.lcmp, 1) := by decide +kernel
theorem dX0_staysUp_20 : decode cX0_staysUp 20 = .ok (.ifCond .le 10, 3) := by decide +kernel
theorem dX0_staysUp_23 : decode cX0_staysUp 23 = .ok (.lload 6, 2) := by decide +kernel
theorem dX0_staysUp_25 : decode cX0_staysUp 25 = .ok (.lconst 0, 1) := by decide +kernel
theorem dX0_staysUp_26 : decode cX0_staysUp 26 = .ok (.lcmp, 1) := by decide +kernel
theorem dX0_staysUp_27 : decode cX0_staysUp 27 = .ok (.ifCond .gt 5, 3) := by decide +kernel
theorem dX0_staysUp_30 : decode cX0_staysUp 30 = .ok (.iconst 0, 1) := by decide +kernel
theorem dX0_staysUp_31 : decode cX0_staysUp 31 = .ok (.ireturn, 1) := by decide +kernel
theorem dX0_staysUp_32 : decode cX0_staysUp 32 = .ok (.aload_n 0, 1) := by decide +kernel
theorem dX0_staysUp_33 : decode cX0_staysUp 33 = .ok (.iload_n 1, 1) := by decide +kernel
theorem dX0_staysUp_34 : decode cX0_staysUp 34 = .ok (.iload_n 2, 1) := by decide +kernel
theorem dX0_staysUp_35 : decode cX0_staysUp 35 = .ok (.iload_n 3, 1) := by decide +kernel
theorem dX0_staysUp_36 : decode cX0_staysUp 36 = .ok (.invokevirtual 39, 3) := by decide +kernel
theorem dX0_staysUp_39 : decode cX0_staysUp 39 = .ok (.lstore 8, 2) := by decide +kernel
theorem dX0_staysUp_41 : decode cX0_staysUp 41 = .ok (.aload_n 0, 1) := by decide +kernel
theorem dX0_staysUp_42 : decode cX0_staysUp 42 = .ok (.invokevirtual 43, 3) := by decide +kernel
theorem dX0_staysUp_45 : decode cX0_staysUp 45 = .ok (.lstore 10, 2) := by decide +kernel
theorem dX0_staysUp_47 : decode cX0_staysUp 47 = .ok (.lload 8, 2) := by decide +kernel
theorem dX0_staysUp_49 : decode cX0_staysUp 49 = .ok (.lconst 0, 1) := by decide +kernel
theorem dX0_staysUp_50 : decode cX0_staysUp 50 = .ok (.lcmp, 1) := by decide +kernel
theorem dX0_staysUp_51 : decode cX0_staysUp 51 = .ok (.ifCond .le 52, 3) := by decide +kernel
theorem dX0_staysUp_54 : decode cX0_staysUp 54 = .ok (.lload 10, 2) := by decide +kernel
theorem dX0_staysUp_56 : decode cX0_staysUp 56 = .ok (.lconst 0, 1) := by decide +kernel
theorem dX0_staysUp_57 : decode cX0_staysUp 57 = .ok (.lcmp, 1) := by decide +kernel
theorem dX0_staysUp_58 : decode cX0_staysUp 58 = .ok (.ifCond .le 45, 3) := by decide +kernel
theorem dX0_staysUp_61 : decode cX0_staysUp 61 = .ok (.lload 10, 2) := by decide +kernel
theorem dX0_staysUp_63 : decode cX0_staysUp 63 = .ok (.lload 6, 2) := by decide +kernel
theorem dX0_staysUp_65 : decode cX0_staysUp 65 = .ok (.lmul, 1) := by decide +kernel
theorem dX0_staysUp_66 : decode cX0_staysUp 66 = .ok (.lload 8, 2) := by decide +kernel
theorem dX0_staysUp_68 : decode cX0_staysUp 68 = .ok (.lmul, 1) := by decide +kernel
theorem dX0_staysUp_69 : decode cX0_staysUp 69 = .ok (.ldc2_w 28, 3) := by decide +kernel
theorem dX0_staysUp_72 : decode cX0_staysUp 72 = .ok (.aload_n 0, 1) := by decide +kernel
theorem dX0_staysUp_73 : decode cX0_staysUp 73 = .ok (.getfield 9, 3) := by decide +kernel
theorem dX0_staysUp_76 : decode cX0_staysUp 76 = .ok (.iconst 4, 1) := by decide +kernel
theorem dX0_staysUp_77 : decode cX0_staysUp 77 = .ok (.iaload, 1) := by decide +kernel
theorem dX0_staysUp_78 : decode cX0_staysUp 78 = .ok (.i2l, 1) := by decide +kernel
theorem dX0_staysUp_79 : decode cX0_staysUp 79 = .ok (.lmul, 1) := by decide +kernel
theorem dX0_staysUp_80 : decode cX0_staysUp 80 = .ok (.lload 8, 2) := by decide +kernel
theorem dX0_staysUp_82 : decode cX0_staysUp 82 = .ok (.lmul, 1) := by decide +kernel
theorem dX0_staysUp_83 : decode cX0_staysUp 83 = .ok (.lload 8, 2) := by decide +kernel
theorem dX0_staysUp_85 : decode cX0_staysUp 85 = .ok (.lmul, 1) := by decide +kernel
theorem dX0_staysUp_86 : decode cX0_staysUp 86 = .ok (.lload 10, 2) := by decide +kernel
theorem dX0_staysUp_88 : decode cX0_staysUp 88 = .ok (.lload 10, 2) := by decide +kernel
theorem dX0_staysUp_90 : decode cX0_staysUp 90 = .ok (.lmul, 1) := by decide +kernel
theorem dX0_staysUp_91 : decode cX0_staysUp 91 = .ok (.lload 4, 2) := by decide +kernel
theorem dX0_staysUp_93 : decode cX0_staysUp 93 = .ok (.lmul, 1) := by decide +kernel
theorem dX0_staysUp_94 : decode cX0_staysUp 94 = .ok (.ladd, 1) := by decide +kernel
theorem dX0_staysUp_95 : decode cX0_staysUp 95 = .ok (.lcmp, 1) := by decide +kernel
theorem dX0_staysUp_96 : decode cX0_staysUp 96 = .ok (.ifCond .le 7, 3) := by decide +kernel
theorem dX0_staysUp_99 : decode cX0_staysUp 99 = .ok (.iconst 1, 1) := by decide +kernel
theorem dX0_staysUp_100 : decode cX0_staysUp 100 = .ok (.goto 4, 3) := by decide +kernel
theorem dX0_staysUp_103 : decode cX0_staysUp 103 = .ok (.iconst 0, 1) := by decide +kernel
theorem dX0_staysUp_104 : decode cX0_staysUp 104 = .ok (.ireturn, 1) := by decide +kernel
set_option maxRecDepth 20000 in
theorem ggX0_speeds_X0_signThree : GoodIn wsX0_speeds wsX0_signThree := goodIn_r _ [6, 7, 1, 25] (by decide +kernel) (by decide +kernel)
set_option maxRecDepth 20000 in
theorem gX0_speeds_X0_signThree : GoodIn wsX0_speeds (wsV RX0 43 RX0 yX0_signThree wsX0_signThree) := goodIn_app (goodIn_of _ (by decide +kernel)) ggX0_speeds_X0_signThree
set_option maxRecDepth 20000 in
theorem ggX0_speeds_X0_signZero : GoodIn wsX0_speeds wsX0_signZero := goodIn_r _ [11, 7, 1, 12, 25] (by decide +kernel) (by decide +kernel)
set_option maxRecDepth 20000 in
theorem gX0_speeds_X0_signZero : GoodIn wsX0_speeds (wsV RX0 32 RX0 yX0_signZero wsX0_signZero) := goodIn_app (goodIn_of _ (by decide +kernel)) ggX0_speeds_X0_signZero
set_option maxRecDepth 20000 in
theorem ggX0_speeds_X0_staysUp : GoodIn wsX0_speeds wsX0_staysUp := goodIn_r _ [16, 7, 1, 8, 9, 10, 5, 11, 12, 17, 18, 19, 20, 21, 22, 23, 24, 2, 3, 4, 6, 25] (by decide +kernel) (by decide +kernel)
set_option maxRecDepth 20000 in
theorem gX0_speeds_X0_staysUp : GoodIn wsX0_speeds (wsV RX0 47 RX0 yX0_staysUp wsX0_staysUp) := goodIn_app (goodIn_of _ (by decide +kernel)) ggX0_speeds_X0_staysUp
theorem dX0_speeds_0 : decode cX0_speeds 0 = .ok (.aload_n 0, 1) := by decide +kernel
theorem dX0_speeds_1 : decode cX0_speeds 1 = .ok (.getfield 9, 3) := by decide +kernel
theorem dX0_speeds_4 : decode cX0_speeds 4 = .ok (.iconst 0, 1) := by decide +kernel
theorem dX0_speeds_5 : decode cX0_speeds 5 = .ok (.iaload, 1) := by decide +kernel
theorem dX0_speeds_6 : decode cX0_speeds 6 = .ok (.ifCond .eq 23, 3) := by decide +kernel
theorem dX0_speeds_9 : decode cX0_speeds 9 = .ok (.aload_n 0, 1) := by decide +kernel
theorem dX0_speeds_10 : decode cX0_speeds 10 = .ok (.invokevirtual 43, 3) := by decide +kernel
theorem dX0_speeds_13 : decode cX0_speeds 13 = .ok (.lconst 0, 1) := by decide +kernel
theorem dX0_speeds_14 : decode cX0_speeds 14 = .ok (.lcmp, 1) := by decide +kernel
theorem dX0_speeds_15 : decode cX0_speeds 15 = .ok (.ifCond .le 14, 3) := by decide +kernel
theorem dX0_speeds_18 : decode cX0_speeds 18 = .ok (.aload_n 0, 1) := by decide +kernel
theorem dX0_speeds_19 : decode cX0_speeds 19 = .ok (.iconst 1, 1) := by decide +kernel
theorem dX0_speeds_20 : decode cX0_speeds 20 = .ok (.iconst 0, 1) := by decide +kernel
theorem dX0_speeds_21 : decode cX0_speeds 21 = .ok (.invokevirtual 32, 3) := by decide +kernel
theorem dX0_speeds_24 : decode cX0_speeds 24 = .ok (.lconst 0, 1) := by decide +kernel
theorem dX0_speeds_25 : decode cX0_speeds 25 = .ok (.lcmp, 1) := by decide +kernel
theorem dX0_speeds_26 : decode cX0_speeds 26 = .ok (.ifCond .gt 5, 3) := by decide +kernel
theorem dX0_speeds_29 : decode cX0_speeds 29 = .ok (.lconst 0, 1) := by decide +kernel
theorem dX0_speeds_30 : decode cX0_speeds 30 = .ok (.lreturn, 1) := by decide +kernel
theorem dX0_speeds_31 : decode cX0_speeds 31 = .ok (.lconst 0, 1) := by decide +kernel
theorem dX0_speeds_32 : decode cX0_speeds 32 = .ok (.lstore_n 1, 1) := by decide +kernel
theorem dX0_speeds_33 : decode cX0_speeds 33 = .ok (.iconst 0, 1) := by decide +kernel
theorem dX0_speeds_34 : decode cX0_speeds 34 = .ok (.istore_n 3, 1) := by decide +kernel
theorem dX0_speeds_35 : decode cX0_speeds 35 = .ok (.iload_n 3, 1) := by decide +kernel
theorem dX0_speeds_36 : decode cX0_speeds 36 = .ok (.bipush 40, 2) := by decide +kernel
theorem dX0_speeds_38 : decode cX0_speeds 38 = .ok (.if_icmp .gt 25, 3) := by decide +kernel
theorem dX0_speeds_41 : decode cX0_speeds 41 = .ok (.aload_n 0, 1) := by decide +kernel
theorem dX0_speeds_42 : decode cX0_speeds 42 = .ok (.iload_n 3, 1) := by decide +kernel
theorem dX0_speeds_43 : decode cX0_speeds 43 = .ok (.iconst 0, 1) := by decide +kernel
theorem dX0_speeds_44 : decode cX0_speeds 44 = .ok (.iconst 0, 1) := by decide +kernel
theorem dX0_speeds_45 : decode cX0_speeds 45 = .ok (.invokevirtual 47, 3) := by decide +kernel
theorem dX0_speeds_48 : decode cX0_speeds 48 = .ok (.ifCond .eq 9, 3) := by decide +kernel
theorem dX0_speeds_51 : decode cX0_speeds 51 = .ok (.lload_n 1, 1) := by decide +kernel
theorem dX0_speeds_52 : decode cX0_speeds 52 = .ok (.lconst 1, 1) := by decide +kernel
theorem dX0_speeds_53 : decode cX0_speeds 53 = .ok (.iload_n 3, 1) := by decide +kernel
theorem dX0_speeds_54 : decode cX0_speeds 54 = .ok (.lshl, 1) := by decide +kernel
theorem dX0_speeds_55 : decode cX0_speeds 55 = .ok (.lor, 1) := by decide +kernel
theorem dX0_speeds_56 : decode cX0_speeds 56 = .ok (.lstore_n 1, 1) := by decide +kernel
theorem dX0_speeds_57 : decode cX0_speeds 57 = .ok (.iinc 3 1, 3) := by decide +kernel
theorem dX0_speeds_60 : decode cX0_speeds 60 = .ok (.goto (-25), 3) := by decide +kernel
theorem dX0_speeds_63 : decode cX0_speeds 63 = .ok (.lload_n 1, 1) := by decide +kernel
theorem dX0_speeds_64 : decode cX0_speeds 64 = .ok (.lreturn, 1) := by decide +kernel
set_option maxRecDepth 20000 in
theorem ggX0_speedCount_X0_speeds : GoodIn wsX0_speedCount wsX0_speeds := goodIn_r _ [5, 6, 7, 8, 9, 4, 10, 11, 12, 13, 14, 15, 16, 17, 18, 19, 20, 21, 22, 23, 24, 25, 26, 27, 28, 36] (by decide +kernel) (by decide +kernel)
set_option maxRecDepth 20000 in
theorem gX0_speedCount_X0_speeds : GoodIn wsX0_speedCount (wsV RX0 51 RX0 yX0_speeds wsX0_speeds) := goodIn_app (goodIn_of _ (by decide +kernel)) ggX0_speedCount_X0_speeds
set_option maxRecDepth 20000 in
theorem ggX0_speedCount_J13_bitCount_95d88 : GoodIn wsX0_speedCount wsJ13_bitCount_95d88 := goodIn_r _ [32, 33, 34, 35] (by decide +kernel) (by decide +kernel)
set_option maxRecDepth 20000 in
theorem gX0_speedCount_J13_bitCount_95d88 : GoodIn wsX0_speedCount (va_wsS RX0 54 yJ13_bitCount_95d88 wsJ13_bitCount_95d88) := goodIn_app (goodIn_of _ (by decide +kernel)) ggX0_speedCount_J13_bitCount_95d88
theorem dX0_speedCount_0 : decode cX0_speedCount 0 = .ok (.aload_n 0, 1) := by decide +kernel
theorem dX0_speedCount_1 : decode cX0_speedCount 1 = .ok (.invokevirtual 51, 3) := by decide +kernel
theorem dX0_speedCount_4 : decode cX0_speedCount 4 = .ok (.invokestatic 54, 3) := by decide +kernel
theorem dX0_speedCount_7 : decode cX0_speedCount 7 = .ok (.ireturn, 1) := by decide +kernel
set_option maxRecDepth 20000 in
theorem ggX1_init_X0_init : GoodIn wsX1_init wsX0_init := goodIn_r _ [9, 10, 2, 3, 11, 12, 13, 14, 15, 16, 17] (by decide +kernel) (by decide +kernel)
set_option maxRecDepth 20000 in
theorem gX1_init_X0_init_n11 : GoodIn wsX1_init (wsX0_init) := ggX1_init_X0_init
theorem dX1_init_0 : decode cX1_init 0 = .ok (.aload_n 0, 1) := by decide +kernel
theorem dX1_init_1 : decode cX1_init 1 = .ok (.invokespecial 3, 3) := by decide +kernel
theorem dX1_init_4 : decode cX1_init 4 = .ok (.aload_n 0, 1) := by decide +kernel
theorem dX1_init_5 : decode cX1_init 5 = .ok (.new 9, 3) := by decide +kernel
theorem dX1_init_8 : decode cX1_init 8 = .ok (.dup, 1) := by decide +kernel
theorem dX1_init_9 : decode cX1_init 9 = .ok (.invokespecial 11, 3) := by decide +kernel
theorem dX1_init_12 : decode cX1_init 12 = .ok (.putfield 12, 3) := by decide +kernel
theorem dX1_init_15 : decode cX1_init 15 = .ok (.return_, 1) := by decide +kernel
set_option maxRecDepth 20000 in
theorem ggX1_leastWithout_X1_findsFrom : GoodIn wsX1_leastWithout wsX1_findsFrom := goodIn_r _ [5, 6, 7, 8, 9, 10, 11, 12, 13, 14, 15, 16, 17, 18, 19, 20, 21, 22, 23, 24, 25, 26, 27, 28, 29, 30, 31, 32, 33, 34, 35, 36, 37, 38, 39, 40, 41, 42, 43, 44, 45, 46, 47, 48, 49, 50, 51, 52, 1, 2, 3, 4, 53, 54, 55, 56, 57] (by decide +kernel) (by decide +kernel)
set_option maxRecDepth 20000 in
theorem gX1_leastWithout_X1_findsFrom : GoodIn wsX1_leastWithout (wsV RX1 18 RX1 yX1_findsFrom wsX1_findsFrom) := goodIn_app (goodIn_of _ (by decide +kernel)) ggX1_leastWithout_X1_findsFrom
theorem dX1_leastWithout_0 : decode cX1_leastWithout 0 = .ok (.iconst 0, 1) := by decide +kernel
theorem dX1_leastWithout_1 : decode cX1_leastWithout 1 = .ok (.istore_n 3, 1) := by decide +kernel
theorem dX1_leastWithout_2 : decode cX1_leastWithout 2 = .ok (.iload_n 3, 1) := by decide +kernel
theorem dX1_leastWithout_3 : decode cX1_leastWithout 3 = .ok (.bipush 6, 2) := by decide +kernel
theorem dX1_leastWithout_5 : decode cX1_leastWithout 5 = .ok (.if_icmp .gt 22, 3) := by decide +kernel
theorem dX1_leastWithout_8 : decode cX1_leastWithout 8 = .ok (.aload_n 0, 1) := by decide +kernel
theorem dX1_leastWithout_9 : decode cX1_leastWithout 9 = .ok (.iconst 0, 1) := by decide +kernel
theorem dX1_leastWithout_10 : decode cX1_leastWithout 10 = .ok (.iload_n 3, 1) := by decide +kernel
theorem dX1_leastWithout_11 : decode cX1_leastWithout 11 = .ok (.aload_n 1, 1) := by decide +kernel
theorem dX1_leastWithout_12 : decode cX1_leastWithout 12 = .ok (.iload_n 2, 1) := by decide +kernel
theorem dX1_leastWithout_13 : decode cX1_leastWithout 13 = .ok (.invokevirtual 18, 3) := by decide +kernel
theorem dX1_leastWithout_16 : decode cX1_leastWithout 16 = .ok (.ifCond .eq 5, 3) := by decide +kernel
theorem dX1_leastWithout_19 : decode cX1_leastWithout 19 = .ok (.iload_n 3, 1) := by decide +kernel
theorem dX1_leastWithout_20 : decode cX1_leastWithout 20 = .ok (.ireturn, 1) := by decide +kernel
theorem dX1_leastWithout_21 : decode cX1_leastWithout 21 = .ok (.iinc 3 1, 3) := by decide +kernel
theorem dX1_leastWithout_24 : decode cX1_leastWithout 24 = .ok (.goto (-22), 3) := by decide +kernel
theorem dX1_leastWithout_27 : decode cX1_leastWithout 27 = .ok (.bipush (-9), 2) := by decide +kernel
theorem dX1_leastWithout_29 : decode cX1_leastWithout 29 = .ok (.ireturn, 1) := by decide +kernel
set_option maxRecDepth 20000 in
theorem ggX1_valueFound_X0_valueOf : GoodIn wsX1_valueFound wsX0_valueOf := goodIn_r _ [5, 6, 7, 8, 9, 10, 11, 12, 14] (by decide +kernel) (by decide +kernel)
set_option maxRecDepth 20000 in
theorem gX1_valueFound_X0_valueOf_n22 : GoodIn wsX1_valueFound (wsX0_valueOf) := ggX1_valueFound_X0_valueOf
theorem dX1_valueFound_0 : decode cX1_valueFound 0 = .ok (.aload_n 0, 1) := by decide +kernel
theorem dX1_valueFound_1 : decode cX1_valueFound 1 = .ok (.getfield 12, 3) := by decide +kernel
theorem dX1_valueFound_4 : decode cX1_valueFound 4 = .ok (.iload_n 1, 1) := by decide +kernel
theorem dX1_valueFound_5 : decode cX1_valueFound 5 = .ok (.invokevirtual 22, 3) := by decide +kernel
theorem dX1_valueFound_8 : decode cX1_valueFound 8 = .ok (.ireturn, 1) := by decide +kernel
set_option maxRecDepth 20000 in
theorem ggX1_findsFrom_X0_speeds : GoodIn wsX1_findsFrom wsX0_speeds := goodIn_r _ [15, 16, 17, 18, 19, 13, 20, 21, 22, 23, 24, 25, 26, 27, 28, 29, 30, 31, 32, 33, 34, 35, 36, 37, 38, 56] (by decide +kernel) (by decide +kernel)
set_option maxRecDepth 20000 in
theorem gX1_findsFrom_X0_speeds_n26 : GoodIn wsX1_findsFrom (wsX0_speeds) := ggX1_findsFrom_X0_speeds
set_option maxRecDepth 20000 in
theorem ggX1_findsFrom_X0_put : GoodIn wsX1_findsFrom wsX0_put := goodIn_r _ [41, 16, 42, 43, 44, 45, 46, 47, 56] (by decide +kernel) (by decide +kernel)
set_option maxRecDepth 20000 in
theorem gX1_findsFrom_X0_put_n30 : GoodIn wsX1_findsFrom (wsX0_put) := ggX1_findsFrom_X0_put
set_option maxRecDepth 20000 in
theorem ggX1_findsFrom_X1_findsFrom : GoodIn wsX1_findsFrom wsX1_findsFrom := goodIn_r _ [0, 1, 2, 3, 4, 5, 6, 7, 8, 9, 10, 11, 12, 13, 14, 15, 16, 17, 18, 19, 20, 21, 22, 23, 24, 25, 26, 27, 28, 29, 30, 31, 32, 33, 34, 35, 36, 37, 38, 39, 40, 41, 42, 43, 44, 45, 46, 47, 48, 49, 50, 51, 52, 53, 54, 55, 56] (by decide +kernel) (by decide +kernel)
set_option maxRecDepth 20000 in
theorem gX1_findsFrom_X1_findsFrom : GoodIn wsX1_findsFrom (wsV RX1 18 RX1 yX1_findsFrom wsX1_findsFrom) := goodIn_app (goodIn_of _ (by decide +kernel)) ggX1_findsFrom_X1_findsFrom
set_option maxRecDepth 20000 in
theorem ggX1_findsFrom_X0_valueOf : GoodIn wsX1_findsFrom wsX0_valueOf := goodIn_r _ [54, 16, 42, 43, 44, 45, 46, 47, 56] (by decide +kernel) (by decide +kernel)
set_option maxRecDepth 20000 in
theorem gX1_findsFrom_X0_valueOf_n22 : GoodIn wsX1_findsFrom (wsX0_valueOf) := ggX1_findsFrom_X0_valueOf
theorem dX1_findsFrom_0 : decode cX1_findsFrom 0 = .ok (.iload_n 1, 1) := by decide +kernel
theorem dX1_findsFrom_1 : decode cX1_findsFrom 1 = .ok (.bipush 6, 2) := by decide +kernel
theorem dX1_findsFrom_3 : decode cX1_findsFrom 3 = .ok (.if_icmp .lt 25, 3) := by decide +kernel
theorem dX1_findsFrom_6 : decode cX1_findsFrom 6 = .ok (.iload_n 2, 1) := by decide +kernel
theorem dX1_findsFrom_7 : decode cX1_findsFrom 7 = .ok (.ifCond .ne 19, 3) := by decide +kernel
theorem dX1_findsFrom_10 : decode cX1_findsFrom 10 = .ok (.aload_n 0, 1) := by decide +kernel
theorem dX1_findsFrom_11 : decode cX1_findsFrom 11 = .ok (.getfield 12, 3) := by decide +kernel
theorem dX1_findsFrom_14 : decode cX1_findsFrom 14 = .ok (.invokevirtual 26, 3) := by decide +kernel
theorem dX1_findsFrom_17 : decode cX1_findsFrom 17 = .ok (.lconst 0, 1) := by decide +kernel
theorem dX1_findsFrom_18 : decode cX1_findsFrom 18 = .ok (.lcmp, 1) := by decide +kernel
theorem dX1_findsFrom_19 : decode cX1_findsFrom 19 = .ok (.ifCond .eq 7, 3) := by decide +kernel
theorem dX1_findsFrom_22 : decode cX1_findsFrom 22 = .ok (.iconst 1, 1) := by decide +kernel
theorem dX1_findsFrom_23 : decode cX1_findsFrom 23 = .ok (.goto 4, 3) := by decide +kernel
theorem dX1_findsFrom_26 : decode cX1_findsFrom 26 = .ok (.iconst 0, 1) := by decide +kernel
theorem dX1_findsFrom_27 : decode cX1_findsFrom 27 = .ok (.ireturn, 1) := by decide +kernel
theorem dX1_findsFrom_28 : decode cX1_findsFrom 28 = .ok (.iload_n 1, 1) := by decide +kernel
theorem dX1_findsFrom_29 : decode cX1_findsFrom 29 = .ok (.iload 4, 2) := by decide +kernel
theorem dX1_findsFrom_31 : decode cX1_findsFrom 31 = .ok (.if_icmp .ne 24, 3) := by decide +kernel
theorem dX1_findsFrom_34 : decode cX1_findsFrom 34 = .ok (.aload_n 0, 1) := by decide +kernel
theorem dX1_findsFrom_35 : decode cX1_findsFrom 35 = .ok (.getfield 12, 3) := by decide +kernel
theorem dX1_findsFrom_38 : decode cX1_findsFrom 38 = .ok (.iload_n 1, 1) := by decide +kernel
theorem dX1_findsFrom_39 : decode cX1_findsFrom 39 = .ok (.iconst 0, 1) := by decide +kernel
theorem dX1_findsFrom_40 : decode cX1_findsFrom 40 = .ok (.invokevirtual 30, 3) := by decide +kernel
theorem dX1_findsFrom_43 : decode cX1_findsFrom 43 = .ok (.aload_n 0, 1) := by decide +kernel
theorem dX1_findsFrom_44 : decode cX1_findsFrom 44 = .ok (.iload_n 1, 1) := by decide +kernel
theorem dX1_findsFrom_45 : decode cX1_findsFrom 45 = .ok (.iconst 1, 1) := by decide +kernel
theorem dX1_findsFrom_46 : decode cX1_findsFrom 46 = .ok (.iadd, 1) := by decide +kernel
theorem dX1_findsFrom_47 : decode cX1_findsFrom 47 = .ok (.iload_n 2, 1) := by decide +kernel
theorem dX1_findsFrom_48 : decode cX1_findsFrom 48 = .ok (.aload_n 3, 1) := by decide +kernel
theorem dX1_findsFrom_49 : decode cX1_findsFrom 49 = .ok (.iload 4, 2) := by decide +kernel
theorem dX1_findsFrom_51 : decode cX1_findsFrom 51 = .ok (.invokevirtual 18, 3) := by decide +kernel
theorem dX1_findsFrom_54 : decode cX1_findsFrom 54 = .ok (.ireturn, 1) := by decide +kernel
theorem dX1_findsFrom_55 : decode cX1_findsFrom 55 = .ok (.aload_n 3, 1) := by decide +kernel
theorem dX1_findsFrom_56 : decode cX1_findsFrom 56 = .ok (.iload_n 1, 1) := by decide +kernel
theorem dX1_findsFrom_57 : decode cX1_findsFrom 57 = .ok (.invokevirtual 22, 3) := by decide +kernel
theorem dX1_findsFrom_60 : decode cX1_findsFrom 60 = .ok (.istore 5, 2) := by decide +kernel
theorem dX1_findsFrom_62 : decode cX1_findsFrom 62 = .ok (.getstatic 34, 3) := by decide +kernel
theorem dX1_findsFrom_65 : decode cX1_findsFrom 65 = .ok (.iload_n 1, 1) := by decide +kernel
theorem dX1_findsFrom_66 : decode cX1_findsFrom 66 = .ok (.iaload, 1) := by decide +kernel
theorem dX1_findsFrom_67 : decode cX1_findsFrom 67 = .ok (.iload 5, 2) := by decide +kernel
theorem dX1_findsFrom_69 : decode cX1_findsFrom 69 = .ok (.iload_n 2, 1) := by decide +kernel
theorem dX1_findsFrom_70 : decode cX1_findsFrom 70 = .ok (.iadd, 1) := by decide +kernel
theorem dX1_findsFrom_71 : decode cX1_findsFrom 71 = .ok (.invokestatic 38, 3) := by decide +kernel
theorem dX1_findsFrom_74 : decode cX1_findsFrom 74 = .ok (.istore 6, 2) := by decide +kernel
theorem dX1_findsFrom_76 : decode cX1_findsFrom 76 = .ok (.getstatic 44, 3) := by decide +kernel
theorem dX1_findsFrom_79 : decode cX1_findsFrom 79 = .ok (.iload_n 1, 1) := by decide +kernel
theorem dX1_findsFrom_80 : decode cX1_findsFrom 80 = .ok (.iaload, 1) := by decide +kernel
theorem dX1_findsFrom_81 : decode cX1_findsFrom 81 = .ok (.iload 5, 2) := by decide +kernel
theorem dX1_findsFrom_83 : decode cX1_findsFrom 83 = .ok (.iload_n 2, 1) := by decide +kernel
theorem dX1_findsFrom_84 : decode cX1_findsFrom 84 = .ok (.isub, 1) := by decide +kernel
theorem dX1_findsFrom_85 : decode cX1_findsFrom 85 = .ok (.invokestatic 47, 3) := by decide +kernel
theorem dX1_findsFrom_88 : decode cX1_findsFrom 88 = .ok (.istore 7, 2) := by decide +kernel
theorem dX1_findsFrom_90 : decode cX1_findsFrom 90 = .ok (.iload 7, 2) := by decide +kernel
theorem dX1_findsFrom_92 : decode cX1_findsFrom 92 = .ok (.iload 6, 2) := by decide +kernel
theorem dX1_findsFrom_94 : decode cX1_findsFrom 94 = .ok (.if_icmp .gt 44, 3) := by decide +kernel
theorem dX1_findsFrom_97 : decode cX1_findsFrom 97 = .ok (.aload_n 0, 1) := by decide +kernel
theorem dX1_findsFrom_98 : decode cX1_findsFrom 98 = .ok (.getfield 12, 3) := by decide +kernel
theorem dX1_findsFrom_101 : decode cX1_findsFrom 101 = .ok (.iload_n 1, 1) := by decide +kernel
theorem dX1_findsFrom_102 : decode cX1_findsFrom 102 = .ok (.iload 7, 2) := by decide +kernel
theorem dX1_findsFrom_104 : decode cX1_findsFrom 104 = .ok (.invokevirtual 30, 3) := by decide +kernel
theorem dX1_findsFrom_107 : decode cX1_findsFrom 107 = .ok (.aload_n 0, 1) := by decide +kernel
theorem dX1_findsFrom_108 : decode cX1_findsFrom 108 = .ok (.iload_n 1, 1) := by decide +kernel
theorem dX1_findsFrom_109 : decode cX1_findsFrom 109 = .ok (.iconst 1, 1) := by decide +kernel
theorem dX1_findsFrom_110 : decode cX1_findsFrom 110 = .ok (.iadd, 1) := by decide +kernel
theorem dX1_findsFrom_111 : decode cX1_findsFrom 111 = .ok (.iload_n 2, 1) := by decide +kernel
theorem dX1_findsFrom_112 : decode cX1_findsFrom 112 = .ok (.iload 7, 2) := by decide +kernel
theorem dX1_findsFrom_114 : decode cX1_findsFrom 114 = .ok (.iload 5, 2) := by decide +kernel
theorem dX1_findsFrom_116 : decode cX1_findsFrom 116 = .ok (.isub, 1) := by decide +kernel
theorem dX1_findsFrom_117 : decode cX1_findsFrom 117 = .ok (.invokestatic 50, 3) := by decide +kernel
theorem dX1_findsFrom_120 : decode cX1_findsFrom 120 = .ok (.isub, 1) := by decide +kernel
theorem dX1_findsFrom_121 : decode cX1_findsFrom 121 = .ok (.aload_n 3, 1) := by decide +kernel
theorem dX1_findsFrom_122 : decode cX1_findsFrom 122 = .ok (.iload 4, 2) := by decide +kernel
theorem dX1_findsFrom_124 : decode cX1_findsFrom 124 = .ok (.invokevirtual 18, 3) := by decide +kernel
theorem dX1_findsFrom_127 : decode cX1_findsFrom 127 = .ok (.ifCond .eq 5, 3) := by decide +kernel
theorem dX1_findsFrom_130 : decode cX1_findsFrom 130 = .ok (.iconst 1, 1) := by decide +kernel
theorem dX1_findsFrom_131 : decode cX1_findsFrom 131 = .ok (.ireturn, 1) := by decide +kernel
theorem dX1_findsFrom_132 : decode cX1_findsFrom 132 = .ok (.iinc 7 1, 3) := by decide +kernel
theorem dX1_findsFrom_135 : decode cX1_findsFrom 135 = .ok (.goto (-45), 3) := by decide +kernel
theorem dX1_findsFrom_138 : decode cX1_findsFrom 138 = .ok (.iconst 0, 1) := by decide +kernel
theorem dX1_findsFrom_139 : decode cX1_findsFrom 139 = .ok (.ireturn, 1) := by decide +kernel
set_option maxRecDepth 20000 in
theorem ggX2_init_X0_init : GoodIn wsX2_init wsX0_init := goodIn_r _ [12, 13, 2, 3, 8, 14, 15, 16, 17, 18, 23] (by decide +kernel) (by decide +kernel)
set_option maxRecDepth 20000 in
theorem gX2_init_X0_init_n11 : GoodIn wsX2_init (wsX0_init) := ggX2_init_X0_init
set_option maxRecDepth 20000 in
theorem ggX2_init_X2_changedIn : GoodIn wsX2_init wsX2_changedIn := goodIn_r _ [22] (by decide +kernel) (by decide +kernel)
set_option maxRecDepth 20000 in
theorem gX2_init_X2_changedIn : GoodIn wsX2_init (va_wsS RX2 25 yX2_changedIn wsX2_changedIn) := goodIn_app (goodIn_of _ (by decide +kernel)) ggX2_init_X2_changedIn
theorem dX2_init_0 : decode cX2_init 0 = .ok (.aload_n 0, 1) := by decide +kernel
theorem dX2_init_1 : decode cX2_init 1 = .ok (.invokespecial 3, 3) := by decide +kernel
theorem dX2_init_4 : decode cX2_init 4 = .ok (.aload_n 0, 1) := by decide +kernel
theorem dX2_init_5 : decode cX2_init 5 = .ok (.new 9, 3) := by decide +kernel
theorem dX2_init_8 : decode cX2_init 8 = .ok (.dup, 1) := by decide +kernel
theorem dX2_init_9 : decode cX2_init 9 = .ok (.invokespecial 11, 3) := by decide +kernel
theorem dX2_init_12 : decode cX2_init 12 = .ok (.putfield 12, 3) := by decide +kernel
theorem dX2_init_15 : decode cX2_init 15 = .ok (.aload_n 0, 1) := by decide +kernel
theorem dX2_init_16 : decode cX2_init 16 = .ok (.sipush 729, 3) := by decide +kernel
theorem dX2_init_19 : decode cX2_init 19 = .ok (.newarray .int, 2) := by decide +kernel
theorem dX2_init_21 : decode cX2_init 21 = .ok (.putfield 18, 3) := by decide +kernel
theorem dX2_init_24 : decode cX2_init 24 = .ok (.aload_n 0, 1) := by decide +kernel
theorem dX2_init_25 : decode cX2_init 25 = .ok (.sipush 729, 3) := by decide +kernel
theorem dX2_init_28 : decode cX2_init 28 = .ok (.newarray .int, 2) := by decide +kernel
theorem dX2_init_30 : decode cX2_init 30 = .ok (.putfield 22, 3) := by decide +kernel
theorem dX2_init_33 : decode cX2_init 33 = .ok (.iconst 0, 1) := by decide +kernel
theorem dX2_init_34 : decode cX2_init 34 = .ok (.istore_n 1, 1) := by decide +kernel
theorem dX2_init_35 : decode cX2_init 35 = .ok (.iload_n 1, 1) := by decide +kernel
theorem dX2_init_36 : decode cX2_init 36 = .ok (.sipush 729, 3) := by decide +kernel
theorem dX2_init_39 : decode cX2_init 39 = .ok (.if_icmp .ge 19, 3) := by decide +kernel
theorem dX2_init_42 : decode cX2_init 42 = .ok (.aload_n 0, 1) := by decide +kernel
theorem dX2_init_43 : decode cX2_init 43 = .ok (.getfield 18, 3) := by decide +kernel
theorem dX2_init_46 : decode cX2_init 46 = .ok (.iload_n 1, 1) := by decide +kernel
theorem dX2_init_47 : decode cX2_init 47 = .ok (.iload_n 1, 1) := by decide +kernel
theorem dX2_init_48 : decode cX2_init 48 = .ok (.invokestatic 25, 3) := by decide +kernel
theorem dX2_init_51 : decode cX2_init 51 = .ok (.iastore, 1) := by decide +kernel
theorem dX2_init_52 : decode cX2_init 52 = .ok (.iinc 1 1, 3) := by decide +kernel
theorem dX2_init_55 : decode cX2_init 55 = .ok (.goto (-20), 3) := by decide +kernel
theorem dX2_init_58 : decode cX2_init 58 = .ok (.return_, 1) := by decide +kernel
theorem dX2_changedIn_0 : decode cX2_changedIn 0 = .ok (.iconst 0, 1) := by decide +kernel
theorem dX2_changedIn_1 : decode cX2_changedIn 1 = .ok (.istore_n 1, 1) := by decide +kernel
