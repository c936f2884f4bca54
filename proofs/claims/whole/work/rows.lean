section
-- ===== PART A: goes FIRST, ahead of the names: the tables' words, and 'selects' of the private methods out of them =====
/-- a private method of a class that the tables say can be made, by its rows of tables_1 -/
def lw_okq (q : MethodName × Nat) : Prop := (q.1.cls ≠ "java/lang/invoke/MethodHandle" ∧ q.1.cls ≠ "java/lang/invoke/VarHandle") ∧ Cond.instantiable q.1.cls q.2 ∈ tables_1 ∧ Cond.privateMethod q.1 ∈ tables_1 ∧ Cond.instanceMethod q.1 ∈ tables_1
theorem lw_p0 : lw_okq (⟨"LeakingClocks", "changed", "(I)I"⟩, 8) := ⟨⟨by decide +kernel, by decide +kernel⟩, List.mem_of_getElem? (i := 11) (by decide +kernel), List.mem_of_getElem? (i := 305) (by decide +kernel), List.mem_of_getElem? (i := 306) (by decide +kernel)⟩
theorem lw_p1 : lw_okq (⟨"LeakingClocks", "dropOldestState", "()V"⟩, 8) := ⟨⟨by decide +kernel, by decide +kernel⟩, List.mem_of_getElem? (i := 11) (by decide +kernel), List.mem_of_getElem? (i := 314) (by decide +kernel), List.mem_of_getElem? (i := 315) (by decide +kernel)⟩
theorem lw_p2 : lw_okq (⟨"LeakingClocks$State", "roomAbove", "(I)I"⟩, 13) := ⟨⟨by decide +kernel, by decide +kernel⟩, List.mem_of_getElem? (i := 19) (by decide +kernel), List.mem_of_getElem? (i := 352) (by decide +kernel), List.mem_of_getElem? (i := 353) (by decide +kernel)⟩
theorem lw_p3 : lw_okq (⟨"LeakingClocks$State", "enterUpper", "(LLeakingClocks$Clock;I)I"⟩, 13) := ⟨⟨by decide +kernel, by decide +kernel⟩, List.mem_of_getElem? (i := 19) (by decide +kernel), List.mem_of_getElem? (i := 356) (by decide +kernel), List.mem_of_getElem? (i := 357) (by decide +kernel)⟩
theorem lw_p4 : lw_okq (⟨"LeakingClocks$State", "dripOf", "(LLeakingClocks$Clock;)I"⟩, 13) := ⟨⟨by decide +kernel, by decide +kernel⟩, List.mem_of_getElem? (i := 19) (by decide +kernel), List.mem_of_getElem? (i := 417) (by decide +kernel), List.mem_of_getElem? (i := 418) (by decide +kernel)⟩
theorem lw_p5 : lw_okq (⟨"LeakingClocks$State", "goOn", "(LLeakingClocks$Clock;I)V"⟩, 13) := ⟨⟨by decide +kernel, by decide +kernel⟩, List.mem_of_getElem? (i := 19) (by decide +kernel), List.mem_of_getElem? (i := 430) (by decide +kernel), List.mem_of_getElem? (i := 431) (by decide +kernel)⟩
theorem lw_p6 : lw_okq (⟨"LeakingClocks$State", "strokeOf", "(LLeakingClocks$Clock;)I"⟩, 13) := ⟨⟨by decide +kernel, by decide +kernel⟩, List.mem_of_getElem? (i := 19) (by decide +kernel), List.mem_of_getElem? (i := 434) (by decide +kernel), List.mem_of_getElem? (i := 435) (by decide +kernel)⟩
theorem lw_p7 : lw_okq (⟨"LeakingClocks$State", "isNoon", "()Z"⟩, 13) := ⟨⟨by decide +kernel, by decide +kernel⟩, List.mem_of_getElem? (i := 19) (by decide +kernel), List.mem_of_getElem? (i := 442) (by decide +kernel), List.mem_of_getElem? (i := 443) (by decide +kernel)⟩
theorem lw_p8 : lw_okq (⟨"LeakingClocks$State", "noonTicks", "()I"⟩, 13) := ⟨⟨by decide +kernel, by decide +kernel⟩, List.mem_of_getElem? (i := 19) (by decide +kernel), List.mem_of_getElem? (i := 450) (by decide +kernel), List.mem_of_getElem? (i := 451) (by decide +kernel)⟩
theorem lw_p9 : lw_okq (⟨"LeakingClocks$State", "noonComes", "()V"⟩, 13) := ⟨⟨by decide +kernel, by decide +kernel⟩, List.mem_of_getElem? (i := 19) (by decide +kernel), List.mem_of_getElem? (i := 454) (by decide +kernel), List.mem_of_getElem? (i := 455) (by decide +kernel)⟩
theorem lw_p10 : lw_okq (⟨"LeakingClocks$Book", "place", "(I)I"⟩, 4) := ⟨⟨by decide +kernel, by decide +kernel⟩, List.mem_of_getElem? (i := 58) (by decide +kernel), List.mem_of_getElem? (i := 462) (by decide +kernel), List.mem_of_getElem? (i := 463) (by decide +kernel)⟩
theorem lw_p11 : lw_okq (⟨"LeakingClocks$State", "isOff", "(I)Z"⟩, 13) := ⟨⟨by decide +kernel, by decide +kernel⟩, List.mem_of_getElem? (i := 19) (by decide +kernel), List.mem_of_getElem? (i := 476) (by decide +kernel), List.mem_of_getElem? (i := 477) (by decide +kernel)⟩
theorem lw_p12 : lw_okq (⟨"LeakingClocks", "isImage", "(I)Z"⟩, 8) := ⟨⟨by decide +kernel, by decide +kernel⟩, List.mem_of_getElem? (i := 11) (by decide +kernel), List.mem_of_getElem? (i := 511) (by decide +kernel), List.mem_of_getElem? (i := 512) (by decide +kernel)⟩
theorem lw_p13 : lw_okq (⟨"LeakingClocks", "noonErrorWith", "(II)I"⟩, 8) := ⟨⟨by decide +kernel, by decide +kernel⟩, List.mem_of_getElem? (i := 11) (by decide +kernel), List.mem_of_getElem? (i := 591) (by decide +kernel), List.mem_of_getElem? (i := 592) (by decide +kernel)⟩
theorem lw_p14 : lw_okq (⟨"LeakingClocks$State", "sizeOfError", "(I)I"⟩, 13) := ⟨⟨by decide +kernel, by decide +kernel⟩, List.mem_of_getElem? (i := 19) (by decide +kernel), List.mem_of_getElem? (i := 609) (by decide +kernel), List.mem_of_getElem? (i := 610) (by decide +kernel)⟩
theorem lw_p15 : lw_okq (⟨"LeakingClocks", "tryOrders", "()I"⟩, 8) := ⟨⟨by decide +kernel, by decide +kernel⟩, List.mem_of_getElem? (i := 11) (by decide +kernel), List.mem_of_getElem? (i := 660) (by decide +kernel), List.mem_of_getElem? (i := 661) (by decide +kernel)⟩
def lw_privs_1 : List (MethodName × Nat) := [(⟨"LeakingClocks", "changed", "(I)I"⟩, 8), (⟨"LeakingClocks", "dropOldestState", "()V"⟩, 8), (⟨"LeakingClocks$State", "roomAbove", "(I)I"⟩, 13), (⟨"LeakingClocks$State", "enterUpper", "(LLeakingClocks$Clock;I)I"⟩, 13), (⟨"LeakingClocks$State", "dripOf", "(LLeakingClocks$Clock;)I"⟩, 13), (⟨"LeakingClocks$State", "goOn", "(LLeakingClocks$Clock;I)V"⟩, 13), (⟨"LeakingClocks$State", "strokeOf", "(LLeakingClocks$Clock;)I"⟩, 13), (⟨"LeakingClocks$State", "isNoon", "()Z"⟩, 13), (⟨"LeakingClocks$State", "noonTicks", "()I"⟩, 13), (⟨"LeakingClocks$State", "noonComes", "()V"⟩, 13), (⟨"LeakingClocks$Book", "place", "(I)I"⟩, 4), (⟨"LeakingClocks$State", "isOff", "(I)Z"⟩, 13), (⟨"LeakingClocks", "isImage", "(I)Z"⟩, 8), (⟨"LeakingClocks", "noonErrorWith", "(II)I"⟩, 8), (⟨"LeakingClocks$State", "sizeOfError", "(I)I"⟩, 13), (⟨"LeakingClocks", "tryOrders", "()I"⟩, 8)]
theorem lw_r1 : ∀ q ∈ lw_privs_1, lw_okq q := List.forall_mem_cons.mpr ⟨lw_p0, List.forall_mem_cons.mpr ⟨lw_p1, List.forall_mem_cons.mpr ⟨lw_p2, List.forall_mem_cons.mpr ⟨lw_p3, List.forall_mem_cons.mpr ⟨lw_p4, List.forall_mem_cons.mpr ⟨lw_p5, List.forall_mem_cons.mpr ⟨lw_p6, List.forall_mem_cons.mpr ⟨lw_p7, List.forall_mem_cons.mpr ⟨lw_p8, List.forall_mem_cons.mpr ⟨lw_p9, List.forall_mem_cons.mpr ⟨lw_p10, List.forall_mem_cons.mpr ⟨lw_p11, List.forall_mem_cons.mpr ⟨lw_p12, List.forall_mem_cons.mpr ⟨lw_p13, List.forall_mem_cons.mpr ⟨lw_p14, List.forall_mem_cons.mpr ⟨lw_p15, fun _ h => absurd h List.not_mem_nil⟩⟩⟩⟩⟩⟩⟩⟩⟩⟩⟩⟩⟩⟩⟩⟩
theorem lw_p16 : lw_okq (⟨"LeakingClocks$Text", "readForm", "()Z"⟩, 8) := ⟨⟨by decide +kernel, by decide +kernel⟩, List.mem_of_getElem? (i := 199) (by decide +kernel), List.mem_of_getElem? (i := 672) (by decide +kernel), List.mem_of_getElem? (i := 673) (by decide +kernel)⟩
theorem lw_p17 : lw_okq (⟨"LeakingClocks$Text", "signHere", "()C"⟩, 8) := ⟨⟨by decide +kernel, by decide +kernel⟩, List.mem_of_getElem? (i := 199) (by decide +kernel), List.mem_of_getElem? (i := 676) (by decide +kernel), List.mem_of_getElem? (i := 677) (by decide +kernel)⟩
theorem lw_p18 : lw_okq (⟨"LeakingClocks$Text", "readNumber", "(I)Z"⟩, 8) := ⟨⟨by decide +kernel, by decide +kernel⟩, List.mem_of_getElem? (i := 199) (by decide +kernel), List.mem_of_getElem? (i := 683) (by decide +kernel), List.mem_of_getElem? (i := 684) (by decide +kernel)⟩
theorem lw_p19 : lw_okq (⟨"LeakingClocks$Text", "readSign", "(C)Z"⟩, 8) := ⟨⟨by decide +kernel, by decide +kernel⟩, List.mem_of_getElem? (i := 199) (by decide +kernel), List.mem_of_getElem? (i := 691) (by decide +kernel), List.mem_of_getElem? (i := 692) (by decide +kernel)⟩
theorem lw_p20 : lw_okq (⟨"LeakingClocksModel", "note", "()V"⟩, 15) := ⟨⟨by decide +kernel, by decide +kernel⟩, List.mem_of_getElem? (i := 709) (by decide +kernel), List.mem_of_getElem? (i := 765) (by decide +kernel), List.mem_of_getElem? (i := 766) (by decide +kernel)⟩
theorem lw_p21 : lw_okq (⟨"LeakingClocksModel", "clockNow", "(III)I"⟩, 15) := ⟨⟨by decide +kernel, by decide +kernel⟩, List.mem_of_getElem? (i := 709) (by decide +kernel), List.mem_of_getElem? (i := 769) (by decide +kernel), List.mem_of_getElem? (i := 770) (by decide +kernel)⟩
theorem lw_p22 : lw_okq (⟨"LeakingClocksModel", "put", "(III)V"⟩, 15) := ⟨⟨by decide +kernel, by decide +kernel⟩, List.mem_of_getElem? (i := 709) (by decide +kernel), List.mem_of_getElem? (i := 778) (by decide +kernel), List.mem_of_getElem? (i := 779) (by decide +kernel)⟩
theorem lw_p23 : lw_okq (⟨"LeakingClocksModel", "lay", "(I)V"⟩, 15) := ⟨⟨by decide +kernel, by decide +kernel⟩, List.mem_of_getElem? (i := 709) (by decide +kernel), List.mem_of_getElem? (i := 782) (by decide +kernel), List.mem_of_getElem? (i := 783) (by decide +kernel)⟩
theorem lw_p24 : lw_okq (⟨"LeakingClocksModel", "trueHour", "()I"⟩, 15) := ⟨⟨by decide +kernel, by decide +kernel⟩, List.mem_of_getElem? (i := 709) (by decide +kernel), List.mem_of_getElem? (i := 786) (by decide +kernel), List.mem_of_getElem? (i := 787) (by decide +kernel)⟩
theorem lw_p25 : lw_okq (⟨"LeakingClocksModel", "drops", "(I)I"⟩, 15) := ⟨⟨by decide +kernel, by decide +kernel⟩, List.mem_of_getElem? (i := 709) (by decide +kernel), List.mem_of_getElem? (i := 790) (by decide +kernel), List.mem_of_getElem? (i := 791) (by decide +kernel)⟩
theorem lw_p26 : lw_okq (⟨"LeakingClocksModel", "of", "(II)I"⟩, 15) := ⟨⟨by decide +kernel, by decide +kernel⟩, List.mem_of_getElem? (i := 709) (by decide +kernel), List.mem_of_getElem? (i := 794) (by decide +kernel), List.mem_of_getElem? (i := 795) (by decide +kernel)⟩
theorem lw_p27 : lw_okq (⟨"LeakingClocksModel", "recorded", "(I)I"⟩, 15) := ⟨⟨by decide +kernel, by decide +kernel⟩, List.mem_of_getElem? (i := 709) (by decide +kernel), List.mem_of_getElem? (i := 798) (by decide +kernel), List.mem_of_getElem? (i := 799) (by decide +kernel)⟩
theorem lw_p28 : lw_okq (⟨"LeakingClocksModel", "leadNow", "(II)I"⟩, 15) := ⟨⟨by decide +kernel, by decide +kernel⟩, List.mem_of_getElem? (i := 709) (by decide +kernel), List.mem_of_getElem? (i := 809) (by decide +kernel), List.mem_of_getElem? (i := 810) (by decide +kernel)⟩
theorem lw_p29 : lw_okq (⟨"LeakingClocksModel", "isClock", "(I)Z"⟩, 15) := ⟨⟨by decide +kernel, by decide +kernel⟩, List.mem_of_getElem? (i := 709) (by decide +kernel), List.mem_of_getElem? (i := 813) (by decide +kernel), List.mem_of_getElem? (i := 814) (by decide +kernel)⟩
theorem lw_p30 : lw_okq (⟨"LeakingClocksModel", "pourNow", "(II)I"⟩, 15) := ⟨⟨by decide +kernel, by decide +kernel⟩, List.mem_of_getElem? (i := 709) (by decide +kernel), List.mem_of_getElem? (i := 822) (by decide +kernel), List.mem_of_getElem? (i := 823) (by decide +kernel)⟩
theorem lw_p31 : lw_okq (⟨"LeakingClocksModel", "reason", "(II)I"⟩, 15) := ⟨⟨by decide +kernel, by decide +kernel⟩, List.mem_of_getElem? (i := 709) (by decide +kernel), List.mem_of_getElem? (i := 826) (by decide +kernel), List.mem_of_getElem? (i := 827) (by decide +kernel)⟩
def lw_privs_2 : List (MethodName × Nat) := [(⟨"LeakingClocks$Text", "readForm", "()Z"⟩, 8), (⟨"LeakingClocks$Text", "signHere", "()C"⟩, 8), (⟨"LeakingClocks$Text", "readNumber", "(I)Z"⟩, 8), (⟨"LeakingClocks$Text", "readSign", "(C)Z"⟩, 8), (⟨"LeakingClocksModel", "note", "()V"⟩, 15), (⟨"LeakingClocksModel", "clockNow", "(III)I"⟩, 15), (⟨"LeakingClocksModel", "put", "(III)V"⟩, 15), (⟨"LeakingClocksModel", "lay", "(I)V"⟩, 15), (⟨"LeakingClocksModel", "trueHour", "()I"⟩, 15), (⟨"LeakingClocksModel", "drops", "(I)I"⟩, 15), (⟨"LeakingClocksModel", "of", "(II)I"⟩, 15), (⟨"LeakingClocksModel", "recorded", "(I)I"⟩, 15), (⟨"LeakingClocksModel", "leadNow", "(II)I"⟩, 15), (⟨"LeakingClocksModel", "isClock", "(I)Z"⟩, 15), (⟨"LeakingClocksModel", "pourNow", "(II)I"⟩, 15), (⟨"LeakingClocksModel", "reason", "(II)I"⟩, 15)]
theorem lw_r2 : ∀ q ∈ lw_privs_2, lw_okq q := List.forall_mem_cons.mpr ⟨lw_p16, List.forall_mem_cons.mpr ⟨lw_p17, List.forall_mem_cons.mpr ⟨lw_p18, List.forall_mem_cons.mpr ⟨lw_p19, List.forall_mem_cons.mpr ⟨lw_p20, List.forall_mem_cons.mpr ⟨lw_p21, List.forall_mem_cons.mpr ⟨lw_p22, List.forall_mem_cons.mpr ⟨lw_p23, List.forall_mem_cons.mpr ⟨lw_p24, List.forall_mem_cons.mpr ⟨lw_p25, List.forall_mem_cons.mpr ⟨lw_p26, List.forall_mem_cons.mpr ⟨lw_p27, List.forall_mem_cons.mpr ⟨lw_p28, List.forall_mem_cons.mpr ⟨lw_p29, List.forall_mem_cons.mpr ⟨lw_p30, List.forall_mem_cons.mpr ⟨lw_p31, fun _ h => absurd h List.not_mem_nil⟩⟩⟩⟩⟩⟩⟩⟩⟩⟩⟩⟩⟩⟩⟩⟩
theorem lw_p32 : lw_okq (⟨"LeakingClocksModel", "add", "(III)V"⟩, 15) := ⟨⟨by decide +kernel, by decide +kernel⟩, List.mem_of_getElem? (i := 709) (by decide +kernel), List.mem_of_getElem? (i := 833) (by decide +kernel), List.mem_of_getElem? (i := 834) (by decide +kernel)⟩
theorem lw_p33 : lw_okq (⟨"LeakingClocksModel", "fill", "(II)I"⟩, 15) := ⟨⟨by decide +kernel, by decide +kernel⟩, List.mem_of_getElem? (i := 709) (by decide +kernel), List.mem_of_getElem? (i := 837) (by decide +kernel), List.mem_of_getElem? (i := 838) (by decide +kernel)⟩
theorem lw_p34 : lw_okq (⟨"LeakingClocksModel", "waxNow", "(II)I"⟩, 15) := ⟨⟨by decide +kernel, by decide +kernel⟩, List.mem_of_getElem? (i := 709) (by decide +kernel), List.mem_of_getElem? (i := 845) (by decide +kernel), List.mem_of_getElem? (i := 846) (by decide +kernel)⟩
theorem lw_p35 : lw_okq (⟨"LeakingClocksModel", "pitchNow", "(II)I"⟩, 15) := ⟨⟨by decide +kernel, by decide +kernel⟩, List.mem_of_getElem? (i := 709) (by decide +kernel), List.mem_of_getElem? (i := 853) (by decide +kernel), List.mem_of_getElem? (i := 854) (by decide +kernel)⟩
theorem lw_p36 : lw_okq (⟨"LeakingClocksModel", "makeTrue", "(I)V"⟩, 15) := ⟨⟨by decide +kernel, by decide +kernel⟩, List.mem_of_getElem? (i := 709) (by decide +kernel), List.mem_of_getElem? (i := 857) (by decide +kernel), List.mem_of_getElem? (i := 858) (by decide +kernel)⟩
theorem lw_p37 : lw_okq (⟨"LeakingClocksModel", "trueNow", "(I)I"⟩, 15) := ⟨⟨by decide +kernel, by decide +kernel⟩, List.mem_of_getElem? (i := 709) (by decide +kernel), List.mem_of_getElem? (i := 865) (by decide +kernel), List.mem_of_getElem? (i := 866) (by decide +kernel)⟩
theorem lw_p38 : lw_okq (⟨"LeakingClocksModel", "error", "(I)I"⟩, 15) := ⟨⟨by decide +kernel, by decide +kernel⟩, List.mem_of_getElem? (i := 709) (by decide +kernel), List.mem_of_getElem? (i := 869) (by decide +kernel), List.mem_of_getElem? (i := 870) (by decide +kernel)⟩
theorem lw_p39 : lw_okq (⟨"LeakingClocksModel", "hourOf", "(I)I"⟩, 15) := ⟨⟨by decide +kernel, by decide +kernel⟩, List.mem_of_getElem? (i := 709) (by decide +kernel), List.mem_of_getElem? (i := 873) (by decide +kernel), List.mem_of_getElem? (i := 874) (by decide +kernel)⟩
theorem lw_p40 : lw_okq (⟨"LeakingClocksModel", "ticksNow", "(I)I"⟩, 15) := ⟨⟨by decide +kernel, by decide +kernel⟩, List.mem_of_getElem? (i := 709) (by decide +kernel), List.mem_of_getElem? (i := 884) (by decide +kernel), List.mem_of_getElem? (i := 885) (by decide +kernel)⟩
theorem lw_p41 : lw_okq (⟨"LeakingClocksModel", "tick", "()I"⟩, 15) := ⟨⟨by decide +kernel, by decide +kernel⟩, List.mem_of_getElem? (i := 709) (by decide +kernel), List.mem_of_getElem? (i := 889) (by decide +kernel), List.mem_of_getElem? (i := 890) (by decide +kernel)⟩
theorem lw_p42 : lw_okq (⟨"LeakingClocksModel", "pass", "()I"⟩, 15) := ⟨⟨by decide +kernel, by decide +kernel⟩, List.mem_of_getElem? (i := 709) (by decide +kernel), List.mem_of_getElem? (i := 893) (by decide +kernel), List.mem_of_getElem? (i := 894) (by decide +kernel)⟩
theorem lw_p43 : lw_okq (⟨"LeakingClocksModel", "drip", "(I)I"⟩, 15) := ⟨⟨by decide +kernel, by decide +kernel⟩, List.mem_of_getElem? (i := 709) (by decide +kernel), List.mem_of_getElem? (i := 897) (by decide +kernel), List.mem_of_getElem? (i := 898) (by decide +kernel)⟩
theorem lw_p44 : lw_okq (⟨"LeakingClocksModel", "dripOf", "(I)I"⟩, 15) := ⟨⟨by decide +kernel, by decide +kernel⟩, List.mem_of_getElem? (i := 709) (by decide +kernel), List.mem_of_getElem? (i := 901) (by decide +kernel), List.mem_of_getElem? (i := 902) (by decide +kernel)⟩
theorem lw_p45 : lw_okq (⟨"LeakingClocksModel", "goOn", "(II)V"⟩, 15) := ⟨⟨by decide +kernel, by decide +kernel⟩, List.mem_of_getElem? (i := 709) (by decide +kernel), List.mem_of_getElem? (i := 905) (by decide +kernel), List.mem_of_getElem? (i := 906) (by decide +kernel)⟩
theorem lw_p46 : lw_okq (⟨"LeakingClocksModel", "rise", "(II)V"⟩, 15) := ⟨⟨by decide +kernel, by decide +kernel⟩, List.mem_of_getElem? (i := 709) (by decide +kernel), List.mem_of_getElem? (i := 909) (by decide +kernel), List.mem_of_getElem? (i := 910) (by decide +kernel)⟩
theorem lw_p47 : lw_okq (⟨"LeakingClocksModel", "stroke", "(I)V"⟩, 15) := ⟨⟨by decide +kernel, by decide +kernel⟩, List.mem_of_getElem? (i := 709) (by decide +kernel), List.mem_of_getElem? (i := 913) (by decide +kernel), List.mem_of_getElem? (i := 914) (by decide +kernel)⟩
def lw_privs_3 : List (MethodName × Nat) := [(⟨"LeakingClocksModel", "add", "(III)V"⟩, 15), (⟨"LeakingClocksModel", "fill", "(II)I"⟩, 15), (⟨"LeakingClocksModel", "waxNow", "(II)I"⟩, 15), (⟨"LeakingClocksModel", "pitchNow", "(II)I"⟩, 15), (⟨"LeakingClocksModel", "makeTrue", "(I)V"⟩, 15), (⟨"LeakingClocksModel", "trueNow", "(I)I"⟩, 15), (⟨"LeakingClocksModel", "error", "(I)I"⟩, 15), (⟨"LeakingClocksModel", "hourOf", "(I)I"⟩, 15), (⟨"LeakingClocksModel", "ticksNow", "(I)I"⟩, 15), (⟨"LeakingClocksModel", "tick", "()I"⟩, 15), (⟨"LeakingClocksModel", "pass", "()I"⟩, 15), (⟨"LeakingClocksModel", "drip", "(I)I"⟩, 15), (⟨"LeakingClocksModel", "dripOf", "(I)I"⟩, 15), (⟨"LeakingClocksModel", "goOn", "(II)V"⟩, 15), (⟨"LeakingClocksModel", "rise", "(II)V"⟩, 15), (⟨"LeakingClocksModel", "stroke", "(I)V"⟩, 15)]
theorem lw_r3 : ∀ q ∈ lw_privs_3, lw_okq q := List.forall_mem_cons.mpr ⟨lw_p32, List.forall_mem_cons.mpr ⟨lw_p33, List.forall_mem_cons.mpr ⟨lw_p34, List.forall_mem_cons.mpr ⟨lw_p35, List.forall_mem_cons.mpr ⟨lw_p36, List.forall_mem_cons.mpr ⟨lw_p37, List.forall_mem_cons.mpr ⟨lw_p38, List.forall_mem_cons.mpr ⟨lw_p39, List.forall_mem_cons.mpr ⟨lw_p40, List.forall_mem_cons.mpr ⟨lw_p41, List.forall_mem_cons.mpr ⟨lw_p42, List.forall_mem_cons.mpr ⟨lw_p43, List.forall_mem_cons.mpr ⟨lw_p44, List.forall_mem_cons.mpr ⟨lw_p45, List.forall_mem_cons.mpr ⟨lw_p46, List.forall_mem_cons.mpr ⟨lw_p47, fun _ h => absurd h List.not_mem_nil⟩⟩⟩⟩⟩⟩⟩⟩⟩⟩⟩⟩⟩⟩⟩⟩
theorem lw_p48 : lw_okq (⟨"LeakingClocksModel", "widen", "(I)V"⟩, 15) := ⟨⟨by decide +kernel, by decide +kernel⟩, List.mem_of_getElem? (i := 709) (by decide +kernel), List.mem_of_getElem? (i := 917) (by decide +kernel), List.mem_of_getElem? (i := 918) (by decide +kernel)⟩
theorem lw_p49 : lw_okq (⟨"LeakingClocksModel", "isNoon", "()Z"⟩, 15) := ⟨⟨by decide +kernel, by decide +kernel⟩, List.mem_of_getElem? (i := 709) (by decide +kernel), List.mem_of_getElem? (i := 921) (by decide +kernel), List.mem_of_getElem? (i := 922) (by decide +kernel)⟩
theorem lw_p50 : lw_okq (⟨"LeakingClocksModel", "noon", "()V"⟩, 15) := ⟨⟨by decide +kernel, by decide +kernel⟩, List.mem_of_getElem? (i := 709) (by decide +kernel), List.mem_of_getElem? (i := 925) (by decide +kernel), List.mem_of_getElem? (i := 926) (by decide +kernel)⟩
theorem lw_p51 : lw_okq (⟨"LeakingClocksModel", "book", "()V"⟩, 15) := ⟨⟨by decide +kernel, by decide +kernel⟩, List.mem_of_getElem? (i := 709) (by decide +kernel), List.mem_of_getElem? (i := 929) (by decide +kernel), List.mem_of_getElem? (i := 930) (by decide +kernel)⟩
theorem lw_p52 : lw_okq (⟨"LeakingClocksModel", "isOff", "(I)Z"⟩, 15) := ⟨⟨by decide +kernel, by decide +kernel⟩, List.mem_of_getElem? (i := 709) (by decide +kernel), List.mem_of_getElem? (i := 933) (by decide +kernel), List.mem_of_getElem? (i := 934) (by decide +kernel)⟩
theorem lw_p53 : lw_okq (⟨"LeakingClocksModel", "size", "(I)I"⟩, 15) := ⟨⟨by decide +kernel, by decide +kernel⟩, List.mem_of_getElem? (i := 709) (by decide +kernel), List.mem_of_getElem? (i := 937) (by decide +kernel), List.mem_of_getElem? (i := 938) (by decide +kernel)⟩
theorem lw_p54 : lw_okq (⟨"LeakingClocksModel", "setNow", "(II)I"⟩, 15) := ⟨⟨by decide +kernel, by decide +kernel⟩, List.mem_of_getElem? (i := 709) (by decide +kernel), List.mem_of_getElem? (i := 945) (by decide +kernel), List.mem_of_getElem? (i := 946) (by decide +kernel)⟩
theorem lw_p55 : lw_okq (⟨"LeakingClocksModel", "property", "(II)I"⟩, 15) := ⟨⟨by decide +kernel, by decide +kernel⟩, List.mem_of_getElem? (i := 709) (by decide +kernel), List.mem_of_getElem? (i := 968) (by decide +kernel), List.mem_of_getElem? (i := 969) (by decide +kernel)⟩
theorem lw_p56 : lw_okq (⟨"LeakingClocksModel", "sum", "(I)I"⟩, 15) := ⟨⟨by decide +kernel, by decide +kernel⟩, List.mem_of_getElem? (i := 709) (by decide +kernel), List.mem_of_getElem? (i := 981) (by decide +kernel), List.mem_of_getElem? (i := 982) (by decide +kernel)⟩
theorem lw_p57 : lw_okq (⟨"LeakingClocksModel", "putAside", "()V"⟩, 15) := ⟨⟨by decide +kernel, by decide +kernel⟩, List.mem_of_getElem? (i := 709) (by decide +kernel), List.mem_of_getElem? (i := 997) (by decide +kernel), List.mem_of_getElem? (i := 998) (by decide +kernel)⟩
theorem lw_p58 : lw_okq (⟨"LeakingClocksModel", "putBack", "()V"⟩, 15) := ⟨⟨by decide +kernel, by decide +kernel⟩, List.mem_of_getElem? (i := 709) (by decide +kernel), List.mem_of_getElem? (i := 1001) (by decide +kernel), List.mem_of_getElem? (i := 1002) (by decide +kernel)⟩
theorem lw_p59 : lw_okq (⟨"LeakingClocksModel", "errorAtNoon", "(II)I"⟩, 15) := ⟨⟨by decide +kernel, by decide +kernel⟩, List.mem_of_getElem? (i := 709) (by decide +kernel), List.mem_of_getElem? (i := 1009) (by decide +kernel), List.mem_of_getElem? (i := 1010) (by decide +kernel)⟩
theorem lw_p60 : lw_okq (⟨"LeakingClocksModel", "waxFor", "(I)I"⟩, 15) := ⟨⟨by decide +kernel, by decide +kernel⟩, List.mem_of_getElem? (i := 709) (by decide +kernel), List.mem_of_getElem? (i := 1017) (by decide +kernel), List.mem_of_getElem? (i := 1018) (by decide +kernel)⟩
theorem lw_p61 : lw_okq (⟨"LeakingClocksModel", "rankOf", "(I)I"⟩, 15) := ⟨⟨by decide +kernel, by decide +kernel⟩, List.mem_of_getElem? (i := 709) (by decide +kernel), List.mem_of_getElem? (i := 1025) (by decide +kernel), List.mem_of_getElem? (i := 1026) (by decide +kernel)⟩
theorem lw_p62 : lw_okq (⟨"LeakingClocksModel", "number", "(I)I"⟩, 15) := ⟨⟨by decide +kernel, by decide +kernel⟩, List.mem_of_getElem? (i := 709) (by decide +kernel), List.mem_of_getElem? (i := 1047) (by decide +kernel), List.mem_of_getElem? (i := 1048) (by decide +kernel)⟩
theorem lw_p63 : lw_okq (⟨"LeakingClocksModel", "clocksOff", "()I"⟩, 15) := ⟨⟨by decide +kernel, by decide +kernel⟩, List.mem_of_getElem? (i := 709) (by decide +kernel), List.mem_of_getElem? (i := 1051) (by decide +kernel), List.mem_of_getElem? (i := 1052) (by decide +kernel)⟩
def lw_privs_4 : List (MethodName × Nat) := [(⟨"LeakingClocksModel", "widen", "(I)V"⟩, 15), (⟨"LeakingClocksModel", "isNoon", "()Z"⟩, 15), (⟨"LeakingClocksModel", "noon", "()V"⟩, 15), (⟨"LeakingClocksModel", "book", "()V"⟩, 15), (⟨"LeakingClocksModel", "isOff", "(I)Z"⟩, 15), (⟨"LeakingClocksModel", "size", "(I)I"⟩, 15), (⟨"LeakingClocksModel", "setNow", "(II)I"⟩, 15), (⟨"LeakingClocksModel", "property", "(II)I"⟩, 15), (⟨"LeakingClocksModel", "sum", "(I)I"⟩, 15), (⟨"LeakingClocksModel", "putAside", "()V"⟩, 15), (⟨"LeakingClocksModel", "putBack", "()V"⟩, 15), (⟨"LeakingClocksModel", "errorAtNoon", "(II)I"⟩, 15), (⟨"LeakingClocksModel", "waxFor", "(I)I"⟩, 15), (⟨"LeakingClocksModel", "rankOf", "(I)I"⟩, 15), (⟨"LeakingClocksModel", "number", "(I)I"⟩, 15), (⟨"LeakingClocksModel", "clocksOff", "()I"⟩, 15)]
theorem lw_r4 : ∀ q ∈ lw_privs_4, lw_okq q := List.forall_mem_cons.mpr ⟨lw_p48, List.forall_mem_cons.mpr ⟨lw_p49, List.forall_mem_cons.mpr ⟨lw_p50, List.forall_mem_cons.mpr ⟨lw_p51, List.forall_mem_cons.mpr ⟨lw_p52, List.forall_mem_cons.mpr ⟨lw_p53, List.forall_mem_cons.mpr ⟨lw_p54, List.forall_mem_cons.mpr ⟨lw_p55, List.forall_mem_cons.mpr ⟨lw_p56, List.forall_mem_cons.mpr ⟨lw_p57, List.forall_mem_cons.mpr ⟨lw_p58, List.forall_mem_cons.mpr ⟨lw_p59, List.forall_mem_cons.mpr ⟨lw_p60, List.forall_mem_cons.mpr ⟨lw_p61, List.forall_mem_cons.mpr ⟨lw_p62, List.forall_mem_cons.mpr ⟨lw_p63, fun _ h => absurd h List.not_mem_nil⟩⟩⟩⟩⟩⟩⟩⟩⟩⟩⟩⟩⟩⟩⟩⟩
theorem lw_p64 : lw_okq (⟨"LeakingClocksModel", "clocksEmpty", "()I"⟩, 15) := ⟨⟨by decide +kernel, by decide +kernel⟩, List.mem_of_getElem? (i := 709) (by decide +kernel), List.mem_of_getElem? (i := 1055) (by decide +kernel), List.mem_of_getElem? (i := 1056) (by decide +kernel)⟩
theorem lw_p65 : lw_okq (⟨"LeakingClocksModel", "doOrders", "()V"⟩, 15) := ⟨⟨by decide +kernel, by decide +kernel⟩, List.mem_of_getElem? (i := 709) (by decide +kernel), List.mem_of_getElem? (i := 1071) (by decide +kernel), List.mem_of_getElem? (i := 1072) (by decide +kernel)⟩
theorem lw_p66 : lw_okq (⟨"LeakingClocksModel", "readOrder", "()Z"⟩, 15) := ⟨⟨by decide +kernel, by decide +kernel⟩, List.mem_of_getElem? (i := 709) (by decide +kernel), List.mem_of_getElem? (i := 1075) (by decide +kernel), List.mem_of_getElem? (i := 1076) (by decide +kernel)⟩
theorem lw_p67 : lw_okq (⟨"LeakingClocksModel", "readNumber", "(I)Z"⟩, 15) := ⟨⟨by decide +kernel, by decide +kernel⟩, List.mem_of_getElem? (i := 709) (by decide +kernel), List.mem_of_getElem? (i := 1082) (by decide +kernel), List.mem_of_getElem? (i := 1083) (by decide +kernel)⟩
theorem lw_p68 : lw_okq (⟨"LeakingClocksModel", "isAt", "(II)Z"⟩, 15) := ⟨⟨by decide +kernel, by decide +kernel⟩, List.mem_of_getElem? (i := 709) (by decide +kernel), List.mem_of_getElem? (i := 1086) (by decide +kernel), List.mem_of_getElem? (i := 1087) (by decide +kernel)⟩
theorem lw_p69 : lw_okq (⟨"LeakingClocksModel", "readSign", "(I)Z"⟩, 15) := ⟨⟨by decide +kernel, by decide +kernel⟩, List.mem_of_getElem? (i := 709) (by decide +kernel), List.mem_of_getElem? (i := 1090) (by decide +kernel), List.mem_of_getElem? (i := 1091) (by decide +kernel)⟩
theorem lw_p70 : lw_okq (⟨"LeakingClocksModel", "doOrder", "(I)I"⟩, 15) := ⟨⟨by decide +kernel, by decide +kernel⟩, List.mem_of_getElem? (i := 709) (by decide +kernel), List.mem_of_getElem? (i := 1094) (by decide +kernel), List.mem_of_getElem? (i := 1095) (by decide +kernel)⟩
def lw_privs_5 : List (MethodName × Nat) := [(⟨"LeakingClocksModel", "clocksEmpty", "()I"⟩, 15), (⟨"LeakingClocksModel", "doOrders", "()V"⟩, 15), (⟨"LeakingClocksModel", "readOrder", "()Z"⟩, 15), (⟨"LeakingClocksModel", "readNumber", "(I)Z"⟩, 15), (⟨"LeakingClocksModel", "isAt", "(II)Z"⟩, 15), (⟨"LeakingClocksModel", "readSign", "(I)Z"⟩, 15), (⟨"LeakingClocksModel", "doOrder", "(I)I"⟩, 15)]
theorem lw_r5 : ∀ q ∈ lw_privs_5, lw_okq q := List.forall_mem_cons.mpr ⟨lw_p64, List.forall_mem_cons.mpr ⟨lw_p65, List.forall_mem_cons.mpr ⟨lw_p66, List.forall_mem_cons.mpr ⟨lw_p67, List.forall_mem_cons.mpr ⟨lw_p68, List.forall_mem_cons.mpr ⟨lw_p69, List.forall_mem_cons.mpr ⟨lw_p70, fun _ h => absurd h List.not_mem_nil⟩⟩⟩⟩⟩⟩⟩
def lw_privs : List (MethodName × Nat) := lw_privs_1 ++ (lw_privs_2 ++ (lw_privs_3 ++ (lw_privs_4 ++ (lw_privs_5))))
def lw_tbl : List Cond := k2_sels lw_privs ++ tables_1
theorem lw_privs_ok : ∀ q ∈ lw_privs, lw_okq q := by
  show ∀ q ∈ lw_privs_1 ++ (lw_privs_2 ++ (lw_privs_3 ++ (lw_privs_4 ++ (lw_privs_5)))), lw_okq q
  exact List.forall_mem_append.mpr ⟨lw_r1, List.forall_mem_append.mpr ⟨lw_r2, List.forall_mem_append.mpr ⟨lw_r3, List.forall_mem_append.mpr ⟨lw_r4, lw_r5⟩⟩⟩⟩
/-- the streams that the claim lets the run draw from -/
abbrev lw_cs : List Choice := [Jvm.Choice.named "NaN.bits"]
theorem lw_bits : nanBits ∈ lw_cs := by first | decide | exact List.mem_cons_self | simp [lw_cs, nanBits]
end
section
def RX0 : String := "LeakingClocks$Book"
def TX0 : u_T := fun k => match k with
  | 0 => ("LeakingClocks$Book", "clocksThen", "[I", true)
  | 1 => ("LeakingClocks$Book", "errors", "[I", true)
  | 2 => ("LeakingClocks$Book", "noons", "I", false)
  | _ => ("LeakingClocks$Book", "off", "I", false)
def tyX0 : Nat → FieldType := fun k => match k with
  | 0 => .array .int
  | 1 => .array .int
  | 2 => .int
  | _ => .int
abbrev wsX00 : List Cond := u_ws RX0 TX0 4
theorem nmX0 : ∀ a, a < 4 → ∀ b, b < 4 → a ≠ b → (TX0 a).2.1 ≠ (TX0 b).2.1 := by decide +kernel
theorem tyX0_ok : ∀ k, k < 4 → parseFieldDescriptor (TX0 k).2.2.1 = some (tyX0 k) := by decide +kernel
abbrev cX0_init : ByteArray := prog_2_method_1_code
def yX0_init : MethodName := ⟨RX0, "<init>", "()V"⟩
abbrev cX0_copyFrom : ByteArray := prog_2_method_2_code
def yX0_copyFrom : MethodName := ⟨RX0, "copyFrom", "(LLeakingClocks$Book;)V"⟩
abbrev cX0_open : ByteArray := prog_2_method_3_code
def yX0_open : MethodName := ⟨RX0, "open", "(I)V"⟩
abbrev cX0_write : ByteArray := prog_2_method_4_code
def yX0_write : MethodName := ⟨RX0, "write", "(II)V"⟩
abbrev cX0_size : ByteArray := prog_2_method_5_code
def yX0_size : MethodName := ⟨RX0, "size", "()I"⟩
abbrev cX0_has : ByteArray := prog_2_method_6_code
def yX0_has : MethodName := ⟨RX0, "has", "(II)Z"⟩
abbrev cX0_errorAt : ByteArray := prog_2_method_7_code
def yX0_errorAt : MethodName := ⟨RX0, "errorAt", "(II)I"⟩
abbrev cX0_place : ByteArray := prog_2_method_8_code
def yX0_place : MethodName := ⟨RX0, "place", "(I)I"⟩
def RX1 : String := "LeakingClocks$Clock"
def TX1 : u_T := fun k => match k with
  | 0 => ("LeakingClocks$Clock", "number", "I", true)
  | 1 => ("LeakingClocks$Clock", "kind", "I", false)
  | 2 => ("LeakingClocks$Clock", "width", "I", false)
  | 3 => ("LeakingClocks$Clock", "pitch", "I", false)
  | 4 => ("LeakingClocks$Clock", "led", "I", false)
  | 5 => ("LeakingClocks$Clock", "upper", "I", false)
  | 6 => ("LeakingClocks$Clock", "lower", "I", false)
  | 7 => ("LeakingClocks$Clock", "through", "I", false)
  | 8 => ("LeakingClocks$Clock", "unused", "I", false)
  | 9 => ("LeakingClocks$Clock", "widened", "I", false)
  | 10 => ("LeakingClocks$Clock", "strokes", "I", false)
  | 11 => ("LeakingClocks$Clock", "strokeDrops", "I", false)
  | 12 => ("LeakingClocks$Clock", "poured", "I", false)
  | 13 => ("LeakingClocks$Clock", "trued", "I", false)
  | 14 => ("LeakingClocks$Clock", "truedHour", "I", false)
  | _ => ("LeakingClocks$Clock", "truedDrops", "I", false)
def tyX1 : Nat → FieldType := fun k => match k with
  | 0 => .int
  | 1 => .int
  | 2 => .int
  | 3 => .int
  | 4 => .int
  | 5 => .int
  | 6 => .int
  | 7 => .int
  | 8 => .int
  | 9 => .int
  | 10 => .int
  | 11 => .int
  | 12 => .int
  | 13 => .int
  | 14 => .int
  | _ => .int
abbrev wsX10 : List Cond := u_ws RX1 TX1 16
theorem nmX1 : ∀ a, a < 16 → ∀ b, b < 16 → a ≠ b → (TX1 a).2.1 ≠ (TX1 b).2.1 := by decide +kernel
theorem tyX1_ok : ∀ k, k < 16 → parseFieldDescriptor (TX1 k).2.2.1 = some (tyX1 k) := by decide +kernel
abbrev cX1_init : ByteArray := prog_3_method_1_code
def yX1_init : MethodName := ⟨RX1, "<init>", "(I)V"⟩
abbrev cX1_copyFrom : ByteArray := prog_3_method_2_code
def yX1_copyFrom : MethodName := ⟨RX1, "copyFrom", "(LLeakingClocks$Clock;)V"⟩
abbrev cX1_begin : ByteArray := prog_3_method_3_code
def yX1_begin : MethodName := ⟨RX1, "begin", "(IIII)V"⟩
abbrev cX1_has : ByteArray := prog_3_method_4_code
def yX1_has : MethodName := ⟨RX1, "has", "(I)Z"⟩
abbrev cX1_figure : ByteArray := prog_3_method_5_code
def yX1_figure : MethodName := ⟨RX1, "figure", "(I)I"⟩
abbrev cX1_dropsCounted : ByteArray := prog_3_method_6_code
def yX1_dropsCounted : MethodName := ⟨RX1, "dropsCounted", "()I"⟩
abbrev cX1_hourTold : ByteArray := prog_3_method_7_code
def yX1_hourTold : MethodName := ⟨RX1, "hourTold", "()I"⟩
abbrev cX1_trueTo : ByteArray := prog_3_method_8_code
def yX1_trueTo : MethodName := ⟨RX1, "trueTo", "(I)V"⟩
abbrev cX1_nextDrip : ByteArray := prog_3_method_9_code
def yX1_nextDrip : MethodName := ⟨RX1, "nextDrip", "()I"⟩
abbrev cX1_letThrough : ByteArray := prog_3_method_10_code
def yX1_letThrough : MethodName := ⟨RX1, "letThrough", "()I"⟩
abbrev cX1_wearHole : ByteArray := prog_3_method_11_code
def yX1_wearHole : MethodName := ⟨RX1, "wearHole", "(I)V"⟩
def RX2 : String := "LeakingClocks$Settings"
def TX2 : u_T := fun k => match k with
  | 0 => ("LeakingClocks$Settings", "vessel", "I", false)
  | 1 => ("LeakingClocks$Settings", "siphon", "I", false)
  | 2 => ("LeakingClocks$Settings", "wear", "I", false)
  | 3 => ("LeakingClocks$Settings", "hour", "I", false)
  | 4 => ("LeakingClocks$Settings", "borne", "I", false)
  | _ => ("LeakingClocks$Settings", "truing", "I", false)
def tyX2 : Nat → FieldType := fun k => match k with
  | 0 => .int
  | 1 => .int
  | 2 => .int
  | 3 => .int
  | 4 => .int
  | _ => .int
abbrev wsX20 : List Cond := u_ws RX2 TX2 6
theorem nmX2 : ∀ a, a < 6 → ∀ b, b < 6 → a ≠ b → (TX2 a).2.1 ≠ (TX2 b).2.1 := by decide +kernel
theorem tyX2_ok : ∀ k, k < 6 → parseFieldDescriptor (TX2 k).2.2.1 = some (tyX2 k) := by decide +kernel
abbrev cX2_init : ByteArray := prog_4_method_1_code
def yX2_init : MethodName := ⟨RX2, "<init>", "()V"⟩
abbrev cX2_copyFrom : ByteArray := prog_4_method_2_code
def yX2_copyFrom : MethodName := ⟨RX2, "copyFrom", "(LLeakingClocks$Settings;)V"⟩
abbrev cX2_isInRange : ByteArray := prog_4_method_3_code
def yX2_isInRange : MethodName := ⟨RX2, "isInRange", "(II)Z"⟩
abbrev cX2_valueOf : ByteArray := prog_4_method_4_code
def yX2_valueOf : MethodName := ⟨RX2, "valueOf", "(I)I"⟩
abbrev cX2_change : ByteArray := prog_4_method_5_code
def yX2_change : MethodName := ⟨RX2, "change", "(II)V"⟩
def RX3 : String := "LeakingClocks$State"
def TX3 : u_T := fun k => match k with
  | 0 => ("LeakingClocks$State", "clocks", "[LLeakingClocks$Clock;", true)
  | 1 => ("LeakingClocks$State", "settings", "LLeakingClocks$Settings;", true)
  | 2 => ("LeakingClocks$State", "book", "LLeakingClocks$Book;", true)
  | 3 => ("LeakingClocks$State", "count", "I", false)
  | 4 => ("LeakingClocks$State", "now", "I", false)
  | 5 => ("LeakingClocks$State", "cistern", "I", false)
  | 6 => ("LeakingClocks$State", "wasted", "I", false)
  | 7 => ("LeakingClocks$State", "floor", "I", false)
  | 8 => ("LeakingClocks$State", "drawn", "I", false)
  | 9 => ("LeakingClocks$State", "jugsPoured", "I", false)
  | 10 => ("LeakingClocks$State", "dripped", "I", false)
  | 11 => ("LeakingClocks$State", "entered", "I", false)
  | _ => ("LeakingClocks$State", "letGo", "I", false)
def tyX3 : Nat → FieldType := fun k => match k with
  | 0 => .array (.object "LeakingClocks$Clock")
  | 1 => .object "LeakingClocks$Settings"
  | 2 => .object "LeakingClocks$Book"
  | 3 => .int
  | 4 => .int
  | 5 => .int
  | 6 => .int
  | 7 => .int
  | 8 => .int
  | 9 => .int
  | 10 => .int
  | 11 => .int
  | _ => .int
abbrev wsX30 : List Cond := u_ws RX3 TX3 13
theorem nmX3 : ∀ a, a < 13 → ∀ b, b < 13 → a ≠ b → (TX3 a).2.1 ≠ (TX3 b).2.1 := by decide +kernel
theorem tyX3_ok : ∀ k, k < 13 → parseFieldDescriptor (TX3 k).2.2.1 = some (tyX3 k) := by decide +kernel
abbrev cX3_init : ByteArray := prog_5_method_1_code
def yX3_init : MethodName := ⟨RX3, "<init>", "()V"⟩
abbrev cX3_copyFrom : ByteArray := prog_5_method_2_code
def yX3_copyFrom : MethodName := ⟨RX3, "copyFrom", "(LLeakingClocks$State;)V"⟩
abbrev cX3_clockAt : ByteArray := prog_5_method_3_code
def yX3_clockAt : MethodName := ⟨RX3, "clockAt", "(I)LLeakingClocks$Clock;"⟩
abbrev cX3_addClock : ByteArray := prog_5_method_4_code
def yX3_addClock : MethodName := ⟨RX3, "addClock", "(III)I"⟩
abbrev cX3_leadOn : ByteArray := prog_5_method_5_code
def yX3_leadOn : MethodName := ⟨RX3, "leadOn", "(II)I"⟩
abbrev cX3_pourJug : ByteArray := prog_5_method_6_code
def yX3_pourJug : MethodName := ⟨RX3, "pourJug", "(II)I"⟩
abbrev cX3_narrow : ByteArray := prog_5_method_7_code
def yX3_narrow : MethodName := ⟨RX3, "narrow", "(II)I"⟩
abbrev cX3_changePitch : ByteArray := prog_5_method_8_code
def yX3_changePitch : MethodName := ⟨RX3, "changePitch", "(II)I"⟩
abbrev cX3_trueClock : ByteArray := prog_5_method_9_code
def yX3_trueClock : MethodName := ⟨RX3, "trueClock", "(I)I"⟩
abbrev cX3_passTicks : ByteArray := prog_5_method_10_code
def yX3_passTicks : MethodName := ⟨RX3, "passTicks", "(I)I"⟩
abbrev cX3_changeSetting : ByteArray := prog_5_method_11_code
def yX3_changeSetting : MethodName := ⟨RX3, "changeSetting", "(II)I"⟩
abbrev cX3_drip : ByteArray := prog_5_method_12_code
def yX3_drip : MethodName := ⟨RX3, "drip", "(I)I"⟩
abbrev cX3_dripOf : ByteArray := prog_5_method_13_code
def yX3_dripOf : MethodName := ⟨RX3, "dripOf", "(LLeakingClocks$Clock;)I"⟩
abbrev cX3_strokeOf : ByteArray := prog_5_method_14_code
def yX3_strokeOf : MethodName := ⟨RX3, "strokeOf", "(LLeakingClocks$Clock;)I"⟩
abbrev cX3_goOn : ByteArray := prog_5_method_15_code
def yX3_goOn : MethodName := ⟨RX3, "goOn", "(LLeakingClocks$Clock;I)V"⟩
abbrev cX3_enterUpper : ByteArray := prog_5_method_16_code
def yX3_enterUpper : MethodName := ⟨RX3, "enterUpper", "(LLeakingClocks$Clock;I)I"⟩
abbrev cX3_roomAbove : ByteArray := prog_5_method_17_code
def yX3_roomAbove : MethodName := ⟨RX3, "roomAbove", "(I)I"⟩
abbrev cX3_whyNotPoured : ByteArray := prog_5_method_18_code
def yX3_whyNotPoured : MethodName := ⟨RX3, "whyNotPoured", "(LLeakingClocks$Clock;I)I"⟩
abbrev cX3_isEmpty : ByteArray := prog_5_method_19_code
def yX3_isEmpty : MethodName := ⟨RX3, "isEmpty", "(I)Z"⟩
abbrev cX3_together : ByteArray := prog_5_method_20_code
def yX3_together : MethodName := ⟨RX3, "together", "(I)I"⟩
abbrev cX3_allWater : ByteArray := prog_5_method_21_code
def yX3_allWater : MethodName := ⟨RX3, "allWater", "()I"⟩
abbrev cX3_trueHour : ByteArray := prog_5_method_22_code
def yX3_trueHour : MethodName := ⟨RX3, "trueHour", "()I"⟩
abbrev cX3_errorOf : ByteArray := prog_5_method_23_code
def yX3_errorOf : MethodName := ⟨RX3, "errorOf", "(LLeakingClocks$Clock;)I"⟩
abbrev cX3_noonTicks : ByteArray := prog_5_method_24_code
def yX3_noonTicks : MethodName := ⟨RX3, "noonTicks", "()I"⟩
abbrev cX3_untilNoon : ByteArray := prog_5_method_25_code
def yX3_untilNoon : MethodName := ⟨RX3, "untilNoon", "()I"⟩
abbrev cX3_isNoon : ByteArray := prog_5_method_26_code
def yX3_isNoon : MethodName := ⟨RX3, "isNoon", "()Z"⟩
abbrev cX3_isOff : ByteArray := prog_5_method_27_code
def yX3_isOff : MethodName := ⟨RX3, "isOff", "(I)Z"⟩
abbrev cX3_noonComes : ByteArray := prog_5_method_28_code
def yX3_noonComes : MethodName := ⟨RX3, "noonComes", "()V"⟩
abbrev cX3_clocksOff : ByteArray := prog_5_method_29_code
def yX3_clocksOff : MethodName := ⟨RX3, "clocksOff", "()I"⟩
abbrev cX3_clocksEmpty : ByteArray := prog_5_method_30_code
def yX3_clocksEmpty : MethodName := ⟨RX3, "clocksEmpty", "()I"⟩
abbrev cX3_sizeOfError : ByteArray := prog_5_method_31_code
def yX3_sizeOfError : MethodName := ⟨RX3, "sizeOfError", "(I)I"⟩
abbrev cX3_errorsTogether : ByteArray := prog_5_method_32_code
def yX3_errorsTogether : MethodName := ⟨RX3, "errorsTogether", "()I"⟩
abbrev cX3_rankOf : ByteArray := prog_5_method_33_code
def yX3_rankOf : MethodName := ⟨RX3, "rankOf", "(I)I"⟩
def RX4 : String := "LeakingClocks$Text"
def TX4 : u_T := fun k => match k with
  | 0 => ("LeakingClocks$Text", "signs", "[C", true)
  | 1 => ("LeakingClocks$Text", "numbers", "[I", true)
  | 2 => ("LeakingClocks$Text", "length", "I", false)
  | 3 => ("LeakingClocks$Text", "place", "I", false)
  | 4 => ("LeakingClocks$Text", "start", "I", false)
  | 5 => ("LeakingClocks$Text", "letter", "C", false)
  | 6 => ("LeakingClocks$Text", "reason", "I", false)
  | _ => ("LeakingClocks$Text", "cause", "I", false)
def tyX4 : Nat → FieldType := fun k => match k with
  | 0 => .array .char
  | 1 => .array .int
  | 2 => .int
  | 3 => .int
  | 4 => .int
  | 5 => .char
  | 6 => .int
  | _ => .int
abbrev wsX40 : List Cond := u_ws RX4 TX4 8
theorem nmX4 : ∀ a, a < 8 → ∀ b, b < 8 → a ≠ b → (TX4 a).2.1 ≠ (TX4 b).2.1 := by decide +kernel
theorem tyX4_ok : ∀ k, k < 8 → parseFieldDescriptor (TX4 k).2.2.1 = some (tyX4 k) := by decide +kernel
abbrev cX4_init : ByteArray := prog_6_method_1_code
def yX4_init : MethodName := ⟨RX4, "<init>", "()V"⟩
abbrev cX4_append : ByteArray := prog_6_method_2_code
def yX4_append : MethodName := ⟨RX4, "append", "(C)I"⟩
abbrev cX4_rewind : ByteArray := prog_6_method_3_code
def yX4_rewind : MethodName := ⟨RX4, "rewind", "()V"⟩
abbrev cX4_tellFault : ByteArray := prog_6_method_4_code
def yX4_tellFault : MethodName := ⟨RX4, "tellFault", "(II)V"⟩
abbrev cX4_number : ByteArray := prog_6_method_5_code
def yX4_number : MethodName := ⟨RX4, "number", "(I)I"⟩
abbrev cX4_readOrder : ByteArray := prog_6_method_6_code
def yX4_readOrder : MethodName := ⟨RX4, "readOrder", "()Z"⟩
abbrev cX4_readForm : ByteArray := prog_6_method_7_code
def yX4_readForm : MethodName := ⟨RX4, "readForm", "()Z"⟩
abbrev cX4_readNumber : ByteArray := prog_6_method_8_code
def yX4_readNumber : MethodName := ⟨RX4, "readNumber", "(I)Z"⟩
abbrev cX4_readSign : ByteArray := prog_6_method_9_code
def yX4_readSign : MethodName := ⟨RX4, "readSign", "(C)Z"⟩
abbrev cX4_signHere : ByteArray := prog_6_method_10_code
def yX4_signHere : MethodName := ⟨RX4, "signHere", "()C"⟩
abbrev cX4_isDigit : ByteArray := prog_6_method_11_code
def yX4_isDigit : MethodName := ⟨RX4, "isDigit", "(C)Z"⟩
abbrev cX4_numbersOf : ByteArray := prog_6_method_12_code
def yX4_numbersOf : MethodName := ⟨RX4, "numbersOf", "(C)I"⟩
def RX5 : String := "LeakingClocks"
def TX5 : u_T := fun k => match k with
  | 0 => ("LeakingClocks", "present", "LLeakingClocks$State;", true)
  | 1 => ("LeakingClocks", "trial", "LLeakingClocks$State;", true)
  | 2 => ("LeakingClocks", "history", "[LLeakingClocks$State;", true)
  | 3 => ("LeakingClocks", "images", "[LLeakingClocks$State;", true)
  | 4 => ("LeakingClocks", "kept", "[Z", true)
  | 5 => ("LeakingClocks", "text", "LLeakingClocks$Text;", true)
  | 6 => ("LeakingClocks", "before", "LLeakingClocks$State;", false)
  | _ => ("LeakingClocks", "states", "I", false)
def tyX5 : Nat → FieldType := fun k => match k with
  | 0 => .object "LeakingClocks$State"
  | 1 => .object "LeakingClocks$State"
  | 2 => .array (.object "LeakingClocks$State")
  | 3 => .array (.object "LeakingClocks$State")
  | 4 => .array .boolean
  | 5 => .object "LeakingClocks$Text"
  | 6 => .object "LeakingClocks$State"
  | _ => .int
abbrev wsX50 : List Cond := u_ws RX5 TX5 8
theorem nmX5 : ∀ a, a < 8 → ∀ b, b < 8 → a ≠ b → (TX5 a).2.1 ≠ (TX5 b).2.1 := by decide +kernel
theorem tyX5_ok : ∀ k, k < 8 → parseFieldDescriptor (TX5 k).2.2.1 = some (tyX5 k) := by decide +kernel
abbrev cX5_init : ByteArray := prog_1_method_1_code
def yX5_init : MethodName := ⟨RX5, "<init>", "()V"⟩
abbrev cX5_clock : ByteArray := prog_1_method_2_code
def yX5_clock : MethodName := ⟨RX5, "clock", "(III)I"⟩
abbrev cX5_lead : ByteArray := prog_1_method_3_code
def yX5_lead : MethodName := ⟨RX5, "lead", "(II)I"⟩
abbrev cX5_pour : ByteArray := prog_1_method_4_code
def yX5_pour : MethodName := ⟨RX5, "pour", "(II)I"⟩
abbrev cX5_wax : ByteArray := prog_1_method_5_code
def yX5_wax : MethodName := ⟨RX5, "wax", "(II)I"⟩
abbrev cX5_pitch : ByteArray := prog_1_method_6_code
def yX5_pitch : MethodName := ⟨RX5, "pitch", "(II)I"⟩
abbrev cX5_trueUp : ByteArray := prog_1_method_7_code
def yX5_trueUp : MethodName := ⟨RX5, "trueUp", "(I)I"⟩
abbrev cX5_ticks : ByteArray := prog_1_method_8_code
def yX5_ticks : MethodName := ⟨RX5, "ticks", "(I)I"⟩
abbrev cX5_set : ByteArray := prog_1_method_9_code
def yX5_set : MethodName := ⟨RX5, "set", "(II)I"⟩
abbrev cX5_keep : ByteArray := prog_1_method_10_code
def yX5_keep : MethodName := ⟨RX5, "keep", "(I)I"⟩
abbrev cX5_back : ByteArray := prog_1_method_11_code
def yX5_back : MethodName := ⟨RX5, "back", "(I)I"⟩
abbrev cX5_clockOf : ByteArray := prog_1_method_12_code
def yX5_clockOf : MethodName := ⟨RX5, "clockOf", "(II)I"⟩
abbrev cX5_hour : ByteArray := prog_1_method_13_code
def yX5_hour : MethodName := ⟨RX5, "hour", "(II)I"⟩
abbrev cX5_water : ByteArray := prog_1_method_14_code
def yX5_water : MethodName := ⟨RX5, "water", "(I)I"⟩
abbrev cX5_noon : ByteArray := prog_1_method_15_code
def yX5_noon : MethodName := ⟨RX5, "noon", "(II)I"⟩
abbrev cX5_why : ByteArray := prog_1_method_16_code
def yX5_why : MethodName := ⟨RX5, "why", "(II)I"⟩
abbrev cX5_emptyIn : ByteArray := prog_1_method_17_code
def yX5_emptyIn : MethodName := ⟨RX5, "emptyIn", "(I)I"⟩
abbrev cX5_noonError : ByteArray := prog_1_method_18_code
def yX5_noonError : MethodName := ⟨RX5, "noonError", "(I)I"⟩
abbrev cX5_bestWax : ByteArray := prog_1_method_19_code
def yX5_bestWax : MethodName := ⟨RX5, "bestWax", "(II)I"⟩
abbrev cX5_worst : ByteArray := prog_1_method_20_code
def yX5_worst : MethodName := ⟨RX5, "worst", "(I)I"⟩
abbrev cX5_mean : ByteArray := prog_1_method_21_code
def yX5_mean : MethodName := ⟨RX5, "mean", "()I"⟩
abbrev cX5_count : ByteArray := prog_1_method_22_code
def yX5_count : MethodName := ⟨RX5, "count", "(I)I"⟩
abbrev cX5_undo : ByteArray := prog_1_method_23_code
def yX5_undo : MethodName := ⟨RX5, "undo", "()I"⟩
abbrev cX5_type : ByteArray := prog_1_method_24_code
def yX5_type : MethodName := ⟨RX5, "type", "(I)I"⟩
abbrev cX5_clearText : ByteArray := prog_1_method_25_code
def yX5_clearText : MethodName := ⟨RX5, "clearText", "()I"⟩
abbrev cX5_fault : ByteArray := prog_1_method_26_code
def yX5_fault : MethodName := ⟨RX5, "fault", "(I)I"⟩
abbrev cX5_play : ByteArray := prog_1_method_27_code
def yX5_play : MethodName := ⟨RX5, "play", "()I"⟩
abbrev cX5_changed : ByteArray := prog_1_method_28_code
def yX5_changed : MethodName := ⟨RX5, "changed", "(I)I"⟩
abbrev cX5_dropOldestState : ByteArray := prog_1_method_29_code
def yX5_dropOldestState : MethodName := ⟨RX5, "dropOldestState", "()V"⟩
abbrev cX5_tryOrders : ByteArray := prog_1_method_30_code
def yX5_tryOrders : MethodName := ⟨RX5, "tryOrders", "()I"⟩
abbrev cX5_noonErrorWith : ByteArray := prog_1_method_31_code
def yX5_noonErrorWith : MethodName := ⟨RX5, "noonErrorWith", "(II)I"⟩
abbrev cX5_isErrorCode : ByteArray := prog_1_method_32_code
def yX5_isErrorCode : MethodName := ⟨RX5, "isErrorCode", "(I)Z"⟩
abbrev cX5_isImage : ByteArray := prog_1_method_33_code
def yX5_isImage : MethodName := ⟨RX5, "isImage", "(I)Z"⟩
abbrev cX5_isJug : ByteArray := prog_1_method_34_code
def yX5_isJug : MethodName := ⟨RX5, "isJug", "(I)Z"⟩
abbrev cX5_element : ByteArray := prog_1_method_35_code
def yX5_element : MethodName := ⟨RX5, "element", "([II)I"⟩
abbrev cX5_put : ByteArray := prog_1_method_36_code
def yX5_put : MethodName := ⟨RX5, "put", "([III)V"⟩
abbrev cX5_copy : ByteArray := prog_1_method_37_code
def yX5_copy : MethodName := ⟨RX5, "copy", "([I[I)V"⟩
abbrev cX5_quotient : ByteArray := prog_1_method_38_code
def yX5_quotient : MethodName := ⟨RX5, "quotient", "(II)I"⟩
abbrev cX5_bitsOf : ByteArray := prog_1_method_39_code
def yX5_bitsOf : MethodName := ⟨RX5, "bitsOf", "(F)I"⟩
def RX6 : String := "LeakingClocksModel"
def TX6 : u_T := fun k => match k with
  | 0 => ("LeakingClocksModel", "row", "[I", true)
  | 1 => ("LeakingClocksModel", "before", "[I", true)
  | 2 => ("LeakingClocksModel", "history", "[I", true)
  | 3 => ("LeakingClocksModel", "states", "I", false)
  | 4 => ("LeakingClocksModel", "images", "[I", true)
  | 5 => ("LeakingClocksModel", "isKept", "[Z", true)
  | 6 => ("LeakingClocksModel", "aside", "[I", true)
  | 7 => ("LeakingClocksModel", "text", "[I", true)
  | 8 => ("LeakingClocksModel", "length", "I", false)
  | 9 => ("LeakingClocksModel", "place", "I", false)
  | 10 => ("LeakingClocksModel", "numbers", "[I", true)
  | 11 => ("LeakingClocksModel", "faultAt", "I", false)
  | 12 => ("LeakingClocksModel", "faultReason", "I", false)
  | 13 => ("LeakingClocksModel", "faultCause", "I", false)
  | _ => ("LeakingClocksModel", "done", "I", false)
def tyX6 : Nat → FieldType := fun k => match k with
  | 0 => .array .int
  | 1 => .array .int
  | 2 => .array .int
  | 3 => .int
  | 4 => .array .int
  | 5 => .array .boolean
  | 6 => .array .int
  | 7 => .array .int
  | 8 => .int
  | 9 => .int
  | 10 => .array .int
  | 11 => .int
  | 12 => .int
  | 13 => .int
  | _ => .int
abbrev wsX60 : List Cond := u_ws RX6 TX6 15
theorem nmX6 : ∀ a, a < 15 → ∀ b, b < 15 → a ≠ b → (TX6 a).2.1 ≠ (TX6 b).2.1 := by decide +kernel
theorem tyX6_ok : ∀ k, k < 15 → parseFieldDescriptor (TX6 k).2.2.1 = some (tyX6 k) := by decide +kernel
abbrev cX6_init : ByteArray := prog_8_method_1_code
def yX6_init : MethodName := ⟨RX6, "<init>", "()V"⟩
abbrev cX6_in : ByteArray := prog_8_method_2_code
def yX6_in : MethodName := ⟨RX6, "in", "(III)Z"⟩
abbrev cX6_isError : ByteArray := prog_8_method_3_code
def yX6_isError : MethodName := ⟨RX6, "isError", "(I)Z"⟩
abbrev cX6_isClock : ByteArray := prog_8_method_4_code
def yX6_isClock : MethodName := ⟨RX6, "isClock", "(I)Z"⟩
abbrev cX6_of : ByteArray := prog_8_method_5_code
def yX6_of : MethodName := ⟨RX6, "of", "(II)I"⟩
abbrev cX6_put : ByteArray := prog_8_method_6_code
def yX6_put : MethodName := ⟨RX6, "put", "(III)V"⟩
abbrev cX6_add : ByteArray := prog_8_method_7_code
def yX6_add : MethodName := ⟨RX6, "add", "(III)V"⟩
abbrev cX6_note : ByteArray := prog_8_method_8_code
def yX6_note : MethodName := ⟨RX6, "note", "()V"⟩
abbrev cX6_recorded : ByteArray := prog_8_method_9_code
def yX6_recorded : MethodName := ⟨RX6, "recorded", "(I)I"⟩
abbrev cX6_putAside : ByteArray := prog_8_method_10_code
def yX6_putAside : MethodName := ⟨RX6, "putAside", "()V"⟩
abbrev cX6_putBack : ByteArray := prog_8_method_11_code
def yX6_putBack : MethodName := ⟨RX6, "putBack", "()V"⟩
abbrev cX6_floor : ByteArray := prog_8_method_12_code
def yX6_floor : MethodName := ⟨RX6, "floor", "(II)I"⟩
abbrev cX6_trueHour : ByteArray := prog_8_method_13_code
def yX6_trueHour : MethodName := ⟨RX6, "trueHour", "()I"⟩
abbrev cX6_drops : ByteArray := prog_8_method_14_code
def yX6_drops : MethodName := ⟨RX6, "drops", "(I)I"⟩
abbrev cX6_hourOf : ByteArray := prog_8_method_15_code
def yX6_hourOf : MethodName := ⟨RX6, "hourOf", "(I)I"⟩
abbrev cX6_error : ByteArray := prog_8_method_16_code
def yX6_error : MethodName := ⟨RX6, "error", "(I)I"⟩
abbrev cX6_size : ByteArray := prog_8_method_17_code
def yX6_size : MethodName := ⟨RX6, "size", "(I)I"⟩
abbrev cX6_isOff : ByteArray := prog_8_method_18_code
def yX6_isOff : MethodName := ⟨RX6, "isOff", "(I)Z"⟩
abbrev cX6_lay : ByteArray := prog_8_method_19_code
def yX6_lay : MethodName := ⟨RX6, "lay", "(I)V"⟩
abbrev cX6_makeTrue : ByteArray := prog_8_method_20_code
def yX6_makeTrue : MethodName := ⟨RX6, "makeTrue", "(I)V"⟩
abbrev cX6_fill : ByteArray := prog_8_method_21_code
def yX6_fill : MethodName := ⟨RX6, "fill", "(II)I"⟩
abbrev cX6_goOn : ByteArray := prog_8_method_22_code
def yX6_goOn : MethodName := ⟨RX6, "goOn", "(II)V"⟩
abbrev cX6_dripOf : ByteArray := prog_8_method_23_code
def yX6_dripOf : MethodName := ⟨RX6, "dripOf", "(I)I"⟩
abbrev cX6_rise : ByteArray := prog_8_method_24_code
def yX6_rise : MethodName := ⟨RX6, "rise", "(II)V"⟩
abbrev cX6_stroke : ByteArray := prog_8_method_25_code
def yX6_stroke : MethodName := ⟨RX6, "stroke", "(I)V"⟩
abbrev cX6_drip : ByteArray := prog_8_method_26_code
def yX6_drip : MethodName := ⟨RX6, "drip", "(I)I"⟩
abbrev cX6_widen : ByteArray := prog_8_method_27_code
def yX6_widen : MethodName := ⟨RX6, "widen", "(I)V"⟩
abbrev cX6_isNoon : ByteArray := prog_8_method_28_code
def yX6_isNoon : MethodName := ⟨RX6, "isNoon", "()Z"⟩
abbrev cX6_book : ByteArray := prog_8_method_29_code
def yX6_book : MethodName := ⟨RX6, "book", "()V"⟩
abbrev cX6_noon : ByteArray := prog_8_method_30_code
def yX6_noon : MethodName := ⟨RX6, "noon", "()V"⟩
abbrev cX6_pass : ByteArray := prog_8_method_31_code
def yX6_pass : MethodName := ⟨RX6, "pass", "()I"⟩
abbrev cX6_tick : ByteArray := prog_8_method_32_code
def yX6_tick : MethodName := ⟨RX6, "tick", "()I"⟩
abbrev cX6_clockNow : ByteArray := prog_8_method_33_code
def yX6_clockNow : MethodName := ⟨RX6, "clockNow", "(III)I"⟩
abbrev cX6_leadNow : ByteArray := prog_8_method_34_code
def yX6_leadNow : MethodName := ⟨RX6, "leadNow", "(II)I"⟩
abbrev cX6_jug : ByteArray := prog_8_method_35_code
def yX6_jug : MethodName := ⟨RX6, "jug", "(I)I"⟩
abbrev cX6_reason : ByteArray := prog_8_method_36_code
def yX6_reason : MethodName := ⟨RX6, "reason", "(II)I"⟩
abbrev cX6_pourNow : ByteArray := prog_8_method_37_code
def yX6_pourNow : MethodName := ⟨RX6, "pourNow", "(II)I"⟩
abbrev cX6_waxNow : ByteArray := prog_8_method_38_code
def yX6_waxNow : MethodName := ⟨RX6, "waxNow", "(II)I"⟩
abbrev cX6_pitchNow : ByteArray := prog_8_method_39_code
def yX6_pitchNow : MethodName := ⟨RX6, "pitchNow", "(II)I"⟩
abbrev cX6_trueNow : ByteArray := prog_8_method_40_code
def yX6_trueNow : MethodName := ⟨RX6, "trueNow", "(I)I"⟩
abbrev cX6_ticksNow : ByteArray := prog_8_method_41_code
def yX6_ticksNow : MethodName := ⟨RX6, "ticksNow", "(I)I"⟩
abbrev cX6_maySet : ByteArray := prog_8_method_42_code
def yX6_maySet : MethodName := ⟨RX6, "maySet", "(II)Z"⟩
abbrev cX6_setNow : ByteArray := prog_8_method_43_code
def yX6_setNow : MethodName := ⟨RX6, "setNow", "(II)I"⟩
abbrev cX6_clock : ByteArray := prog_8_method_44_code
def yX6_clock : MethodName := ⟨RX6, "clock", "(III)I"⟩
abbrev cX6_lead : ByteArray := prog_8_method_45_code
def yX6_lead : MethodName := ⟨RX6, "lead", "(II)I"⟩
abbrev cX6_pour : ByteArray := prog_8_method_46_code
def yX6_pour : MethodName := ⟨RX6, "pour", "(II)I"⟩
abbrev cX6_wax : ByteArray := prog_8_method_47_code
def yX6_wax : MethodName := ⟨RX6, "wax", "(II)I"⟩
abbrev cX6_pitch : ByteArray := prog_8_method_48_code
def yX6_pitch : MethodName := ⟨RX6, "pitch", "(II)I"⟩
abbrev cX6_trueUp : ByteArray := prog_8_method_49_code
def yX6_trueUp : MethodName := ⟨RX6, "trueUp", "(I)I"⟩
abbrev cX6_ticks : ByteArray := prog_8_method_50_code
def yX6_ticks : MethodName := ⟨RX6, "ticks", "(I)I"⟩
abbrev cX6_set : ByteArray := prog_8_method_51_code
def yX6_set : MethodName := ⟨RX6, "set", "(II)I"⟩
abbrev cX6_keep : ByteArray := prog_8_method_52_code
def yX6_keep : MethodName := ⟨RX6, "keep", "(I)I"⟩
abbrev cX6_back : ByteArray := prog_8_method_53_code
def yX6_back : MethodName := ⟨RX6, "back", "(I)I"⟩
abbrev cX6_undo : ByteArray := prog_8_method_54_code
def yX6_undo : MethodName := ⟨RX6, "undo", "()I"⟩
abbrev cX6_property : ByteArray := prog_8_method_55_code
def yX6_property : MethodName := ⟨RX6, "property", "(II)I"⟩
abbrev cX6_clockOf : ByteArray := prog_8_method_56_code
def yX6_clockOf : MethodName := ⟨RX6, "clockOf", "(II)I"⟩
abbrev cX6_hour : ByteArray := prog_8_method_57_code
def yX6_hour : MethodName := ⟨RX6, "hour", "(II)I"⟩
abbrev cX6_sum : ByteArray := prog_8_method_58_code
def yX6_sum : MethodName := ⟨RX6, "sum", "(I)I"⟩
abbrev cX6_water : ByteArray := prog_8_method_59_code
def yX6_water : MethodName := ⟨RX6, "water", "(I)I"⟩
abbrev cX6_noon_ : ByteArray := prog_8_method_60_code
def yX6_noon_ : MethodName := ⟨RX6, "noon", "(II)I"⟩
abbrev cX6_why : ByteArray := prog_8_method_61_code
def yX6_why : MethodName := ⟨RX6, "why", "(II)I"⟩
abbrev cX6_emptyIn : ByteArray := prog_8_method_62_code
def yX6_emptyIn : MethodName := ⟨RX6, "emptyIn", "(I)I"⟩
abbrev cX6_errorAtNoon : ByteArray := prog_8_method_63_code
def yX6_errorAtNoon : MethodName := ⟨RX6, "errorAtNoon", "(II)I"⟩
abbrev cX6_noonError : ByteArray := prog_8_method_64_code
def yX6_noonError : MethodName := ⟨RX6, "noonError", "(I)I"⟩
abbrev cX6_waxFor : ByteArray := prog_8_method_65_code
def yX6_waxFor : MethodName := ⟨RX6, "waxFor", "(I)I"⟩
abbrev cX6_bestWax : ByteArray := prog_8_method_66_code
def yX6_bestWax : MethodName := ⟨RX6, "bestWax", "(II)I"⟩
abbrev cX6_rankOf : ByteArray := prog_8_method_67_code
def yX6_rankOf : MethodName := ⟨RX6, "rankOf", "(I)I"⟩
abbrev cX6_worst : ByteArray := prog_8_method_68_code
def yX6_worst : MethodName := ⟨RX6, "worst", "(I)I"⟩
abbrev cX6_mean : ByteArray := prog_8_method_69_code
def yX6_mean : MethodName := ⟨RX6, "mean", "()I"⟩
abbrev cX6_clocksOff : ByteArray := prog_8_method_70_code
def yX6_clocksOff : MethodName := ⟨RX6, "clocksOff", "()I"⟩
abbrev cX6_clocksEmpty : ByteArray := prog_8_method_71_code
def yX6_clocksEmpty : MethodName := ⟨RX6, "clocksEmpty", "()I"⟩
abbrev cX6_number : ByteArray := prog_8_method_72_code
def yX6_number : MethodName := ⟨RX6, "number", "(I)I"⟩
abbrev cX6_count : ByteArray := prog_8_method_73_code
def yX6_count : MethodName := ⟨RX6, "count", "(I)I"⟩
abbrev cX6_type : ByteArray := prog_8_method_74_code
def yX6_type : MethodName := ⟨RX6, "type", "(I)I"⟩
abbrev cX6_clearText : ByteArray := prog_8_method_75_code
def yX6_clearText : MethodName := ⟨RX6, "clearText", "()I"⟩
abbrev cX6_isAt : ByteArray := prog_8_method_76_code
def yX6_isAt : MethodName := ⟨RX6, "isAt", "(II)Z"⟩
abbrev cX6_readSign : ByteArray := prog_8_method_77_code
def yX6_readSign : MethodName := ⟨RX6, "readSign", "(I)Z"⟩
abbrev cX6_readNumber : ByteArray := prog_8_method_78_code
def yX6_readNumber : MethodName := ⟨RX6, "readNumber", "(I)Z"⟩
abbrev cX6_numbersOf : ByteArray := prog_8_method_79_code
def yX6_numbersOf : MethodName := ⟨RX6, "numbersOf", "(I)I"⟩
abbrev cX6_readOrder : ByteArray := prog_8_method_80_code
def yX6_readOrder : MethodName := ⟨RX6, "readOrder", "()Z"⟩
abbrev cX6_doOrder : ByteArray := prog_8_method_81_code
def yX6_doOrder : MethodName := ⟨RX6, "doOrder", "(I)I"⟩
abbrev cX6_doOrders : ByteArray := prog_8_method_82_code
def yX6_doOrders : MethodName := ⟨RX6, "doOrders", "()V"⟩
abbrev cX6_fault : ByteArray := prog_8_method_83_code
def yX6_fault : MethodName := ⟨RX6, "fault", "(I)I"⟩
abbrev cX6_play : ByteArray := prog_8_method_84_code
def yX6_play : MethodName := ⟨RX6, "play", "()I"⟩
def RJxf58ca : String := "java/lang/Float"
def TJxf58ca : u_T := fun k => match k with
  | _ => ("", "", "", false)
def tyJxf58ca : Nat → FieldType := fun k => match k with
  | _ => .int
abbrev wsJxf58ca0 : List Cond := u_ws RJxf58ca TJxf58ca 0
theorem nmJxf58ca : ∀ a, a < 0 → ∀ b, b < 0 → a ≠ b → (TJxf58ca a).2.1 ≠ (TJxf58ca b).2.1 := by decide +kernel
theorem tyJxf58ca_ok : ∀ k, k < 0 → parseFieldDescriptor (TJxf58ca k).2.2.1 = some (tyJxf58ca k) := by decide +kernel
abbrev cJxf58ca_isNaN_12338 : ByteArray := prog_9_method_6_code
def yJxf58ca_isNaN_12338 : MethodName := ⟨RJxf58ca, "isNaN", "(F)Z"⟩
abbrev cJxf58ca_floatToIntBits_5c35a : ByteArray := prog_9_method_24_code
def yJxf58ca_floatToIntBits_5c35a : MethodName := ⟨RJxf58ca, "floatToIntBits", "(F)I"⟩
def RJ9 : String := "java/lang/Math"
def TJ9 : u_T := fun k => match k with
  | _ => ("", "", "", false)
def tyJ9 : Nat → FieldType := fun k => match k with
  | _ => .int
abbrev wsJ90 : List Cond := u_ws RJ9 TJ9 0
theorem nmJ9 : ∀ a, a < 0 → ∀ b, b < 0 → a ≠ b → (TJ9 a).2.1 ≠ (TJ9 b).2.1 := by decide +kernel
theorem tyJ9_ok : ∀ k, k < 0 → parseFieldDescriptor (TJ9 k).2.2.1 = some (tyJ9 k) := by decide +kernel
abbrev cJ9_floorDiv_7cf53 : ByteArray := prog_10_method_47_code
def yJ9_floorDiv_7cf53 : MethodName := ⟨RJ9, "floorDiv", "(II)I"⟩
abbrev cJ9_floorMod_7cf53 : ByteArray := prog_10_method_50_code
def yJ9_floorMod_7cf53 : MethodName := ⟨RJ9, "floorMod", "(II)I"⟩
abbrev cJ9_abs_0f7a4 : ByteArray := prog_10_method_59_code
def yJ9_abs_0f7a4 : MethodName := ⟨RJ9, "abs", "(I)I"⟩
abbrev cJ9_min_7cf53 : ByteArray := prog_10_method_69_code
def yJ9_min_7cf53 : MethodName := ⟨RJ9, "min", "(II)I"⟩
def RL : String := "LeakingClocksLaw"
abbrev cL_law : ByteArray := code
def yL_law : MethodName := ⟨RL, "law", "([I)Z"⟩
abbrev vwCl : List vw_C := [(RX0, TX0, 4), (RX1, TX1, 16), (RX2, TX2, 6), (RX3, TX3, 13), (RX4, TX4, 8), (RX5, TX5, 8), (RX6, TX6, 15)]
end
section
/-! BASE: the picture of all cells of class and reference, one judgement J over it, a row an instruction -/
def BG : List Cond := lw_tbl.filter goodWord
theorem bg_in {w : Cond} (h : w ∈ lw_tbl) (hg : goodWord w = true) : w ∈ BG := List.mem_filter.mpr ⟨h, hg⟩
theorem bg_good {ws : List Cond} (h : ∀ w ∈ ws, w ∈ BG) : GoodIn BG ws := fun w hw => ⟨h w hw, good_of_word (List.mem_filter.mp (h w hw)).2⟩
abbrev I3 : Type := Nat × Nat × Nat
abbrev GS : Type := (Nat → Nat → Int32) × (Nat → Fin 9) × (Nat → Nat → Int32)
def isNest : Cond → Bool
  | .methodLinkNest .. => true
  | .fieldLinkNest .. => true
  | _ => false
def nestL : List Cond := tables_1.filter isNest
def nwU (U : State) : Prop := ∀ w ∈ nestL, va_Nw w U
theorem nw_warm {s U : State} (hW : s.WarmedH U.vm) (h : nwU s) : nwU U := by
  intro w hw
  have h1 := (List.mem_filter.mp hw).2
  have h2 := h w hw
  unfold isNest at h1
  split at h1
  · exact va_Nw.warmM hW h2
  · exact va_Nw.warmF hW h2
  · cases h1
theorem nest_tab {w : Cond} (h : isNest w = true) : w.onTables = true := by
  unfold isNest at h
  split at h
  · rfl
  · rfl
  · cases h
theorem nw_same {u U : State} (hvm : u.vm = U.vm) (h : nwU u) : nwU U := fun w hw => va_Nw.same (nest_tab (List.mem_filter.mp hw).2) hvm (h w hw)
/-! the cells' names: tag, number, place -/
def stIds (j : Nat) : List I3 := [(1, j, 0), (2, j, 0), (4, j, 0), (5, j, 0), (6, j, 0), (7, j, 0), (3, j, 0), (3, j, 1), (3, j, 2), (3, j, 3), (3, j, 4)]
def idL : List I3 := [(0, 0, 0), (8, 0, 0), (9, 0, 0), (10, 0, 0), (11, 0, 0), (12, 0, 0), (13, 0, 0), (14, 0, 0), (15, 0, 0), (15, 1, 0), (15, 2, 0), (15, 3, 0), (15, 5, 0), (15, 6, 0), (15, 7, 0), (16, 0, 0)] ++ (List.range 9).flatMap stIds
theorem idL_nodup : idL.Nodup := by decide +kernel
theorem id_st : ∀ j, j < 9 → (1, j, 0) ∈ idL ∧ (2, j, 0) ∈ idL ∧ (4, j, 0) ∈ idL ∧ (5, j, 0) ∈ idL ∧ (6, j, 0) ∈ idL ∧ (7, j, 0) ∈ idL ∧ ∀ k, k < 5 → (3, j, k) ∈ idL := by
  have h : ∀ j, j < 9 → ∀ q ∈ stIds j, q ∈ idL := by decide +kernel
  intro j hj
  have h' := h j hj
  refine ⟨h' _ (by simp [stIds]), h' _ (by simp [stIds]), h' _ (by simp [stIds]), h' _ (by simp [stIds]), h' _ (by simp [stIds]), h' _ (by simp [stIds]), fun k hk => ?_⟩
  rcases (show k = 0 ∨ k = 1 ∨ k = 2 ∨ k = 3 ∨ k = 4 by omega) with rfl | rfl | rfl | rfl | rfl <;> exact h' _ (by simp [stIds])
theorem id_1 {j : Nat} (h : j < 9) : (1, j, 0) ∈ idL := (id_st j h).1
theorem id_2 {j : Nat} (h : j < 9) : (2, j, 0) ∈ idL := (id_st j h).2.1
theorem id_4 {j : Nat} (h : j < 9) : (4, j, 0) ∈ idL := (id_st j h).2.2.1
theorem id_5 {j : Nat} (h : j < 9) : (5, j, 0) ∈ idL := (id_st j h).2.2.2.1
theorem id_6 {j : Nat} (h : j < 9) : (6, j, 0) ∈ idL := (id_st j h).2.2.2.2.1
theorem id_7 {j : Nat} (h : j < 9) : (7, j, 0) ∈ idL := (id_st j h).2.2.2.2.2.1
theorem id_3 {j k : Nat} (h : j < 9) (hk : k < 5) : (3, j, k) ∈ idL := (id_st j h).2.2.2.2.2.2 k hk
def tr (n off : Nat) (f : Nat → Int32) : Nat → Int32 := fun i => if i < n then f (off + i) else 0
def trR (n : Nat) (f : Nat → Nat) : Nat → Option Nat := fun i => if i < n then some (f i) else none
def nI' (n : Nat) : Int32 := Int32.ofNat n
/-- what stands in a cell -/
def cell (ca : Nat → ClassId) (ad : I3 → Nat) (G : GS) : I3 → va_E := fun q => match q with
  | (0, _, _) => .inr (5, [.ref (ad (1, 0, 0)), .ref (ad (1, 1, 0)), .ref (ad (8, 0, 0)), .ref (ad (9, 0, 0)), .ref (ad (10, 0, 0)), .ref (ad (11, 0, 0)), .ref (ad (1, (G.2.1 0).val, 0)), .int (G.1 13 0)])
  | (1, j, _) => .inr (3, [.ref (ad (2, j, 0)), .ref (ad (4, j, 0)), .ref (ad (5, j, 0)), .int (G.1 j 19), .int (G.1 j 6), .int (G.1 j 7), .int (G.1 j 8), .int (G.1 j 9), .int (G.1 j 10), .int (G.1 j 18), .int (G.1 j 11), .int (G.1 j 12), .int (G.1 j 13)])
  | (2, j, _) => .inl (ca 3, 5, .inr (.inr (.inr (.inr (trR 5 (fun i => ad (3, j, i)))))))
  | (3, j, k) => .inr (1, [.int (nI' k), .int (G.1 j (20 + 15 * k + 0)), .int (G.1 j (20 + 15 * k + 1)), .int (G.1 j (20 + 15 * k + 2)), .int (G.1 j (20 + 15 * k + 5)), .int (G.1 j (20 + 15 * k + 3)), .int (G.1 j (20 + 15 * k + 4)), .int (G.1 j (20 + 15 * k + 6)), .int (G.1 j (20 + 15 * k + 7)), .int (G.1 j (20 + 15 * k + 12)), .int (G.1 j (20 + 15 * k + 8)), .int (G.1 j (20 + 15 * k + 9)), .int (G.1 j (20 + 15 * k + 10)), .int (G.1 j (20 + 15 * k + 11)), .int (G.1 j (20 + 15 * k + 13)), .int (G.1 j (20 + 15 * k + 14))])
  | (4, j, _) => .inr (2, [.int (G.1 j 0), .int (G.1 j 1), .int (G.1 j 2), .int (G.1 j 3), .int (G.1 j 4), .int (G.1 j 5)])
  | (5, j, _) => .inr (0, [.ref (ad (6, j, 0)), .ref (ad (7, j, 0)), .int (G.1 j 14), .int (G.1 j 15)])
  | (6, j, _) => .inl (ca 0, 4, .inl (tr 4 96 (G.1 j)))
  | (7, j, _) => .inl (ca 0, 20, .inl (tr 20 100 (G.1 j)))
  | (8, _, _) => .inl (ca 4, 4, .inr (.inr (.inr (.inr (trR 4 (fun i => ad (1, (G.2.1 (1 + i)).val, 0)))))))
  | (9, _, _) => .inl (ca 4, 2, .inr (.inr (.inr (.inr (trR 2 (fun i => ad (1, 7 + i, 0)))))))
  | (10, _, _) => .inl (ca 2, 2, .inl (tr 2 0 (G.1 12)))
  | (11, _, _) => .inr (4, [.ref (ad (12, 0, 0)), .ref (ad (13, 0, 0)), .int (G.1 11 0), .int (G.1 11 1), .int (G.1 11 2), .int (G.1 11 3), .int (G.1 11 4), .int (G.1 11 5)])
  | (12, _, _) => .inl (ca 1, 60, .inl (tr 60 0 (G.1 9)))
  | (13, _, _) => .inl (ca 0, 3, .inl (tr 3 0 (G.1 10)))
  | (14, _, _) => .inr (6, [.ref (ad (15, 0, 0)), .ref (ad (15, 1, 0)), .ref (ad (15, 2, 0)), .int (G.2.2 8 0), .ref (ad (15, 3, 0)), .ref (ad (16, 0, 0)), .ref (ad (15, 5, 0)), .ref (ad (15, 6, 0)), .int (G.2.2 8 1), .int (G.2.2 8 2), .ref (ad (15, 7, 0)), .int (G.2.2 8 3), .int (G.2.2 8 4), .int (G.2.2 8 5), .int (G.2.2 8 6)])
  | (16, _, _) => .inl (ca 2, 2, .inl (tr 2 0 (G.2.2 4)))
  | (_, 0, _) => .inl (ca 0, 120, .inl (tr 120 0 (G.2.2 0)))
  | (_, 1, _) => .inl (ca 0, 120, .inl (tr 120 0 (G.2.2 1)))
  | (_, 2, _) => .inl (ca 0, 480, .inl (tr 480 0 (G.2.2 2)))
  | (_, 3, _) => .inl (ca 0, 240, .inl (tr 240 0 (G.2.2 3)))
  | (_, 5, _) => .inl (ca 0, 120, .inl (tr 120 0 (G.2.2 5)))
  | (_, 6, _) => .inl (ca 0, 60, .inl (tr 60 0 (G.2.2 6)))
  | (_, _, _) => .inl (ca 0, 3, .inl (tr 3 0 (G.2.2 7)))
def wsG (ca : Nat → ClassId) (ad : I3 → Nat) (G : GS) : va_W := idL.map (fun i => (ad i, cell ca ad G i))
def tysG (ca : Nat → ClassId) : List (ClassId × FieldType) := [(ca 0, .int), (ca 1, .char), (ca 2, .boolean), (ca 3, .object RX1), (ca 4, .object RX3)]
def adI (ad : I3 → Nat) : Prop := ∀ i ∈ idL, ∀ j ∈ idL, ad i = ad j → i = j
def adA (ad : I3 → Nat) : Nat → Prop := fun q => ∃ i ∈ idL, ad i = q
theorem ws_ix {id : I3} (h : id ∈ idL) : ∃ q : Nat, idL[q]? = some id := List.getElem?_of_mem h
theorem ws_at {ca : Nat → ClassId} {ad : I3 → Nat} {G : GS} {id : I3} {q : Nat} (h : idL[q]? = some id) : (wsG ca ad G)[q]? = some (ad id, cell ca ad G id) := by
  unfold wsG
  rw [List.getElem?_map, h]; rfl
theorem ws_of {ca : Nat → ClassId} {ad : I3 → Nat} {G : GS} {q : Nat} {x : Nat × va_E} (h : (wsG ca ad G)[q]? = some x) : ∃ id, idL[q]? = some id ∧ x = (ad id, cell ca ad G id) := by
  unfold wsG at h
  rw [List.getElem?_map] at h
  cases hq : idL[q]? with
  | none => rw [hq] at h; cases h
  | some id => rw [hq] at h; cases h; exact ⟨id, rfl, rfl⟩
theorem id_inj {p q : Nat} {id : I3} (h1 : idL[p]? = some id) (h2 : idL[q]? = some id) : p = q := by
  have hl := (List.getElem?_eq_some_iff.mp h1).1
  exact (List.getElem?_inj hl idL_nodup).mp (h1.trans h2.symm)
theorem ws_set {ca : Nat → ClassId} {ad : I3 → Nat} {G G' : GS} {id : I3} {q : Nat} {e : va_E} (h : idL[q]? = some id) (he : cell ca ad G' id = e) (ho : ∀ id' ∈ idL, id' ≠ id → cell ca ad G' id' = cell ca ad G id') : (wsG ca ad G).set q (ad id, e) = wsG ca ad G' := by
  subst he
  apply List.ext_getElem?
  intro k
  by_cases hk : k = q
  · subst hk
    rw [List.getElem?_set_self (List.getElem?_eq_some_iff.mp (ws_at h)).1, ws_at h]
  · rw [List.getElem?_set_ne (Ne.symm hk)]
    unfold wsG
    rw [List.getElem?_map, List.getElem?_map]
    cases hx : idL[k]? with
    | none => rfl
    | some id' =>
      have hne : id' ≠ id := fun e => hk (id_inj (e ▸ hx) h)
      show some (ad id', cell ca ad G id') = some (ad id', cell ca ad G' id')
      rw [ho id' (List.mem_of_getElem? hx) hne]
theorem ws_D {ca : Nat → ClassId} {ad : I3 → Nat} (hi : adI ad) (G : GS) : va_D (adA ad) (wsG ca ad G) := by
  refine ⟨fun i j p q h1 h2 hpq => ?_, fun k q h => ?_⟩
  · obtain ⟨a, ha, rfl⟩ := ws_of h1
    obtain ⟨b, hb, rfl⟩ := ws_of h2
    have := hi a (List.mem_of_getElem? ha) b (List.mem_of_getElem? hb) hpq
    subst this
    exact id_inj ha hb
  · obtain ⟨a, ha, rfl⟩ := ws_of h
    exact ⟨a, List.mem_of_getElem? ha, rfl⟩
/-! places of numbers -/
def updA (C : Nat → Nat → Int32) (a : Nat) (f : Nat → Int32) : Nat → Nat → Int32 := fun x => if x = a then f else C x
abbrev Lc : Type := Bool × Nat × Nat
def grow (G : GS) (b : Bool) (a : Nat) : Nat → Int32 := if b then G.2.2 a else G.1 a
def gget (G : GS) (L : Lc) : Int32 := grow G L.1 L.2.1 L.2.2
def gset (G : GS) (L : Lc) (v : Int32) : GS := if L.1 then (G.1, G.2.1, updA G.2.2 L.2.1 (upd (G.2.2 L.2.1) L.2.2 v)) else (updA G.1 L.2.1 (upd (G.1 L.2.1) L.2.2 v), G.2)
theorem gset_B (G : GS) (L : Lc) (v : Int32) : (gset G L v).2.1 = G.2.1 := by
  obtain ⟨b, a, i⟩ := L
  cases b <;> rfl
theorem updA_same (C : Nat → Nat → Int32) (a : Nat) (f : Nat → Int32) : updA C a f a = f := by simp [updA]
theorem updA_ne {C : Nat → Nat → Int32} {a x : Nat} (f : Nat → Int32) (h : x ≠ a) : updA C a f x = C x := by simp [updA, h]
theorem updA_updA (C : Nat → Nat → Int32) (a : Nat) (f g : Nat → Int32) : updA (updA C a f) a g = updA C a g := by
  funext x
  by_cases h : x = a <;> simp [updA, h]
theorem updA_self (C : Nat → Nat → Int32) (a : Nat) : updA C a (C a) = C := by
  funext x
  by_cases h : x = a <;> simp [updA, h]
theorem gget_gset (G : GS) (L : Lc) (v : Int32) : gget (gset G L v) L = v := by
  obtain ⟨b, a, i⟩ := L
  cases b <;> simp [gget, gset, grow, updA, upd]
theorem updA_upd_ne {C : Nat → Nat → Int32} {a i a' i' : Nat} (v : Int32) (h : ¬ (a' = a ∧ i' = i)) : updA C a (upd (C a) i v) a' i' = C a' i' := by
  unfold updA upd
  by_cases ha : a' = a
  · subst ha
    rw [if_pos rfl, if_neg (fun e => h ⟨rfl, e⟩)]
  · rw [if_neg ha]
theorem gget_gset_ne {G : GS} {L L' : Lc} (v : Int32) (h : L' ≠ L) : gget (gset G L v) L' = gget G L' := by
  obtain ⟨b, a, i⟩ := L
  obtain ⟨b', a', i'⟩ := L'
  cases b <;> cases b'
  · exact updA_upd_ne v (fun e => h (by obtain ⟨rfl, rfl⟩ : a' = a ∧ i' = i := e; rfl))
  · rfl
  · rfl
  · exact updA_upd_ne v (fun e => h (by obtain ⟨rfl, rfl⟩ : a' = a ∧ i' = i := e; rfl))
def ownL (L : Lc) : I3 := match L with
  | (false, a, i) => if a < 9 then (if i < 6 then (4, a, 0) else if i < 14 then (1, a, 0) else if i < 16 then (5, a, 0) else if i < 20 then (1, a, 0) else if i < 95 then (3, a, (i - 20) / 15) else if i < 96 then (1, a, 0) else if i < 100 then (6, a, 0) else (7, a, 0)) else if a = 9 then (12, 0, 0) else if a = 10 then (13, 0, 0) else if a = 11 then (11, 0, 0) else if a = 12 then (10, 0, 0) else (0, 0, 0)
  | (true, a, _) => if a = 8 then (14, 0, 0) else if a = 4 then (16, 0, 0) else (15, a, 0)
theorem tr_congr {n off : Nat} {f g : Nat → Int32} (h : ∀ i, i < n → f (off + i) = g (off + i)) : tr n off f = tr n off g := by
  funext i
  unfold tr
  by_cases hi : i < n
  · rw [if_pos hi, if_pos hi, h i hi]
  · rw [if_neg hi, if_neg hi]
theorem tr_upd {n off i : Nat} (f : Nat → Int32) (v : Int32) (hi : i < n) : tr n off (upd f (off + i) v) = upd (tr n off f) i v := by
  funext j
  unfold tr upd
  by_cases hj : j = i
  · subst hj; simp [hi]
  · by_cases hn : j < n
    · simp [hn, hj]
    · simp [hn, hj]
theorem tr_at {n off i : Nat} (f : Nat → Int32) (hi : i < n) : tr n off f i = f (off + i) := by simp [tr, hi]
end
section
/-! ROWS: the frame of the cells, the judgement J, a row an instruction -/
def okId : I3 → Bool := fun q => match q with
  | (0, a, k) => a == 0 && k == 0
  | (3, j, k) => decide (j < 9) && decide (k < 5)
  | (8, a, k) => a == 0 && k == 0
  | (9, a, k) => a == 0 && k == 0
  | (10, a, k) => a == 0 && k == 0
  | (11, a, k) => a == 0 && k == 0
  | (12, a, k) => a == 0 && k == 0
  | (13, a, k) => a == 0 && k == 0
  | (14, a, k) => a == 0 && k == 0
  | (15, a, k) => decide (a < 8) && a != 4 && k == 0
  | (16, a, k) => a == 0 && k == 0
  | (t, j, k) => decide (t < 8) && decide (j < 9) && k == 0
theorem id_ok : ∀ id ∈ idL, okId id = true := by decide +kernel
theorem frC {G G' : GS} {id : I3} (h : ∀ L, ownL L = id → gget G' L = gget G L) {a i : Nat} (ho : ownL (false, a, i) = id) : G'.1 a i = G.1 a i := h (false, a, i) ho
theorem frM {G G' : GS} {id : I3} (h : ∀ L, ownL L = id → gget G' L = gget G L) {a i : Nat} (ho : ownL (true, a, i) = id) : G'.2.2 a i = G.2.2 a i := h (true, a, i) ho
theorem cf_0 {ca : Nat → ClassId} {ad : I3 → Nat} {G G' : GS} {j k : Nat} (hB : G'.2.1 = G.2.1) (h : ∀ L, ownL L = (0, 0, 0) → gget G' L = gget G L) : cell ca ad G' (0, 0, 0) = cell ca ad G (0, 0, 0) := by
  have e0 := frC h (a := 13) (i := 0) (by simp [ownL])
  simp only [cell, hB, e0]
theorem cf_1 {ca : Nat → ClassId} {ad : I3 → Nat} {G G' : GS} {j k : Nat} (hj : j < 9) (hB : G'.2.1 = G.2.1) (h : ∀ L, ownL L = (1, j, 0) → gget G' L = gget G L) : cell ca ad G' (1, j, 0) = cell ca ad G (1, j, 0) := by
  have e0 := frC h (a := j) (i := 19) (by simp [ownL, hj])
  have e1 := frC h (a := j) (i := 6) (by simp [ownL, hj])
  have e2 := frC h (a := j) (i := 7) (by simp [ownL, hj])
  have e3 := frC h (a := j) (i := 8) (by simp [ownL, hj])
  have e4 := frC h (a := j) (i := 9) (by simp [ownL, hj])
  have e5 := frC h (a := j) (i := 10) (by simp [ownL, hj])
  have e6 := frC h (a := j) (i := 18) (by simp [ownL, hj])
  have e7 := frC h (a := j) (i := 11) (by simp [ownL, hj])
  have e8 := frC h (a := j) (i := 12) (by simp [ownL, hj])
  have e9 := frC h (a := j) (i := 13) (by simp [ownL, hj])
  simp only [cell, hB, e0, e1, e2, e3, e4, e5, e6, e7, e8, e9]
theorem cf_2 {ca : Nat → ClassId} {ad : I3 → Nat} {G G' : GS} {j k : Nat} (hB : G'.2.1 = G.2.1) (h : ∀ L, ownL L = (2, j, 0) → gget G' L = gget G L) : cell ca ad G' (2, j, 0) = cell ca ad G (2, j, 0) := by
  simp only [cell, hB]
theorem cf_3 {ca : Nat → ClassId} {ad : I3 → Nat} {G G' : GS} {j k : Nat} (hj : j < 9) (hk : k < 5) (hB : G'.2.1 = G.2.1) (h : ∀ L, ownL L = (3, j, k) → gget G' L = gget G L) : cell ca ad G' (3, j, k) = cell ca ad G (3, j, k) := by
  have e0 := frC h (a := j) (i := 20 + 15 * k + 0) (by simp only [ownL]; rw [if_pos hj, if_neg (by omega), if_neg (by omega), if_neg (by omega), if_neg (by omega), if_pos (by omega)]; congr 2; omega)
  have e1 := frC h (a := j) (i := 20 + 15 * k + 1) (by simp only [ownL]; rw [if_pos hj, if_neg (by omega), if_neg (by omega), if_neg (by omega), if_neg (by omega), if_pos (by omega)]; congr 2; omega)
  have e2 := frC h (a := j) (i := 20 + 15 * k + 2) (by simp only [ownL]; rw [if_pos hj, if_neg (by omega), if_neg (by omega), if_neg (by omega), if_neg (by omega), if_pos (by omega)]; congr 2; omega)
  have e3 := frC h (a := j) (i := 20 + 15 * k + 5) (by simp only [ownL]; rw [if_pos hj, if_neg (by omega), if_neg (by omega), if_neg (by omega), if_neg (by omega), if_pos (by omega)]; congr 2; omega)
  have e4 := frC h (a := j) (i := 20 + 15 * k + 3) (by simp only [ownL]; rw [if_pos hj, if_neg (by omega), if_neg (by omega), if_neg (by omega), if_neg (by omega), if_pos (by omega)]; congr 2; omega)
  have e5 := frC h (a := j) (i := 20 + 15 * k + 4) (by simp only [ownL]; rw [if_pos hj, if_neg (by omega), if_neg (by omega), if_neg (by omega), if_neg (by omega), if_pos (by omega)]; congr 2; omega)
  have e6 := frC h (a := j) (i := 20 + 15 * k + 6) (by simp only [ownL]; rw [if_pos hj, if_neg (by omega), if_neg (by omega), if_neg (by omega), if_neg (by omega), if_pos (by omega)]; congr 2; omega)
  have e7 := frC h (a := j) (i := 20 + 15 * k + 7) (by simp only [ownL]; rw [if_pos hj, if_neg (by omega), if_neg (by omega), if_neg (by omega), if_neg (by omega), if_pos (by omega)]; congr 2; omega)
  have e8 := frC h (a := j) (i := 20 + 15 * k + 12) (by simp only [ownL]; rw [if_pos hj, if_neg (by omega), if_neg (by omega), if_neg (by omega), if_neg (by omega), if_pos (by omega)]; congr 2; omega)
  have e9 := frC h (a := j) (i := 20 + 15 * k + 8) (by simp only [ownL]; rw [if_pos hj, if_neg (by omega), if_neg (by omega), if_neg (by omega), if_neg (by omega), if_pos (by omega)]; congr 2; omega)
  have e10 := frC h (a := j) (i := 20 + 15 * k + 9) (by simp only [ownL]; rw [if_pos hj, if_neg (by omega), if_neg (by omega), if_neg (by omega), if_neg (by omega), if_pos (by omega)]; congr 2; omega)
  have e11 := frC h (a := j) (i := 20 + 15 * k + 10) (by simp only [ownL]; rw [if_pos hj, if_neg (by omega), if_neg (by omega), if_neg (by omega), if_neg (by omega), if_pos (by omega)]; congr 2; omega)
  have e12 := frC h (a := j) (i := 20 + 15 * k + 11) (by simp only [ownL]; rw [if_pos hj, if_neg (by omega), if_neg (by omega), if_neg (by omega), if_neg (by omega), if_pos (by omega)]; congr 2; omega)
  have e13 := frC h (a := j) (i := 20 + 15 * k + 13) (by simp only [ownL]; rw [if_pos hj, if_neg (by omega), if_neg (by omega), if_neg (by omega), if_neg (by omega), if_pos (by omega)]; congr 2; omega)
  have e14 := frC h (a := j) (i := 20 + 15 * k + 14) (by simp only [ownL]; rw [if_pos hj, if_neg (by omega), if_neg (by omega), if_neg (by omega), if_neg (by omega), if_pos (by omega)]; congr 2; omega)
  simp only [cell, hB, e0, e1, e2, e3, e4, e5, e6, e7, e8, e9, e10, e11, e12, e13, e14]
theorem cf_4 {ca : Nat → ClassId} {ad : I3 → Nat} {G G' : GS} {j k : Nat} (hj : j < 9) (hB : G'.2.1 = G.2.1) (h : ∀ L, ownL L = (4, j, 0) → gget G' L = gget G L) : cell ca ad G' (4, j, 0) = cell ca ad G (4, j, 0) := by
  have e0 := frC h (a := j) (i := 0) (by simp [ownL, hj])
  have e1 := frC h (a := j) (i := 1) (by simp [ownL, hj])
  have e2 := frC h (a := j) (i := 2) (by simp [ownL, hj])
  have e3 := frC h (a := j) (i := 3) (by simp [ownL, hj])
  have e4 := frC h (a := j) (i := 4) (by simp [ownL, hj])
  have e5 := frC h (a := j) (i := 5) (by simp [ownL, hj])
  simp only [cell, hB, e0, e1, e2, e3, e4, e5]
theorem cf_5 {ca : Nat → ClassId} {ad : I3 → Nat} {G G' : GS} {j k : Nat} (hj : j < 9) (hB : G'.2.1 = G.2.1) (h : ∀ L, ownL L = (5, j, 0) → gget G' L = gget G L) : cell ca ad G' (5, j, 0) = cell ca ad G (5, j, 0) := by
  have e0 := frC h (a := j) (i := 14) (by simp [ownL, hj])
  have e1 := frC h (a := j) (i := 15) (by simp [ownL, hj])
  simp only [cell, hB, e0, e1]
theorem cf_6 {ca : Nat → ClassId} {ad : I3 → Nat} {G G' : GS} {j k : Nat} (hj : j < 9) (hB : G'.2.1 = G.2.1) (h : ∀ L, ownL L = (6, j, 0) → gget G' L = gget G L) : cell ca ad G' (6, j, 0) = cell ca ad G (6, j, 0) := by
  have e := tr_congr (n := 4) (off := 96) (f := G'.1 j) (g := G.1 j) (fun i hi => frC h (by simp only [ownL]; rw [if_pos hj, if_neg (by omega), if_neg (by omega), if_neg (by omega), if_neg (by omega), if_neg (by omega), if_neg (by omega), if_pos (by omega)]))
  simp only [cell, e]
theorem cf_7 {ca : Nat → ClassId} {ad : I3 → Nat} {G G' : GS} {j k : Nat} (hj : j < 9) (hB : G'.2.1 = G.2.1) (h : ∀ L, ownL L = (7, j, 0) → gget G' L = gget G L) : cell ca ad G' (7, j, 0) = cell ca ad G (7, j, 0) := by
  have e := tr_congr (n := 20) (off := 100) (f := G'.1 j) (g := G.1 j) (fun i hi => frC h (by simp only [ownL]; rw [if_pos hj, if_neg (by omega), if_neg (by omega), if_neg (by omega), if_neg (by omega), if_neg (by omega), if_neg (by omega), if_neg (by omega)]))
  simp only [cell, e]
theorem cf_8 {ca : Nat → ClassId} {ad : I3 → Nat} {G G' : GS} {j k : Nat} (hB : G'.2.1 = G.2.1) (h : ∀ L, ownL L = (8, 0, 0) → gget G' L = gget G L) : cell ca ad G' (8, 0, 0) = cell ca ad G (8, 0, 0) := by
  simp only [cell, hB]
theorem cf_9 {ca : Nat → ClassId} {ad : I3 → Nat} {G G' : GS} {j k : Nat} (hB : G'.2.1 = G.2.1) (h : ∀ L, ownL L = (9, 0, 0) → gget G' L = gget G L) : cell ca ad G' (9, 0, 0) = cell ca ad G (9, 0, 0) := by
  simp only [cell, hB]
theorem cf_10 {ca : Nat → ClassId} {ad : I3 → Nat} {G G' : GS} {j k : Nat} (hB : G'.2.1 = G.2.1) (h : ∀ L, ownL L = (10, 0, 0) → gget G' L = gget G L) : cell ca ad G' (10, 0, 0) = cell ca ad G (10, 0, 0) := by
  have e := tr_congr (n := 2) (off := 0) (f := G'.1 12) (g := G.1 12) (fun i hi => frC h (by simp [ownL]))
  simp only [cell, e]
theorem cf_11 {ca : Nat → ClassId} {ad : I3 → Nat} {G G' : GS} {j k : Nat} (hB : G'.2.1 = G.2.1) (h : ∀ L, ownL L = (11, 0, 0) → gget G' L = gget G L) : cell ca ad G' (11, 0, 0) = cell ca ad G (11, 0, 0) := by
  have e0 := frC h (a := 11) (i := 0) (by simp [ownL])
  have e1 := frC h (a := 11) (i := 1) (by simp [ownL])
  have e2 := frC h (a := 11) (i := 2) (by simp [ownL])
  have e3 := frC h (a := 11) (i := 3) (by simp [ownL])
  have e4 := frC h (a := 11) (i := 4) (by simp [ownL])
  have e5 := frC h (a := 11) (i := 5) (by simp [ownL])
  simp only [cell, hB, e0, e1, e2, e3, e4, e5]
theorem cf_12 {ca : Nat → ClassId} {ad : I3 → Nat} {G G' : GS} {j k : Nat} (hB : G'.2.1 = G.2.1) (h : ∀ L, ownL L = (12, 0, 0) → gget G' L = gget G L) : cell ca ad G' (12, 0, 0) = cell ca ad G (12, 0, 0) := by
  have e := tr_congr (n := 60) (off := 0) (f := G'.1 9) (g := G.1 9) (fun i hi => frC h (by simp [ownL]))
  simp only [cell, e]
theorem cf_13 {ca : Nat → ClassId} {ad : I3 → Nat} {G G' : GS} {j k : Nat} (hB : G'.2.1 = G.2.1) (h : ∀ L, ownL L = (13, 0, 0) → gget G' L = gget G L) : cell ca ad G' (13, 0, 0) = cell ca ad G (13, 0, 0) := by
  have e := tr_congr (n := 3) (off := 0) (f := G'.1 10) (g := G.1 10) (fun i hi => frC h (by simp [ownL]))
  simp only [cell, e]
theorem cf_14 {ca : Nat → ClassId} {ad : I3 → Nat} {G G' : GS} {j k : Nat} (hB : G'.2.1 = G.2.1) (h : ∀ L, ownL L = (14, 0, 0) → gget G' L = gget G L) : cell ca ad G' (14, 0, 0) = cell ca ad G (14, 0, 0) := by
  have e0 := frM h (a := 8) (i := 0) (by simp [ownL])
  have e1 := frM h (a := 8) (i := 1) (by simp [ownL])
  have e2 := frM h (a := 8) (i := 2) (by simp [ownL])
  have e3 := frM h (a := 8) (i := 3) (by simp [ownL])
  have e4 := frM h (a := 8) (i := 4) (by simp [ownL])
  have e5 := frM h (a := 8) (i := 5) (by simp [ownL])
  have e6 := frM h (a := 8) (i := 6) (by simp [ownL])
  simp only [cell, hB, e0, e1, e2, e3, e4, e5, e6]
theorem cf_15_0 {ca : Nat → ClassId} {ad : I3 → Nat} {G G' : GS} {j k : Nat} (hB : G'.2.1 = G.2.1) (h : ∀ L, ownL L = (15, 0, 0) → gget G' L = gget G L) : cell ca ad G' (15, 0, 0) = cell ca ad G (15, 0, 0) := by
  have e := tr_congr (n := 120) (off := 0) (f := G'.2.2 0) (g := G.2.2 0) (fun i hi => frM h (by simp [ownL]))
  simp only [cell, e]
theorem cf_15_1 {ca : Nat → ClassId} {ad : I3 → Nat} {G G' : GS} {j k : Nat} (hB : G'.2.1 = G.2.1) (h : ∀ L, ownL L = (15, 1, 0) → gget G' L = gget G L) : cell ca ad G' (15, 1, 0) = cell ca ad G (15, 1, 0) := by
  have e := tr_congr (n := 120) (off := 0) (f := G'.2.2 1) (g := G.2.2 1) (fun i hi => frM h (by simp [ownL]))
  simp only [cell, e]
theorem cf_15_2 {ca : Nat → ClassId} {ad : I3 → Nat} {G G' : GS} {j k : Nat} (hB : G'.2.1 = G.2.1) (h : ∀ L, ownL L = (15, 2, 0) → gget G' L = gget G L) : cell ca ad G' (15, 2, 0) = cell ca ad G (15, 2, 0) := by
  have e := tr_congr (n := 480) (off := 0) (f := G'.2.2 2) (g := G.2.2 2) (fun i hi => frM h (by simp [ownL]))
  simp only [cell, e]
theorem cf_15_3 {ca : Nat → ClassId} {ad : I3 → Nat} {G G' : GS} {j k : Nat} (hB : G'.2.1 = G.2.1) (h : ∀ L, ownL L = (15, 3, 0) → gget G' L = gget G L) : cell ca ad G' (15, 3, 0) = cell ca ad G (15, 3, 0) := by
  have e := tr_congr (n := 240) (off := 0) (f := G'.2.2 3) (g := G.2.2 3) (fun i hi => frM h (by simp [ownL]))
  simp only [cell, e]
theorem cf_15_5 {ca : Nat → ClassId} {ad : I3 → Nat} {G G' : GS} {j k : Nat} (hB : G'.2.1 = G.2.1) (h : ∀ L, ownL L = (15, 5, 0) → gget G' L = gget G L) : cell ca ad G' (15, 5, 0) = cell ca ad G (15, 5, 0) := by
  have e := tr_congr (n := 120) (off := 0) (f := G'.2.2 5) (g := G.2.2 5) (fun i hi => frM h (by simp [ownL]))
  simp only [cell, e]
theorem cf_15_6 {ca : Nat → ClassId} {ad : I3 → Nat} {G G' : GS} {j k : Nat} (hB : G'.2.1 = G.2.1) (h : ∀ L, ownL L = (15, 6, 0) → gget G' L = gget G L) : cell ca ad G' (15, 6, 0) = cell ca ad G (15, 6, 0) := by
  have e := tr_congr (n := 60) (off := 0) (f := G'.2.2 6) (g := G.2.2 6) (fun i hi => frM h (by simp [ownL]))
  simp only [cell, e]
theorem cf_15_7 {ca : Nat → ClassId} {ad : I3 → Nat} {G G' : GS} {j k : Nat} (hB : G'.2.1 = G.2.1) (h : ∀ L, ownL L = (15, 7, 0) → gget G' L = gget G L) : cell ca ad G' (15, 7, 0) = cell ca ad G (15, 7, 0) := by
  have e := tr_congr (n := 3) (off := 0) (f := G'.2.2 7) (g := G.2.2 7) (fun i hi => frM h (by simp [ownL]))
  simp only [cell, e]
theorem cf_16 {ca : Nat → ClassId} {ad : I3 → Nat} {G G' : GS} {j k : Nat} (hB : G'.2.1 = G.2.1) (h : ∀ L, ownL L = (16, 0, 0) → gget G' L = gget G L) : cell ca ad G' (16, 0, 0) = cell ca ad G (16, 0, 0) := by
  have e := tr_congr (n := 2) (off := 0) (f := G'.2.2 4) (g := G.2.2 4) (fun i hi => frM h (by simp [ownL]))
  simp only [cell, e]
theorem cell_frame {ca : Nat → ClassId} {ad : I3 → Nat} {G G' : GS} {id : I3} (hid : id ∈ idL) (hB : G'.2.1 = G.2.1) (h : ∀ L, ownL L = id → gget G' L = gget G L) : cell ca ad G' id = cell ca ad G id := by
  have ho := id_ok id hid
  obtain ⟨t, a, k⟩ := id
  unfold okId at ho
  split at ho <;> rename_i heq <;> cases heq
  · simp only [Bool.and_eq_true, beq_iff_eq] at ho; obtain ⟨rfl, rfl⟩ := ho; exact cf_0 (j := 0) (k := 0) hB h
  · simp only [Bool.and_eq_true, decide_eq_true_eq] at ho; exact cf_3 ho.1 ho.2 hB h
  · simp only [Bool.and_eq_true, beq_iff_eq] at ho; obtain ⟨rfl, rfl⟩ := ho; exact cf_8 (j := 0) (k := 0) hB h
  · simp only [Bool.and_eq_true, beq_iff_eq] at ho; obtain ⟨rfl, rfl⟩ := ho; exact cf_9 (j := 0) (k := 0) hB h
  · simp only [Bool.and_eq_true, beq_iff_eq] at ho; obtain ⟨rfl, rfl⟩ := ho; exact cf_10 (j := 0) (k := 0) hB h
  · simp only [Bool.and_eq_true, beq_iff_eq] at ho; obtain ⟨rfl, rfl⟩ := ho; exact cf_11 (j := 0) (k := 0) hB h
  · simp only [Bool.and_eq_true, beq_iff_eq] at ho; obtain ⟨rfl, rfl⟩ := ho; exact cf_12 (j := 0) (k := 0) hB h
  · simp only [Bool.and_eq_true, beq_iff_eq] at ho; obtain ⟨rfl, rfl⟩ := ho; exact cf_13 (j := 0) (k := 0) hB h
  · simp only [Bool.and_eq_true, beq_iff_eq] at ho; obtain ⟨rfl, rfl⟩ := ho; exact cf_14 (j := 0) (k := 0) hB h
  · simp only [Bool.and_eq_true, decide_eq_true_eq, beq_iff_eq, bne_iff_ne] at ho
    obtain ⟨⟨h8, h4⟩, rfl⟩ := ho
    rcases (show a = 0 ∨ a = 1 ∨ a = 2 ∨ a = 3 ∨ a = 5 ∨ a = 6 ∨ a = 7 by omega) with rfl | rfl | rfl | rfl | rfl | rfl | rfl
    · exact cf_15_0 (j := 0) (k := 0) hB h
    · exact cf_15_1 (j := 0) (k := 0) hB h
    · exact cf_15_2 (j := 0) (k := 0) hB h
    · exact cf_15_3 (j := 0) (k := 0) hB h
    · exact cf_15_5 (j := 0) (k := 0) hB h
    · exact cf_15_6 (j := 0) (k := 0) hB h
    · exact cf_15_7 (j := 0) (k := 0) hB h
  · simp only [Bool.and_eq_true, beq_iff_eq] at ho; obtain ⟨rfl, rfl⟩ := ho; exact cf_16 (j := 0) (k := 0) hB h
  · simp only [Bool.and_eq_true, decide_eq_true_eq, beq_iff_eq] at ho
    obtain ⟨⟨h8, hj⟩, rfl⟩ := ho
    rcases (show t = 0 ∨ t = 1 ∨ t = 2 ∨ t = 3 ∨ t = 4 ∨ t = 5 ∨ t = 6 ∨ t = 7 by omega) with rfl | rfl | rfl | rfl | rfl | rfl | rfl | rfl
    · simp_all
    · exact cf_1 (k := 0) hj hB h
    · exact cf_2 (k := 0) hB h
    · simp_all
    · exact cf_4 (k := 0) hj hB h
    · exact cf_5 (k := 0) hj hB h
    · exact cf_6 (k := 0) hj hB h
    · exact cf_7 (k := 0) hj hB h
end
section
/-! ROWS: one judgement J over the picture of all cells-/
def tab (t i : Nat) : Int32 := ([[500, 20, 50, 1, 0, 0], [5000, 900, 5000, 30, 12, 1], [50, 200, 700]].getD t []).getD i 0
def tabN (t : Nat) : Nat := if t = 2 then 3 else 6
def tabF (t : Nat) : String := if t = 0 then "LEAST_SETTINGS" else if t = 1 then "MOST_SETTINGS" else "JUGS"
/-- the static tables -/
def stA (ad : I3 → Nat) (U : State) (H : Heap) : Prop := ∀ t, t < 3 → va_Z RX5 (tabF t) "[I" (.ref (ad (17, t, 0))) (adA ad) U H ∧ va_T .int (ad (17, t, 0)) (tabN t) (fun i => .int (tab t i)) (adA ad) U H
theorem stA_to {ad : I3 → Nat} {s t : State} {H : Heap} {locs : List Loc} (h : stA ad s s.heap) (hW : s.WarmedH t.vm) (hS : va_S (adA ad) s.heap H locs) (ht : t.heap = H) : stA ad t t.heap := by
  intro i hi
  have hk : ∀ a : Nat, a < s.heap.size → ¬ adA ad a → t.heap[a]? = s.heap[a]? := fun a h1 h2 => by rw [ht]; exact hS.2.1 a h1 h2
  exact ⟨((h i hi).1.kept hk).moved hW.alike, ((h i hi).2.kept hk).moved hW.alike⟩
/-- the world as a method sees it -/
def rU (D : va_G) (ca : Nat → ClassId) (ad : I3 → Nat) (G : GS) (U : State) : Prop := va_P D vwCl (wsG ca ad G) U.heap ∧ va_K D vwCl (tysG ca) U ∧ stA ad U U.heap ∧ nwU U
theorem rU_calling {D : va_G} {ca : Nat → ClassId} {ad : I3 → Nat} {G : GS} {U : State} (g : JFrame) (mk : MethodId) (a : Array Value) (h : rU D ca ad G U) : rU D ca ad G (U.calling g mk a) := by
  obtain ⟨h1, h2, h3, h4⟩ := h
  refine ⟨h1, va_K.moved (u := U) (U := U.calling g mk a) (Vm.Alike.refl U.vm) h2, fun t ht => ⟨?_, ?_⟩, nw_same (u := U) (U := U.calling g mk a) rfl h4⟩
  · exact va_Z.moved (u := U) (U := U.calling g mk a) (Vm.Alike.refl U.vm) (h3 t ht).1
  · exact va_T.moved (u := U) (U := U.calling g mk a) (Vm.Alike.refl U.vm) (h3 t ht).2
def pre (D : va_G) (ca : Nat → ClassId) (ad : I3 → Nat) (av : List Value) (G : GS) : Array Value → State → Prop := fun v U => v = av.toArray ∧ rU D ca ad G U
def post (D : va_G) (ca : Nat → ClassId) (ad : I3 → Nat) (ro : Option Value) (G : GS) : Array Value → State → Outcome → State → Prop := fun _ st oc t => oc = .returned ro ∧ rU D ca ad G t ∧ va_F (adA ad) st t
/-- a method's contract: called in the picture G it answers ro and leaves the picture G' -/
def MT (l : Launch) (D : va_G) (ca : Nat → ClassId) (ad : I3 → Nat) (y : MethodName) (b : ByteArray) (maxL : Nat) (ret : Option FieldType) (fr lo : Nat) (av : List Value) (G : GS) (ro : Option Value) (G' : GS) : Prop :=
  Met l y (.code y b maxL ret :: BG) ({ frames := fr, cells := 0, slots := 0, locals := lo }) (pre D ca ad av G) (post D ca ad ro G') 0 0 (adA ad)
def Cx (D : va_G) (ca : Nat → ClassId) (ad : I3 → Nat) (p : Program) (s : State) (m : MethodId) (args : Array Value) (meth : Method) (c : Code) (cc : ByteArray) (nL : Nat) (ow : String) : Prop :=
  p.tables.exec = Jvm.exec ∧ c.code = cc ∧ c.maxLocals = nL ∧ s.vm.findClass ow = some m.cls ∧ (∀ w ∈ BG, w.before args s = true) ∧ va_K D vwCl (tysG ca) s ∧ stA ad s s.heap ∧ nwU s ∧ adI ad ∧ meth.locks = false
def J (D : va_G) (ca : Nat → ClassId) (ad : I3 → Nat) (p : Program) (l : Launch) (e : Env) (R : Room) (s : State) (m : MethodId) (args : Array Value) (below : List Frame) (meth : Method) (c : Code) (k n : Nat) (Q : State → Prop) (nL : Nat) (G : GS) (pc : Nat) (lv : List (Nat × Value)) (st : List Value) : Prop :=
  ∀ (H : Heap) (locs : List Loc) (ls : Array Slot), va_P D vwCl (wsG ca ad G) H → va_S (adA ad) s.heap H locs → lv_has ls nL lv → W p l e R s m args below meth c H locs k n Q (F0 m pc ls st)
/-! what the tables say of a field's place, of a method -/
def FLw (ow : String) (idx ci k : Nat) (r : vw_C) : Prop := vwCl[ci]? = some r ∧ (∀ w ∈ u_ws r.1 r.2.1 r.2.2, w ∈ BG) ∧ k < r.2.2 ∧ (r.2.1 k).1 = r.1 ∧ Cond.fieldLink ow idx r.1 (r.2.1 k).2.1 (r.2.1 k).2.2.1 ∈ BG
def FLn (ow : String) (idx ci k : Nat) (r : vw_C) (host : String) : Prop := vwCl[ci]? = some r ∧ (∀ w ∈ u_ws r.1 r.2.1 r.2.2, w ∈ BG) ∧ k < r.2.2 ∧ (r.2.1 k).1 = r.1 ∧ Cond.fieldLinkNest ow idx r.1 (r.2.1 k).2.1 (r.2.1 k).2.2.1 host ∈ nestL
def PLw (k : Nat) (ty : FieldType) (r : vw_C) : Prop := (∃ ty0 : Nat → FieldType, ∀ j, j < r.2.2 → parseFieldDescriptor (r.2.1 j).2.2.1 = some (ty0 j)) ∧ (∀ a, a < r.2.2 → ∀ b, b < r.2.2 → a ≠ b → (r.2.1 a).2.1 ≠ (r.2.1 b).2.1) ∧ (r.2.1 k).2.2.2 = false ∧ parseFieldDescriptor (r.2.1 k).2.2.1 = some ty
def SL (ca : Nat → ClassId) (ad : I3 → Nat) (ci : Nat) (id : I3) (k : Nat) (L : Lc) : Prop := ∀ G : GS, ∃ fs, cell ca ad G id = .inr (ci, fs) ∧ fs[k]? = some (.int (gget G L)) ∧ k < fs.length ∧ ∀ v, cell ca ad (gset G L v) id = .inr (ci, fs.set k (.int v)) ∧ ∀ id' ∈ idL, id' ≠ id → cell ca ad (gset G L v) id' = cell ca ad G id'
theorem frame_at {ca : Nat → ClassId} {ad : I3 → Nat} {id : I3} {L : Lc} (ho : ownL L = id) (G : GS) (v : Int32) : ∀ id' ∈ idL, id' ≠ id → cell ca ad (gset G L v) id' = cell ca ad G id' := by
  intro id' h1 h2
  refine cell_frame h1 (gset_B G L v) (fun L' hL' => gget_gset_ne v (fun e => h2 ?_))
  rw [← hL', e, ho]
theorem sl_of {ca : Nat → ClassId} {ad : I3 → Nat} {ci : Nat} {id : I3} {k : Nat} {L : Lc} (ho : ownL L = id) (h : ∀ G : GS, ∃ fs, cell ca ad G id = .inr (ci, fs) ∧ fs[k]? = some (.int (gget G L)) ∧ k < fs.length ∧ ∀ v, cell ca ad (gset G L v) id = .inr (ci, fs.set k (.int v))) : SL ca ad ci id k L := by
  intro G
  obtain ⟨fs, h1, h2, h3, h4⟩ := h G
  exact ⟨fs, h1, h2, h3, fun v => ⟨h4 v, frame_at ho G v⟩⟩
def RK (ca : Nat → ClassId) (ad : I3 → Nat) (ci : Nat) (id : I3) (k : Nat) (id2 : I3) : Prop := ∀ G : GS, ∃ fs, cell ca ad G id = .inr (ci, fs) ∧ fs[k]? = some (.ref (ad id2))
def AL (ca : Nat → ClassId) (ad : I3 → Nat) (id : I3) (t n : Nat) (b : Bool) (a off : Nat) : Prop := (∀ i, i < n → ownL (b, a, off + i) = id) ∧ ∀ G : GS, cell ca ad G id = .inl (ca t, n, .inl (tr n off (grow G b a)))
def OC (ca : Nat → ClassId) (ad : I3 → Nat) (id : I3) (C : String) : Prop := ∀ G : GS, ∃ ci fs r, cell ca ad G id = .inr (ci, fs) ∧ vwCl[ci]? = some r ∧ r.1 = C
def inb (i : Int32) (n : Nat) : Bool := decide (0 ≤ i.toInt ∧ i.toInt < (n : Int))
theorem inb_vp {i : Int32} {n : Nat} (h : inb i n = true) : vp_in i n := by
  have h1 := of_decide_eq_true h
  intro q
  rcases q with q | q
  · rw [Int32.lt_iff_toInt_lt] at q
    simp at q
    omega
  · have : i.toNatClampNeg = i.toInt.toNat := rfl
    omega
theorem inb_lt {i : Int32} {n : Nat} (h : inb i n = true) : i.toNatClampNeg < n := by
  have h1 := of_decide_eq_true h
  have : i.toNatClampNeg = i.toInt.toNat := rfl
  omega
def gd {α : Type} (b : Bool) (t : Option α) : Option α := if b then t else none
theorem gd_some {α : Type} {b : Bool} {t : Option α} {r : α} (h : gd b t = some r) : b = true ∧ t = some r := by
  unfold gd at h
  cases b
  · cases h
  · exact ⟨rfl, h⟩
theorem bd_some {α β : Type} {x : Option α} {f : α → Option β} {r : β} (h : x.bind f = some r) : ∃ a, x = some a ∧ f a = some r := Option.bind_eq_some_iff.mp h
theorem if_t {α : Type} {c : Prop} {i : Decidable c} {a b r : α} (h : c) (hf : @ite α c i a b = r) : a = r := by rw [if_pos h] at hf; exact hf
theorem if_f {α : Type} {c : Prop} {i : Decidable c} {a b r : α} (h : ¬ c) (hf : @ite α c i a b = r) : b = r := by rw [if_neg h] at hf; exact hf
def nz (x : Int32) : Bool := decide (¬ x = 0)
theorem nz_ne {x : Int32} (h : nz x = true) : ¬ x = 0 := of_decide_eq_true h
def isC (x : Int32) : Bool := decide (narrow .char (.int x) = .int x)
theorem isC_eq {x : Int32} (h : isC x = true) : narrow .char (.int x) = .int x := of_decide_eq_true h
def isZ (x : Int32) : Bool := decide (narrow .boolean (.int x) = .int x)
theorem isZ_eq {x : Int32} (h : isZ x = true) : narrow .boolean (.int x) = .int x := of_decide_eq_true h
def nN (x : UInt32) : Bool := decide (x &&& 0x7fffffff ≤ 0x7f800000)
theorem nN_ok {x : UInt32} (h : nN x = true) : vf_n32 x := by unfold vf_n32; exact of_decide_eq_true h

theorem al_set {ca : Nat → ClassId} {ad : I3 → Nat} {id : I3} {t n a off i : Nat} {b : Bool} (al : AL ca ad id t n b a off) (hi : i < n) (G : GS) (v : Int32) : cell ca ad (gset G (b, a, off + i) v) id = .inl (ca t, n, .inl (upd (tr n off (grow G b a)) i v)) := by
  rw [al.2, ← tr_upd _ v hi]
  have h : grow (gset G (b, a, off + i) v) b a = upd (grow G b a) (off + i) v := by
    cases b
    · show updA G.1 a (upd (G.1 a) (off + i) v) a = _
      rw [updA_same]; rfl
    · show updA G.2.2 a (upd (G.2.2 a) (off + i) v) a = _
      rw [updA_same]; rfl
  rw [h]
section JS
variable {D : va_G} {ca : Nat → ClassId} {ad : I3 → Nat} {p : Program} {l : Launch} {e : Env} {R : Room} {s : State} {m : MethodId} {args : Array Value} {below : List Frame} {meth : Method} {c : Code} {cc : ByteArray} {nL : Nat} {ow : String} {k n : Nat} {Q : State → Prop} {G : GS} {pc : Nat} {lv : List (Nat × Value)} {st : List Value}
theorem j_iconst (C0 : Cx D ca ad p s m args meth c cc nL ow) {i : Int} {v : Int32} (hdg : decode cc pc = .ok (.iconst i, 1)) (hv : Int32.ofInt i = v) (kk : J D ca ad p l e R s m args below meth c k n Q nL G (pc + 1) lv (.int v :: st)) : J D ca ad p l e R s m args below meth c k n Q nL G pc lv st := fun H locs ls hP hS hl => lv_iconst C0.1 C0.2.1 hdg hv (kk H locs ls hP hS hl)
theorem j_bipush (C0 : Cx D ca ad p s m args meth c cc nL ow) {i : Int} {v : Int32} (hdg : decode cc pc = .ok (.bipush i, 2)) (hv : (Int8.ofInt i).toInt32 = v) (kk : J D ca ad p l e R s m args below meth c k n Q nL G (pc + 2) lv (.int v :: st)) : J D ca ad p l e R s m args below meth c k n Q nL G pc lv st := fun H locs ls hP hS hl => lv_bipush C0.1 C0.2.1 hdg hv (kk H locs ls hP hS hl)
theorem j_sipush (C0 : Cx D ca ad p s m args meth c cc nL ow) {i : Int} {v : Int32} (hdg : decode cc pc = .ok (.sipush i, 3)) (hv : (Int16.ofInt i).toInt32 = v) (kk : J D ca ad p l e R s m args below meth c k n Q nL G (pc + 3) lv (.int v :: st)) : J D ca ad p l e R s m args below meth c k n Q nL G pc lv st := fun H locs ls hP hS hl => lv_sipush C0.1 C0.2.1 hdg hv (kk H locs ls hP hS hl)
theorem j_iload_n (C0 : Cx D ca ad p s m args meth c cc nL ow) {q : Fin 4} {i : Nat} {x : Int32} (hdg : decode cc pc = .ok (.iload_n q, 1)) (hi : (q : Nat) = i) (pl : Nat) (hv : lv[pl]? = some (i, .int x)) (kk : J D ca ad p l e R s m args below meth c k n Q nL G (pc + 1) lv (.int x :: st)) : J D ca ad p l e R s m args below meth c k n Q nL G pc lv st := fun H locs ls hP hS hl => lv_iload_n C0.1 C0.2.1 hdg hi (lv_at hl pl hv) (kk H locs ls hP hS hl)
theorem j_iload (C0 : Cx D ca ad p s m args meth c cc nL ow) {i : Nat} {x : Int32} (hdg : decode cc pc = .ok (.iload i, 2)) (pl : Nat) (hv : lv[pl]? = some (i, .int x)) (kk : J D ca ad p l e R s m args below meth c k n Q nL G (pc + 2) lv (.int x :: st)) : J D ca ad p l e R s m args below meth c k n Q nL G pc lv st := fun H locs ls hP hS hl => lv_iload C0.1 C0.2.1 hdg (lv_at hl pl hv) (kk H locs ls hP hS hl)
theorem j_istore_n (C0 : Cx D ca ad p s m args meth c cc nL ow) {lv' : List (Nat × Value)} {q : Fin 4} {i : Nat} {x : Int32} (hdg : decode cc pc = .ok (.istore_n q, 1)) (hi : (q : Nat) = i) (hn : i < nL) (hl' : (i, Value.int x) :: lv.filter (fun q => !(q.1 == i) && !(q.1 + 1 == i && q.2.category == 2)) = lv') (kk : J D ca ad p l e R s m args below meth c k n Q nL G (pc + 1) lv' st) : J D ca ad p l e R s m args below meth c k n Q nL G pc lv (.int x :: st) := fun H locs ls hP hS hl => lv_istore_n C0.1 C0.2.1 hdg hi hl hn hl' (fun ls' hl2 => kk H locs ls' hP hS hl2)
theorem j_istore (C0 : Cx D ca ad p s m args meth c cc nL ow) {lv' : List (Nat × Value)} {i : Nat} {x : Int32} (hdg : decode cc pc = .ok (.istore i, 2)) (hn : i < nL) (hl' : (i, Value.int x) :: lv.filter (fun q => !(q.1 == i) && !(q.1 + 1 == i && q.2.category == 2)) = lv') (kk : J D ca ad p l e R s m args below meth c k n Q nL G (pc + 2) lv' st) : J D ca ad p l e R s m args below meth c k n Q nL G pc lv (.int x :: st) := fun H locs ls hP hS hl => lv_istore C0.1 C0.2.1 hdg hl hn hl' (fun ls' hl2 => kk H locs ls' hP hS hl2)
theorem j_aload_n (C0 : Cx D ca ad p s m args meth c cc nL ow) {q : Fin 4} {i : Nat} {x : Nat} (hdg : decode cc pc = .ok (.aload_n q, 1)) (hi : (q : Nat) = i) (pl : Nat) (hv : lv[pl]? = some (i, .ref x)) (kk : J D ca ad p l e R s m args below meth c k n Q nL G (pc + 1) lv (.ref x :: st)) : J D ca ad p l e R s m args below meth c k n Q nL G pc lv st := fun H locs ls hP hS hl => lv_aload_n C0.1 C0.2.1 hdg hi (lv_at hl pl hv) (kk H locs ls hP hS hl)
theorem j_aload (C0 : Cx D ca ad p s m args meth c cc nL ow) {i : Nat} {x : Nat} (hdg : decode cc pc = .ok (.aload i, 2)) (pl : Nat) (hv : lv[pl]? = some (i, .ref x)) (kk : J D ca ad p l e R s m args below meth c k n Q nL G (pc + 2) lv (.ref x :: st)) : J D ca ad p l e R s m args below meth c k n Q nL G pc lv st := fun H locs ls hP hS hl => lv_aload C0.1 C0.2.1 hdg (lv_at hl pl hv) (kk H locs ls hP hS hl)
theorem j_astore_n (C0 : Cx D ca ad p s m args meth c cc nL ow) {lv' : List (Nat × Value)} {q : Fin 4} {i : Nat} {x : Nat} (hdg : decode cc pc = .ok (.astore_n q, 1)) (hi : (q : Nat) = i) (hn : i < nL) (hl' : (i, Value.ref x) :: lv.filter (fun q => !(q.1 == i) && !(q.1 + 1 == i && q.2.category == 2)) = lv') (kk : J D ca ad p l e R s m args below meth c k n Q nL G (pc + 1) lv' st) : J D ca ad p l e R s m args below meth c k n Q nL G pc lv (.ref x :: st) := fun H locs ls hP hS hl => lv_astore_n C0.1 C0.2.1 hdg hi hl hn hl' (fun ls' hl2 => kk H locs ls' hP hS hl2)
theorem j_astore (C0 : Cx D ca ad p s m args meth c cc nL ow) {lv' : List (Nat × Value)} {i : Nat} {x : Nat} (hdg : decode cc pc = .ok (.astore i, 2)) (hn : i < nL) (hl' : (i, Value.ref x) :: lv.filter (fun q => !(q.1 == i) && !(q.1 + 1 == i && q.2.category == 2)) = lv') (kk : J D ca ad p l e R s m args below meth c k n Q nL G (pc + 2) lv' st) : J D ca ad p l e R s m args below meth c k n Q nL G pc lv (.ref x :: st) := fun H locs ls hP hS hl => lv_astore C0.1 C0.2.1 hdg hl hn hl' (fun ls' hl2 => kk H locs ls' hP hS hl2)
theorem j_fload_n (C0 : Cx D ca ad p s m args meth c cc nL ow) {q : Fin 4} {i : Nat} {x : UInt32} (hdg : decode cc pc = .ok (.fload_n q, 1)) (hi : (q : Nat) = i) (pl : Nat) (hv : lv[pl]? = some (i, .float x)) (kk : J D ca ad p l e R s m args below meth c k n Q nL G (pc + 1) lv (.float x :: st)) : J D ca ad p l e R s m args below meth c k n Q nL G pc lv st := fun H locs ls hP hS hl => lv_fload_n C0.1 C0.2.1 hdg hi (lv_at hl pl hv) (kk H locs ls hP hS hl)
theorem j_fload (C0 : Cx D ca ad p s m args meth c cc nL ow) {i : Nat} {x : UInt32} (hdg : decode cc pc = .ok (.fload i, 2)) (pl : Nat) (hv : lv[pl]? = some (i, .float x)) (kk : J D ca ad p l e R s m args below meth c k n Q nL G (pc + 2) lv (.float x :: st)) : J D ca ad p l e R s m args below meth c k n Q nL G pc lv st := fun H locs ls hP hS hl => lv_fload C0.1 C0.2.1 hdg (lv_at hl pl hv) (kk H locs ls hP hS hl)
theorem j_fstore_n (C0 : Cx D ca ad p s m args meth c cc nL ow) {lv' : List (Nat × Value)} {q : Fin 4} {i : Nat} {x : UInt32} (hdg : decode cc pc = .ok (.fstore_n q, 1)) (hi : (q : Nat) = i) (hn : i < nL) (hl' : (i, Value.float x) :: lv.filter (fun q => !(q.1 == i) && !(q.1 + 1 == i && q.2.category == 2)) = lv') (kk : J D ca ad p l e R s m args below meth c k n Q nL G (pc + 1) lv' st) : J D ca ad p l e R s m args below meth c k n Q nL G pc lv (.float x :: st) := fun H locs ls hP hS hl => lv_fstore_n C0.1 C0.2.1 hdg hi hl hn hl' (fun ls' hl2 => kk H locs ls' hP hS hl2)
theorem j_fstore (C0 : Cx D ca ad p s m args meth c cc nL ow) {lv' : List (Nat × Value)} {i : Nat} {x : UInt32} (hdg : decode cc pc = .ok (.fstore i, 2)) (hn : i < nL) (hl' : (i, Value.float x) :: lv.filter (fun q => !(q.1 == i) && !(q.1 + 1 == i && q.2.category == 2)) = lv') (kk : J D ca ad p l e R s m args below meth c k n Q nL G (pc + 2) lv' st) : J D ca ad p l e R s m args below meth c k n Q nL G pc lv (.float x :: st) := fun H locs ls hP hS hl => lv_fstore C0.1 C0.2.1 hdg hl hn hl' (fun ls' hl2 => kk H locs ls' hP hS hl2)
theorem j_aload_nN (C0 : Cx D ca ad p s m args meth c cc nL ow) {q : Fin 4} {i : Nat} (hdg : decode cc pc = .ok (.aload_n q, 1)) (hi : (q : Nat) = i) (pl : Nat) (hv : lv[pl]? = some (i, .null)) (kk : J D ca ad p l e R s m args below meth c k n Q nL G (pc + 1) lv (.null :: st)) : J D ca ad p l e R s m args below meth c k n Q nL G pc lv st := fun H locs ls hP hS hl => lv_aload_nN C0.1 C0.2.1 hdg hi (lv_at hl pl hv) (kk H locs ls hP hS hl)
theorem j_aloadN (C0 : Cx D ca ad p s m args meth c cc nL ow) {i : Nat} (hdg : decode cc pc = .ok (.aload i, 2)) (pl : Nat) (hv : lv[pl]? = some (i, .null)) (kk : J D ca ad p l e R s m args below meth c k n Q nL G (pc + 2) lv (.null :: st)) : J D ca ad p l e R s m args below meth c k n Q nL G pc lv st := fun H locs ls hP hS hl => lv_aloadN C0.1 C0.2.1 hdg (lv_at hl pl hv) (kk H locs ls hP hS hl)
theorem j_astore_nN (C0 : Cx D ca ad p s m args meth c cc nL ow) {lv' : List (Nat × Value)} {q : Fin 4} {i : Nat} (hdg : decode cc pc = .ok (.astore_n q, 1)) (hi : (q : Nat) = i) (hn : i < nL) (hl' : (i, Value.null) :: lv.filter (fun q => !(q.1 == i) && !(q.1 + 1 == i && q.2.category == 2)) = lv') (kk : J D ca ad p l e R s m args below meth c k n Q nL G (pc + 1) lv' st) : J D ca ad p l e R s m args below meth c k n Q nL G pc lv (.null :: st) := fun H locs ls hP hS hl => lv_astore_nN C0.1 C0.2.1 hdg hi hl hn hl' (fun ls' hl2 => kk H locs ls' hP hS hl2)
theorem j_astoreN (C0 : Cx D ca ad p s m args meth c cc nL ow) {lv' : List (Nat × Value)} {i : Nat} (hdg : decode cc pc = .ok (.astore i, 2)) (hn : i < nL) (hl' : (i, Value.null) :: lv.filter (fun q => !(q.1 == i) && !(q.1 + 1 == i && q.2.category == 2)) = lv') (kk : J D ca ad p l e R s m args below meth c k n Q nL G (pc + 2) lv' st) : J D ca ad p l e R s m args below meth c k n Q nL G pc lv (.null :: st) := fun H locs ls hP hS hl => lv_astoreN C0.1 C0.2.1 hdg hl hn hl' (fun ls' hl2 => kk H locs ls' hP hS hl2)
theorem j_iinc (C0 : Cx D ca ad p s m args meth c cc nL ow) {lv' : List (Nat × Value)} {i : Nat} {a : Int} {x v : Int32} (hdg : decode cc pc = .ok (.iinc i a, 3)) (pl : Nat) (hk : lv[pl]? = some (i, .int x)) (hv : x + Int32.ofInt a = v) (hn : i < nL) (hl' : (i, Value.int v) :: lv.filter (fun q => !(q.1 == i) && !(q.1 + 1 == i && q.2.category == 2)) = lv') (kk : J D ca ad p l e R s m args below meth c k n Q nL G (pc + 3) lv' st) : J D ca ad p l e R s m args below meth c k n Q nL G pc lv st := fun H locs ls hP hS hl => lv_iinc C0.1 C0.2.1 hdg hl hk hv hn hl' (fun ls' hl2 => kk H locs ls' hP hS hl2)
theorem j_iadd (C0 : Cx D ca ad p s m args meth c cc nL ow) {x y : Int32} (hdg : decode cc pc = .ok (.iadd, 1)) (kk : J D ca ad p l e R s m args below meth c k n Q nL G (pc + 1) lv (.int (x + y) :: st)) : J D ca ad p l e R s m args below meth c k n Q nL G pc lv (.int y :: .int x :: st) := fun H locs ls hP hS hl => lv_iadd C0.1 C0.2.1 hdg (kk H locs ls hP hS hl)
theorem j_isub (C0 : Cx D ca ad p s m args meth c cc nL ow) {x y : Int32} (hdg : decode cc pc = .ok (.isub, 1)) (kk : J D ca ad p l e R s m args below meth c k n Q nL G (pc + 1) lv (.int (x - y) :: st)) : J D ca ad p l e R s m args below meth c k n Q nL G pc lv (.int y :: .int x :: st) := fun H locs ls hP hS hl => lv_isub C0.1 C0.2.1 hdg (kk H locs ls hP hS hl)
theorem j_imul (C0 : Cx D ca ad p s m args meth c cc nL ow) {x y : Int32} (hdg : decode cc pc = .ok (.imul, 1)) (kk : J D ca ad p l e R s m args below meth c k n Q nL G (pc + 1) lv (.int (x * y) :: st)) : J D ca ad p l e R s m args below meth c k n Q nL G pc lv (.int y :: .int x :: st) := fun H locs ls hP hS hl => lv_imul C0.1 C0.2.1 hdg (kk H locs ls hP hS hl)
theorem j_iand (C0 : Cx D ca ad p s m args meth c cc nL ow) {x y : Int32} (hdg : decode cc pc = .ok (.iand, 1)) (kk : J D ca ad p l e R s m args below meth c k n Q nL G (pc + 1) lv (.int (x &&& y) :: st)) : J D ca ad p l e R s m args below meth c k n Q nL G pc lv (.int y :: .int x :: st) := fun H locs ls hP hS hl => lv_iand C0.1 C0.2.1 hdg (kk H locs ls hP hS hl)
theorem j_ior (C0 : Cx D ca ad p s m args meth c cc nL ow) {x y : Int32} (hdg : decode cc pc = .ok (.ior, 1)) (kk : J D ca ad p l e R s m args below meth c k n Q nL G (pc + 1) lv (.int (x ||| y) :: st)) : J D ca ad p l e R s m args below meth c k n Q nL G pc lv (.int y :: .int x :: st) := fun H locs ls hP hS hl => lv_ior C0.1 C0.2.1 hdg (kk H locs ls hP hS hl)
theorem j_ixor (C0 : Cx D ca ad p s m args meth c cc nL ow) {x y : Int32} (hdg : decode cc pc = .ok (.ixor, 1)) (kk : J D ca ad p l e R s m args below meth c k n Q nL G (pc + 1) lv (.int (x ^^^ y) :: st)) : J D ca ad p l e R s m args below meth c k n Q nL G pc lv (.int y :: .int x :: st) := fun H locs ls hP hS hl => lv_ixor C0.1 C0.2.1 hdg (kk H locs ls hP hS hl)
theorem j_ishl (C0 : Cx D ca ad p s m args meth c cc nL ow) {x y : Int32} (hdg : decode cc pc = .ok (.ishl, 1)) (kk : J D ca ad p l e R s m args below meth c k n Q nL G (pc + 1) lv (.int (x <<< (y &&& 31)) :: st)) : J D ca ad p l e R s m args below meth c k n Q nL G pc lv (.int y :: .int x :: st) := fun H locs ls hP hS hl => lv_ishl C0.1 C0.2.1 hdg (kk H locs ls hP hS hl)
theorem j_ineg (C0 : Cx D ca ad p s m args meth c cc nL ow) {x : Int32} (hdg : decode cc pc = .ok (.ineg, 1)) (kk : J D ca ad p l e R s m args below meth c k n Q nL G (pc + 1) lv (.int (-x) :: st)) : J D ca ad p l e R s m args below meth c k n Q nL G pc lv (.int x :: st) := fun H locs ls hP hS hl => lv_ineg C0.1 C0.2.1 hdg (kk H locs ls hP hS hl)
theorem j_idiv (C0 : Cx D ca ad p s m args meth c cc nL ow) {x y : Int32} (hdg : decode cc pc = .ok (.idiv, 1)) (hne : nz y = true) (kk : J D ca ad p l e R s m args below meth c k n Q nL G (pc + 1) lv (.int (x / y) :: st)) : J D ca ad p l e R s m args below meth c k n Q nL G pc lv (.int y :: .int x :: st) := fun H locs ls hP hS hl => lv_idiv C0.1 C0.2.1 hdg (nz_ne hne) (kk H locs ls hP hS hl)
theorem j_irem (C0 : Cx D ca ad p s m args meth c cc nL ow) {x y : Int32} (hdg : decode cc pc = .ok (.irem, 1)) (hne : nz y = true) (kk : J D ca ad p l e R s m args below meth c k n Q nL G (pc + 1) lv (.int (x - x / y * y) :: st)) : J D ca ad p l e R s m args below meth c k n Q nL G pc lv (.int y :: .int x :: st) := fun H locs ls hP hS hl => lv_irem C0.1 C0.2.1 hdg (nz_ne hne) (kk H locs ls hP hS hl)
theorem j_i2c (C0 : Cx D ca ad p s m args meth c cc nL ow) {x v : Int32} (hdg : decode cc pc = .ok (.i2c, 1)) (hv : (x.toUInt32 % 65536).toInt32 = v) (kk : J D ca ad p l e R s m args below meth c k n Q nL G (pc + 1) lv (.int v :: st)) : J D ca ad p l e R s m args below meth c k n Q nL G pc lv (.int x :: st) := fun H locs ls hP hS hl => lv_i2c C0.1 C0.2.1 hdg hv (kk H locs ls hP hS hl)
theorem j_dup (C0 : Cx D ca ad p s m args meth c cc nL ow) {va : Value} (hdg : decode cc pc = .ok (.dup, 1)) (hva : va.category = 1) (kk : J D ca ad p l e R s m args below meth c k n Q nL G (pc + 1) lv (va :: va :: st)) : J D ca ad p l e R s m args below meth c k n Q nL G pc lv (va :: st) := fun H locs ls hP hS hl => lv_dup C0.1 C0.2.1 hdg hva (kk H locs ls hP hS hl)
theorem j_pop (C0 : Cx D ca ad p s m args meth c cc nL ow) {va : Value} (hdg : decode cc pc = .ok (.pop, 1)) (hva : va.category = 1) (kk : J D ca ad p l e R s m args below meth c k n Q nL G (pc + 1) lv st) : J D ca ad p l e R s m args below meth c k n Q nL G pc lv (va :: st) := fun H locs ls hP hS hl => lv_pop C0.1 C0.2.1 hdg hva (kk H locs ls hP hS hl)
theorem j_dup2 (C0 : Cx D ca ad p s m args meth c cc nL ow) {va vb : Value} (hdg : decode cc pc = .ok (.dup2, 1)) (hva : va.category = 1) (hvb : vb.category = 1) (kk : J D ca ad p l e R s m args below meth c k n Q nL G (pc + 1) lv (va :: vb :: va :: vb :: st)) : J D ca ad p l e R s m args below meth c k n Q nL G pc lv (va :: vb :: st) := fun H locs ls hP hS hl => lv_dup2_11 C0.1 C0.2.1 hdg hva hvb (kk H locs ls hP hS hl)
theorem j_goto (C0 : Cx D ca ad p s m args meth c cc nL ow) {off : Int} {tgt : Nat} (hdg : decode cc pc = .ok (.goto off, 3)) (ht : (pc : Int) + off = (tgt : Int)) (kk : J D ca ad p l e R s m args below meth c k n Q nL G tgt lv st) : J D ca ad p l e R s m args below meth c k n Q nL G pc lv st := fun H locs ls hP hS hl => lv_goto C0.1 C0.2.1 hdg ht (kk H locs ls hP hS hl)
theorem j_null (C0 : Cx D ca ad p s m args meth c cc nL ow) (hdg : decode cc pc = .ok (.aconst_null, 1)) (kk : J D ca ad p l e R s m args below meth c k n Q nL G (pc + 1) lv (.null :: st)) : J D ca ad p l e R s m args below meth c k n Q nL G pc lv st := fun H locs ls hP hS hl => lv_null C0.1 C0.2.1 hdg (kk H locs ls hP hS hl)
theorem j_if_eq (C0 : Cx D ca ad p s m args meth c cc nL ow) {x : Int32} {off : Int} {tgt : Nat} (hdg : decode cc pc = .ok (.ifCond .eq off, 3)) (ht : (pc : Int) + off = (tgt : Int)) (kt : x = 0 → J D ca ad p l e R s m args below meth c k n Q nL G tgt lv st) (kf : ¬ x = 0 → J D ca ad p l e R s m args below meth c k n Q nL G (pc + 3) lv st) : J D ca ad p l e R s m args below meth c k n Q nL G pc lv (.int x :: st) := fun H locs ls hP hS hl => lv_if_eq C0.1 C0.2.1 hdg ht (fun h => kt h H locs ls hP hS hl) (fun h => kf h H locs ls hP hS hl)
theorem j_icmp_eq (C0 : Cx D ca ad p s m args meth c cc nL ow) {x y : Int32} {off : Int} {tgt : Nat} (hdg : decode cc pc = .ok (.if_icmp .eq off, 3)) (ht : (pc : Int) + off = (tgt : Int)) (kt : x = y → J D ca ad p l e R s m args below meth c k n Q nL G tgt lv st) (kf : ¬ x = y → J D ca ad p l e R s m args below meth c k n Q nL G (pc + 3) lv st) : J D ca ad p l e R s m args below meth c k n Q nL G pc lv (.int y :: .int x :: st) := fun H locs ls hP hS hl => lv_icmp_eq C0.1 C0.2.1 hdg ht (fun h => kt h H locs ls hP hS hl) (fun h => kf h H locs ls hP hS hl)
theorem j_if_ne (C0 : Cx D ca ad p s m args meth c cc nL ow) {x : Int32} {off : Int} {tgt : Nat} (hdg : decode cc pc = .ok (.ifCond .ne off, 3)) (ht : (pc : Int) + off = (tgt : Int)) (kt : ¬ x = 0 → J D ca ad p l e R s m args below meth c k n Q nL G tgt lv st) (kf : x = 0 → J D ca ad p l e R s m args below meth c k n Q nL G (pc + 3) lv st) : J D ca ad p l e R s m args below meth c k n Q nL G pc lv (.int x :: st) := fun H locs ls hP hS hl => lv_if_ne C0.1 C0.2.1 hdg ht (fun h => kt h H locs ls hP hS hl) (fun h => kf h H locs ls hP hS hl)
theorem j_icmp_ne (C0 : Cx D ca ad p s m args meth c cc nL ow) {x y : Int32} {off : Int} {tgt : Nat} (hdg : decode cc pc = .ok (.if_icmp .ne off, 3)) (ht : (pc : Int) + off = (tgt : Int)) (kt : ¬ x = y → J D ca ad p l e R s m args below meth c k n Q nL G tgt lv st) (kf : x = y → J D ca ad p l e R s m args below meth c k n Q nL G (pc + 3) lv st) : J D ca ad p l e R s m args below meth c k n Q nL G pc lv (.int y :: .int x :: st) := fun H locs ls hP hS hl => lv_icmp_ne C0.1 C0.2.1 hdg ht (fun h => kt h H locs ls hP hS hl) (fun h => kf h H locs ls hP hS hl)
theorem j_if_lt (C0 : Cx D ca ad p s m args meth c cc nL ow) {x : Int32} {off : Int} {tgt : Nat} (hdg : decode cc pc = .ok (.ifCond .lt off, 3)) (ht : (pc : Int) + off = (tgt : Int)) (kt : x < 0 → J D ca ad p l e R s m args below meth c k n Q nL G tgt lv st) (kf : ¬ x < 0 → J D ca ad p l e R s m args below meth c k n Q nL G (pc + 3) lv st) : J D ca ad p l e R s m args below meth c k n Q nL G pc lv (.int x :: st) := fun H locs ls hP hS hl => lv_if_lt C0.1 C0.2.1 hdg ht (fun h => kt h H locs ls hP hS hl) (fun h => kf h H locs ls hP hS hl)
theorem j_icmp_lt (C0 : Cx D ca ad p s m args meth c cc nL ow) {x y : Int32} {off : Int} {tgt : Nat} (hdg : decode cc pc = .ok (.if_icmp .lt off, 3)) (ht : (pc : Int) + off = (tgt : Int)) (kt : x < y → J D ca ad p l e R s m args below meth c k n Q nL G tgt lv st) (kf : ¬ x < y → J D ca ad p l e R s m args below meth c k n Q nL G (pc + 3) lv st) : J D ca ad p l e R s m args below meth c k n Q nL G pc lv (.int y :: .int x :: st) := fun H locs ls hP hS hl => lv_icmp_lt C0.1 C0.2.1 hdg ht (fun h => kt h H locs ls hP hS hl) (fun h => kf h H locs ls hP hS hl)
theorem j_if_ge (C0 : Cx D ca ad p s m args meth c cc nL ow) {x : Int32} {off : Int} {tgt : Nat} (hdg : decode cc pc = .ok (.ifCond .ge off, 3)) (ht : (pc : Int) + off = (tgt : Int)) (kt : 0 ≤ x → J D ca ad p l e R s m args below meth c k n Q nL G tgt lv st) (kf : ¬ 0 ≤ x → J D ca ad p l e R s m args below meth c k n Q nL G (pc + 3) lv st) : J D ca ad p l e R s m args below meth c k n Q nL G pc lv (.int x :: st) := fun H locs ls hP hS hl => lv_if_ge C0.1 C0.2.1 hdg ht (fun h => kt h H locs ls hP hS hl) (fun h => kf h H locs ls hP hS hl)
theorem j_icmp_ge (C0 : Cx D ca ad p s m args meth c cc nL ow) {x y : Int32} {off : Int} {tgt : Nat} (hdg : decode cc pc = .ok (.if_icmp .ge off, 3)) (ht : (pc : Int) + off = (tgt : Int)) (kt : y ≤ x → J D ca ad p l e R s m args below meth c k n Q nL G tgt lv st) (kf : ¬ y ≤ x → J D ca ad p l e R s m args below meth c k n Q nL G (pc + 3) lv st) : J D ca ad p l e R s m args below meth c k n Q nL G pc lv (.int y :: .int x :: st) := fun H locs ls hP hS hl => lv_icmp_ge C0.1 C0.2.1 hdg ht (fun h => kt h H locs ls hP hS hl) (fun h => kf h H locs ls hP hS hl)
theorem j_if_gt (C0 : Cx D ca ad p s m args meth c cc nL ow) {x : Int32} {off : Int} {tgt : Nat} (hdg : decode cc pc = .ok (.ifCond .gt off, 3)) (ht : (pc : Int) + off = (tgt : Int)) (kt : 0 < x → J D ca ad p l e R s m args below meth c k n Q nL G tgt lv st) (kf : ¬ 0 < x → J D ca ad p l e R s m args below meth c k n Q nL G (pc + 3) lv st) : J D ca ad p l e R s m args below meth c k n Q nL G pc lv (.int x :: st) := fun H locs ls hP hS hl => lv_if_gt C0.1 C0.2.1 hdg ht (fun h => kt h H locs ls hP hS hl) (fun h => kf h H locs ls hP hS hl)
theorem j_icmp_gt (C0 : Cx D ca ad p s m args meth c cc nL ow) {x y : Int32} {off : Int} {tgt : Nat} (hdg : decode cc pc = .ok (.if_icmp .gt off, 3)) (ht : (pc : Int) + off = (tgt : Int)) (kt : y < x → J D ca ad p l e R s m args below meth c k n Q nL G tgt lv st) (kf : ¬ y < x → J D ca ad p l e R s m args below meth c k n Q nL G (pc + 3) lv st) : J D ca ad p l e R s m args below meth c k n Q nL G pc lv (.int y :: .int x :: st) := fun H locs ls hP hS hl => lv_icmp_gt C0.1 C0.2.1 hdg ht (fun h => kt h H locs ls hP hS hl) (fun h => kf h H locs ls hP hS hl)
theorem j_if_le (C0 : Cx D ca ad p s m args meth c cc nL ow) {x : Int32} {off : Int} {tgt : Nat} (hdg : decode cc pc = .ok (.ifCond .le off, 3)) (ht : (pc : Int) + off = (tgt : Int)) (kt : x ≤ 0 → J D ca ad p l e R s m args below meth c k n Q nL G tgt lv st) (kf : ¬ x ≤ 0 → J D ca ad p l e R s m args below meth c k n Q nL G (pc + 3) lv st) : J D ca ad p l e R s m args below meth c k n Q nL G pc lv (.int x :: st) := fun H locs ls hP hS hl => lv_if_le C0.1 C0.2.1 hdg ht (fun h => kt h H locs ls hP hS hl) (fun h => kf h H locs ls hP hS hl)
theorem j_icmp_le (C0 : Cx D ca ad p s m args meth c cc nL ow) {x y : Int32} {off : Int} {tgt : Nat} (hdg : decode cc pc = .ok (.if_icmp .le off, 3)) (ht : (pc : Int) + off = (tgt : Int)) (kt : x ≤ y → J D ca ad p l e R s m args below meth c k n Q nL G tgt lv st) (kf : ¬ x ≤ y → J D ca ad p l e R s m args below meth c k n Q nL G (pc + 3) lv st) : J D ca ad p l e R s m args below meth c k n Q nL G pc lv (.int y :: .int x :: st) := fun H locs ls hP hS hl => lv_icmp_le C0.1 C0.2.1 hdg ht (fun h => kt h H locs ls hP hS hl) (fun h => kf h H locs ls hP hS hl)
theorem j_ifnonnull (C0 : Cx D ca ad p s m args meth c cc nL ow) {x : Nat} {off : Int} {tgt : Nat} (hdg : decode cc pc = .ok (.ifnonnull off, 3)) (ht : (pc : Int) + off = (tgt : Int)) (kk : J D ca ad p l e R s m args below meth c k n Q nL G tgt lv st) : J D ca ad p l e R s m args below meth c k n Q nL G pc lv (.ref x :: st) := fun H locs ls hP hS hl => lv_ifnonnull C0.1 C0.2.1 hdg ht (kk H locs ls hP hS hl)
theorem j_ifnull (C0 : Cx D ca ad p s m args meth c cc nL ow) {x : Nat} {off : Int} (hdg : decode cc pc = .ok (.ifnull off, 3)) (kk : J D ca ad p l e R s m args below meth c k n Q nL G (pc + 3) lv st) : J D ca ad p l e R s m args below meth c k n Q nL G pc lv (.ref x :: st) := fun H locs ls hP hS hl => lv_ifnull C0.1 C0.2.1 hdg (kk H locs ls hP hS hl)
theorem j_ifnullN (C0 : Cx D ca ad p s m args meth c cc nL ow) {off : Int} {tgt : Nat} (hdg : decode cc pc = .ok (.ifnull off, 3)) (ht : (pc : Int) + off = (tgt : Int)) (kk : J D ca ad p l e R s m args below meth c k n Q nL G tgt lv st) : J D ca ad p l e R s m args below meth c k n Q nL G pc lv (.null :: st) := fun H locs ls hP hS hl => lv_ifnullN C0.1 C0.2.1 hdg ht (kk H locs ls hP hS hl)
theorem j_ifnonnullN (C0 : Cx D ca ad p s m args meth c cc nL ow) {off : Int} (hdg : decode cc pc = .ok (.ifnonnull off, 3)) (kk : J D ca ad p l e R s m args below meth c k n Q nL G (pc + 3) lv st) : J D ca ad p l e R s m args below meth c k n Q nL G pc lv (.null :: st) := fun H locs ls hP hS hl => lv_ifnonnullN C0.1 C0.2.1 hdg (kk H locs ls hP hS hl)
theorem j_ldc (C0 : Cx D ca ad p s m args meth c cc nL ow) {v : Int32} {i : Nat} (hdg : decode cc pc = .ok (.ldc i, 2)) (hc : Cond.constant ow i v ∈ BG) (kk : J D ca ad p l e R s m args below meth c k n Q nL G (pc + 2) lv (.int v :: st)) : J D ca ad p l e R s m args below meth c k n Q nL G pc lv st := fun H locs ls hP hS hl => lv_ldc C0.1 C0.2.1 C0.2.2.2.1 (C0.2.2.2.2.1 _ hc) hdg (kk H locs ls hP hS hl)
theorem j_ldcf (C0 : Cx D ca ad p s m args meth c cc nL ow) {v : UInt32} {i : Nat} (hdg : decode cc pc = .ok (.ldc i, 2)) (hc : Cond.constantFloat ow i v ∈ BG) (kk : J D ca ad p l e R s m args below meth c k n Q nL G (pc + 2) lv (.float v :: st)) : J D ca ad p l e R s m args below meth c k n Q nL G pc lv st := fun H locs ls hP hS hl => lv_ldcf C0.1 C0.2.1 C0.2.2.2.1 (C0.2.2.2.2.1 _ hc) hdg (kk H locs ls hP hS hl)
theorem j_fconst0 (C0 : Cx D ca ad p s m args meth c cc nL ow) (hdg : decode cc pc = .ok (.fconst 0, 1)) (kk : J D ca ad p l e R s m args below meth c k n Q nL G (pc + 1) lv (.float FP.fconst0 :: st)) : J D ca ad p l e R s m args below meth c k n Q nL G pc lv st := fun H locs ls hP hS hl => lv_fconst0 C0.1 C0.2.1 hdg (kk H locs ls hP hS hl)
theorem j_fconst1 (C0 : Cx D ca ad p s m args meth c cc nL ow) (hdg : decode cc pc = .ok (.fconst 1, 1)) (kk : J D ca ad p l e R s m args below meth c k n Q nL G (pc + 1) lv (.float FP.fconst1 :: st)) : J D ca ad p l e R s m args below meth c k n Q nL G pc lv st := fun H locs ls hP hS hl => lv_fconst1 C0.1 C0.2.1 hdg (kk H locs ls hP hS hl)
theorem j_fconst2 (C0 : Cx D ca ad p s m args meth c cc nL ow) (hdg : decode cc pc = .ok (.fconst 2, 1)) (kk : J D ca ad p l e R s m args below meth c k n Q nL G (pc + 1) lv (.float FP.fconst2 :: st)) : J D ca ad p l e R s m args below meth c k n Q nL G pc lv st := fun H locs ls hP hS hl => lv_fconst2 C0.1 C0.2.1 hdg (kk H locs ls hP hS hl)
theorem j_fsub (C0 : Cx D ca ad p s m args meth c cc nL ow) {x y : UInt32} (hdg : decode cc pc = .ok (.fsub, 1)) (hne : nN (FP.fsub x y) = true) (kk : J D ca ad p l e R s m args below meth c k n Q nL G (pc + 1) lv (.float (FP.fsub x y) :: st)) : J D ca ad p l e R s m args below meth c k n Q nL G pc lv (.float y :: .float x :: st) := fun H locs ls hP hS hl => lv_fsub C0.1 C0.2.1 hdg (nN_ok hne) (kk H locs ls hP hS hl)
theorem j_fmul (C0 : Cx D ca ad p s m args meth c cc nL ow) {x y : UInt32} (hdg : decode cc pc = .ok (.fmul, 1)) (hne : nN (FP.fmul x y) = true) (kk : J D ca ad p l e R s m args below meth c k n Q nL G (pc + 1) lv (.float (FP.fmul x y) :: st)) : J D ca ad p l e R s m args below meth c k n Q nL G pc lv (.float y :: .float x :: st) := fun H locs ls hP hS hl => lv_fmul C0.1 C0.2.1 hdg (nN_ok hne) (kk H locs ls hP hS hl)
theorem j_fdiv (C0 : Cx D ca ad p s m args meth c cc nL ow) {x y : UInt32} (hdg : decode cc pc = .ok (.fdiv, 1)) (hne : nN (FP.fdiv x y) = true) (kk : J D ca ad p l e R s m args below meth c k n Q nL G (pc + 1) lv (.float (FP.fdiv x y) :: st)) : J D ca ad p l e R s m args below meth c k n Q nL G pc lv (.float y :: .float x :: st) := fun H locs ls hP hS hl => lv_fdiv C0.1 C0.2.1 hdg (nN_ok hne) (kk H locs ls hP hS hl)
theorem j_fcmp (C0 : Cx D ca ad p s m args meth c cc nL ow) {x y : UInt32} {op : CmpOp} (hdg : decode cc pc = .ok (.fcmp op, 1)) (kk : J D ca ad p l e R s m args below meth c k n Q nL G (pc + 1) lv (.int (Op.cmpValue (FP.fcmp x y) op) :: st)) : J D ca ad p l e R s m args below meth c k n Q nL G pc lv (.float y :: .float x :: st) := fun H locs ls hP hS hl => lv_fcmp C0.1 C0.2.1 hdg (kk H locs ls hP hS hl)
theorem j_i2f (C0 : Cx D ca ad p s m args meth c cc nL ow) {x : Int32} (hdg : decode cc pc = .ok (.i2f, 1)) (kk : J D ca ad p l e R s m args below meth c k n Q nL G (pc + 1) lv (.float (FP.i2f x) :: st)) : J D ca ad p l e R s m args below meth c k n Q nL G pc lv (.int x :: st) := fun H locs ls hP hS hl => lv_i2f C0.1 C0.2.1 hdg (kk H locs ls hP hS hl)
theorem j_f2i (C0 : Cx D ca ad p s m args meth c cc nL ow) {x : UInt32} (hdg : decode cc pc = .ok (.f2i, 1)) (kk : J D ca ad p l e R s m args below meth c k n Q nL G (pc + 1) lv (.int (FP.f2i x) :: st)) : J D ca ad p l e R s m args below meth c k n Q nL G pc lv (.float x :: st) := fun H locs ls hP hS hl => lv_f2i C0.1 C0.2.1 hdg (kk H locs ls hP hS hl)
theorem j_lookup (C0 : Cx D ca ad p s m args meth c cc nL ow) {dflt : Int} {ps : Array (Int × Int)} {len : Nat} {x : Int32} {off : Int} {tgt : Nat} (hdg : decode cc pc = .ok (.lookupswitch dflt ps, len)) (hp : (ps.toList.zip (ps.toList.drop 1)).all (fun (a, next) => a.1 < next.1) = true) (ho : Op.lookupswitch.offset ps.toList dflt x.toInt = off) (ht : (pc : Int) + off = (tgt : Int)) (kk : J D ca ad p l e R s m args below meth c k n Q nL G tgt lv st) : J D ca ad p l e R s m args below meth c k n Q nL G pc lv (.int x :: st) := fun H locs ls hP hS hl => lv_lookup C0.1 C0.2.1 hdg hp ho ht (kk H locs ls hP hS hl)
theorem j_tableOut (C0 : Cx D ca ad p s m args meth c cc nL ow) {dflt lo hi : Int} {offs : Array Int} {len : Nat} {x : Int32} {tgt : Nat} (hdg : decode cc pc = .ok (.tableswitch dflt lo hi offs, len)) (h : x.toInt < lo ∨ hi < x.toInt) (ht : (pc : Int) + dflt = (tgt : Int)) (kk : J D ca ad p l e R s m args below meth c k n Q nL G tgt lv st) : J D ca ad p l e R s m args below meth c k n Q nL G pc lv (.int x :: st) := fun H locs ls hP hS hl => lv_tableOut C0.1 C0.2.1 hdg h ht (kk H locs ls hP hS hl)
theorem j_tableIn (C0 : Cx D ca ad p s m args meth c cc nL ow) {dflt lo hi : Int} {offs : Array Int} {len : Nat} {x : Int32} {off : Int} {tgt : Nat} (hdg : decode cc pc = .ok (.tableswitch dflt lo hi offs, len)) (h1 : ¬ x.toInt < lo) (h2 : ¬ hi < x.toInt) (ho : offs[(x.toInt - lo).toNat]? = some off) (ht : (pc : Int) + off = (tgt : Int)) (kk : J D ca ad p l e R s m args below meth c k n Q nL G tgt lv st) : J D ca ad p l e R s m args below meth c k n Q nL G pc lv (.int x :: st) := fun H locs ls hP hS hl => lv_tableIn C0.1 C0.2.1 hdg h1 h2 ho ht (kk H locs ls hP hS hl)
theorem j_get (C0 : Cx D ca ad p s m args meth c cc nL ow) {idx ci kk0 : Nat} {r : vw_C} {id : I3} {v : Value} (fl : FLw ow idx ci kk0 r) (hid : id ∈ idL) (hc : ∃ fs, cell ca ad G id = .inr (ci, fs) ∧ fs[kk0]? = some v) (hdg : decode cc pc = .ok (.getfield idx, 3)) (kk : J D ca ad p l e R s m args below meth c k n Q nL G (pc + 3) lv (v :: st)) : J D ca ad p l e R s m args below meth c k n Q nL G pc lv (.ref (ad id) :: st) := by
  intro H locs ls hP hS hl
  obtain ⟨q, hq⟩ := ws_ix hid
  obtain ⟨fs, hfs, hv⟩ := hc
  obtain ⟨f1, f2, f3, f4, f5⟩ := fl
  have he := ws_at (ca := ca) (ad := ad) (G := G) hq
  rw [hfs] at he
  exact va_get C0.1 C0.2.1 C0.2.2.2.2.1 f2 C0.2.2.2.1 C0.2.2.2.2.2.1 hP q he f1 kk0 f3 (C0.2.2.2.2.1 _ f5) (fun x hx => by rw [f4] at hx; exact hx) hv hdg (kk H locs ls hP hS hl)
theorem j_getN (C0 : Cx D ca ad p s m args meth c cc nL ow) {idx ci kk0 : Nat} {r : vw_C} {host : String} {id : I3} {v : Value} (fl : FLn ow idx ci kk0 r host) (hid : id ∈ idL) (hc : ∃ fs, cell ca ad G id = .inr (ci, fs) ∧ fs[kk0]? = some v) (hdg : decode cc pc = .ok (.getfield idx, 3)) (kk : J D ca ad p l e R s m args below meth c k n Q nL G (pc + 3) lv (v :: st)) : J D ca ad p l e R s m args below meth c k n Q nL G pc lv (.ref (ad id) :: st) := by
  intro H locs ls hP hS hl
  obtain ⟨q, hq⟩ := ws_ix hid
  obtain ⟨fs, hfs, hv⟩ := hc
  obtain ⟨f1, f2, f3, f4, f5⟩ := fl
  have he := ws_at (ca := ca) (ad := ad) (G := G) hq
  rw [hfs] at he
  exact va_getN C0.1 C0.2.1 C0.2.2.2.2.1 f2 C0.2.2.2.1 C0.2.2.2.2.2.1 hP q he f1 kk0 f3 (va_Nw.use rfl (C0.2.2.2.2.2.2.2.1 _ f5)) (fun x hx => by rw [f4] at hx; exact hx) hv hdg (kk H locs ls hP hS hl)
theorem j_geti (C0 : Cx D ca ad p s m args meth c cc nL ow) {idx ci kk0 : Nat} {r : vw_C} {id : I3} {L : Lc} {x : Int32} (fl : FLw ow idx ci kk0 r) (sl : SL ca ad ci id kk0 L) (hid : id ∈ idL) (hx : gget G L = x) (hdg : decode cc pc = .ok (.getfield idx, 3)) (kk : J D ca ad p l e R s m args below meth c k n Q nL G (pc + 3) lv (.int x :: st)) : J D ca ad p l e R s m args below meth c k n Q nL G pc lv (.ref (ad id) :: st) := by
  obtain ⟨fs, h1, h2, -⟩ := sl G
  exact j_get C0 fl hid ⟨fs, h1, by rw [h2, hx]⟩ hdg kk
theorem j_getiN (C0 : Cx D ca ad p s m args meth c cc nL ow) {idx ci kk0 : Nat} {r : vw_C} {host : String} {id : I3} {L : Lc} {x : Int32} (fl : FLn ow idx ci kk0 r host) (sl : SL ca ad ci id kk0 L) (hid : id ∈ idL) (hx : gget G L = x) (hdg : decode cc pc = .ok (.getfield idx, 3)) (kk : J D ca ad p l e R s m args below meth c k n Q nL G (pc + 3) lv (.int x :: st)) : J D ca ad p l e R s m args below meth c k n Q nL G pc lv (.ref (ad id) :: st) := by
  obtain ⟨fs, h1, h2, -⟩ := sl G
  exact j_getN C0 fl hid ⟨fs, h1, by rw [h2, hx]⟩ hdg kk
theorem j_getr (C0 : Cx D ca ad p s m args meth c cc nL ow) {idx ci kk0 : Nat} {r : vw_C} {id id2 : I3} (fl : FLw ow idx ci kk0 r) (rl : RK ca ad ci id kk0 id2) (hid : id ∈ idL) (hdg : decode cc pc = .ok (.getfield idx, 3)) (kk : J D ca ad p l e R s m args below meth c k n Q nL G (pc + 3) lv (.ref (ad id2) :: st)) : J D ca ad p l e R s m args below meth c k n Q nL G pc lv (.ref (ad id) :: st) := j_get C0 fl hid (rl G) hdg kk
theorem j_puti (C0 : Cx D ca ad p s m args meth c cc nL ow) {idx ci kk0 : Nat} {r : vw_C} {ty : FieldType} {id : I3} {L : Lc} {x : Int32} {G' : GS} (fl : FLw ow idx ci kk0 r) (pl : PLw kk0 ty r) (sl : SL ca ad ci id kk0 L) (hid : id ∈ idL) (hn : narrow ty (.int x) = .int x) (hft : fits ty (.int x) = true) (hG : gset G L x = G') (hdg : decode cc pc = .ok (.putfield idx, 3)) (kk : J D ca ad p l e R s m args below meth c k n Q nL G' (pc + 3) lv st) : J D ca ad p l e R s m args below meth c k n Q nL G pc lv (.int x :: .ref (ad id) :: st) := by
  intro H locs ls hP hS hl
  subst hG
  obtain ⟨q, hq⟩ := ws_ix hid
  obtain ⟨fs, hfs, hv, hlen, hset⟩ := sl G
  obtain ⟨h1, h2⟩ := hset x
  obtain ⟨f1, f2, f3, f4, f5⟩ := fl
  obtain ⟨⟨ty0, p1⟩, p2, p3, p4⟩ := pl
  have he := ws_at (ca := ca) (ad := ad) (G := G) hq
  rw [hfs] at he
  refine va_put C0.1 C0.2.1 C0.2.2.2.2.1 f2 ty0 p1 p2 C0.2.2.2.1 C0.2.2.2.2.2.1 hP (ws_D C0.2.2.2.2.2.2.2.2.1 G) hS q he f1 kk0 f3 (C0.2.2.2.2.1 _ f5) (fun x hx => by rw [f4] at hx; exact hx) p3 p4 hn hft hlen hdg (fun H1 locs1 hP1 _ hS1 => ?_)
  rw [ws_set hq h1 h2] at hP1
  exact kk H1 locs1 ls hP1 hS1 hl
theorem j_iald (C0 : Cx D ca ad p s m args meth c cc nL ow) {t0 n0 a0 off : Nat} {b0 : Bool} {id : I3} {i x : Int32} (al : AL ca ad id t0 n0 b0 a0 off) (ht : (tysG ca)[t0]? = some (ca t0, .int)) (hid : id ∈ idL) (hin : inb i n0 = true) (hx : gget G (b0, a0, off + i.toNatClampNeg) = x) (hdg : decode cc pc = .ok (.iaload, 1)) (kk : J D ca ad p l e R s m args below meth c k n Q nL G (pc + 1) lv (.int x :: st)) : J D ca ad p l e R s m args below meth c k n Q nL G pc lv (.int i :: .ref (ad id) :: st) := by
  intro H locs ls hP hS hl
  obtain ⟨q, hq⟩ := ws_ix hid
  have he := ws_at (ca := ca) (ad := ad) (G := G) hq
  rw [al.2 G] at he
  refine va_iald C0.1 C0.2.1 C0.2.2.2.2.2.1 hP q t0 he ht (inb_vp hin) hdg ?_
  rw [tr_at _ (inb_lt hin), show grow G b0 a0 (off + i.toNatClampNeg) = x from hx]
  exact kk H locs ls hP hS hl
theorem j_cald (C0 : Cx D ca ad p s m args meth c cc nL ow) {t0 n0 a0 off : Nat} {b0 : Bool} {id : I3} {i x : Int32} (al : AL ca ad id t0 n0 b0 a0 off) (ht : (tysG ca)[t0]? = some (ca t0, .char)) (hid : id ∈ idL) (hin : inb i n0 = true) (hx : gget G (b0, a0, off + i.toNatClampNeg) = x) (hdg : decode cc pc = .ok (.caload, 1)) (kk : J D ca ad p l e R s m args below meth c k n Q nL G (pc + 1) lv (.int x :: st)) : J D ca ad p l e R s m args below meth c k n Q nL G pc lv (.int i :: .ref (ad id) :: st) := by
  intro H locs ls hP hS hl
  obtain ⟨q, hq⟩ := ws_ix hid
  have he := ws_at (ca := ca) (ad := ad) (G := G) hq
  rw [al.2 G] at he
  refine va_cald C0.1 C0.2.1 C0.2.2.2.2.2.1 hP q t0 he ht (inb_vp hin) hdg ?_
  rw [tr_at _ (inb_lt hin), show grow G b0 a0 (off + i.toNatClampNeg) = x from hx]
  exact kk H locs ls hP hS hl
theorem j_zald (C0 : Cx D ca ad p s m args meth c cc nL ow) {t0 n0 a0 off : Nat} {b0 : Bool} {id : I3} {i x : Int32} (al : AL ca ad id t0 n0 b0 a0 off) (ht : (tysG ca)[t0]? = some (ca t0, .boolean)) (hid : id ∈ idL) (hin : inb i n0 = true) (hx : gget G (b0, a0, off + i.toNatClampNeg) = x) (hdg : decode cc pc = .ok (.baload, 1)) (kk : J D ca ad p l e R s m args below meth c k n Q nL G (pc + 1) lv (.int x :: st)) : J D ca ad p l e R s m args below meth c k n Q nL G pc lv (.int i :: .ref (ad id) :: st) := by
  intro H locs ls hP hS hl
  obtain ⟨q, hq⟩ := ws_ix hid
  have he := ws_at (ca := ca) (ad := ad) (G := G) hq
  rw [al.2 G] at he
  refine va_zald C0.1 C0.2.1 C0.2.2.2.2.2.1 hP q t0 he ht (inb_vp hin) hdg ?_
  rw [tr_at _ (inb_lt hin), show grow G b0 a0 (off + i.toNatClampNeg) = x from hx]
  exact kk H locs ls hP hS hl
theorem j_iast (C0 : Cx D ca ad p s m args meth c cc nL ow) {t0 n0 a0 off : Nat} {b0 : Bool} {id : I3} {i x : Int32} {G' : GS} (al : AL ca ad id t0 n0 b0 a0 off) (ht : (tysG ca)[t0]? = some (ca t0, .int)) (hid : id ∈ idL) (hin : inb i n0 = true) (hG : gset G (b0, a0, off + i.toNatClampNeg) x = G') (hdg : decode cc pc = .ok (.iastore, 1)) (kk : J D ca ad p l e R s m args below meth c k n Q nL G' (pc + 1) lv st) : J D ca ad p l e R s m args below meth c k n Q nL G pc lv (.int x :: .int i :: .ref (ad id) :: st) := by
  intro H locs ls hP hS hl
  subst hG
  obtain ⟨q, hq⟩ := ws_ix hid
  have he := ws_at (ca := ca) (ad := ad) (G := G) hq
  rw [al.2 G] at he
  refine va_iast C0.1 C0.2.1 C0.2.2.2.2.2.1 hP (ws_D C0.2.2.2.2.2.2.2.2.1 G) hS q t0 he ht (inb_vp hin) hdg (fun H1 locs1 hP1 _ hS1 => ?_)
  rw [ws_set (G' := gset G (b0, a0, off + i.toNatClampNeg) x) hq (al_set al (inb_lt hin) G _) (frame_at (al.1 _ (inb_lt hin)) G _)] at hP1
  exact kk H1 locs1 ls hP1 hS1 hl
theorem j_cast (C0 : Cx D ca ad p s m args meth c cc nL ow) {t0 n0 a0 off : Nat} {b0 : Bool} {id : I3} {i x : Int32} {G' : GS} (al : AL ca ad id t0 n0 b0 a0 off) (ht : (tysG ca)[t0]? = some (ca t0, .char)) (hid : id ∈ idL) (hin : inb i n0 = true) (hG : gset G (b0, a0, off + i.toNatClampNeg) (vp_nar .char x) = G') (hdg : decode cc pc = .ok (.castore, 1)) (kk : J D ca ad p l e R s m args below meth c k n Q nL G' (pc + 1) lv st) : J D ca ad p l e R s m args below meth c k n Q nL G pc lv (.int x :: .int i :: .ref (ad id) :: st) := by
  intro H locs ls hP hS hl
  subst hG
  obtain ⟨q, hq⟩ := ws_ix hid
  have he := ws_at (ca := ca) (ad := ad) (G := G) hq
  rw [al.2 G] at he
  refine va_cast C0.1 C0.2.1 C0.2.2.2.2.2.1 hP (ws_D C0.2.2.2.2.2.2.2.2.1 G) hS q t0 he ht (inb_vp hin) hdg (fun H1 locs1 hP1 _ hS1 => ?_)
  rw [ws_set (G' := gset G (b0, a0, off + i.toNatClampNeg) (vp_nar .char x)) hq (al_set al (inb_lt hin) G _) (frame_at (al.1 _ (inb_lt hin)) G _)] at hP1
  exact kk H1 locs1 ls hP1 hS1 hl
theorem j_zast (C0 : Cx D ca ad p s m args meth c cc nL ow) {t0 n0 a0 off : Nat} {b0 : Bool} {id : I3} {i x : Int32} {G' : GS} (al : AL ca ad id t0 n0 b0 a0 off) (ht : (tysG ca)[t0]? = some (ca t0, .boolean)) (hid : id ∈ idL) (hin : inb i n0 = true) (hG : gset G (b0, a0, off + i.toNatClampNeg) (vp_nar .boolean x) = G') (hdg : decode cc pc = .ok (.bastore, 1)) (kk : J D ca ad p l e R s m args below meth c k n Q nL G' (pc + 1) lv st) : J D ca ad p l e R s m args below meth c k n Q nL G pc lv (.int x :: .int i :: .ref (ad id) :: st) := by
  intro H locs ls hP hS hl
  subst hG
  obtain ⟨q, hq⟩ := ws_ix hid
  have he := ws_at (ca := ca) (ad := ad) (G := G) hq
  rw [al.2 G] at he
  refine va_zast C0.1 C0.2.1 C0.2.2.2.2.2.1 hP (ws_D C0.2.2.2.2.2.2.2.2.1 G) hS q t0 he ht (inb_vp hin) hdg (fun H1 locs1 hP1 _ hS1 => ?_)
  rw [ws_set (G' := gset G (b0, a0, off + i.toNatClampNeg) (vp_nar .boolean x)) hq (al_set al (inb_lt hin) G _) (frame_at (al.1 _ (inb_lt hin)) G _)] at hP1
  exact kk H1 locs1 ls hP1 hS1 hl
theorem j_alen (C0 : Cx D ca ad p s m args meth c cc nL ow) {t0 n0 a0 off : Nat} {b0 : Bool} {id : I3} {v : Int32} {ty : FieldType} (al : AL ca ad id t0 n0 b0 a0 off) (ht : (tysG ca)[t0]? = some (ca t0, ty)) (hid : id ∈ idL) (hv : Int32.ofNat n0 = v) (hdg : decode cc pc = .ok (.arraylength, 1)) (kk : J D ca ad p l e R s m args below meth c k n Q nL G (pc + 1) lv (.int v :: st)) : J D ca ad p l e R s m args below meth c k n Q nL G pc lv (.ref (ad id) :: st) := by
  intro H locs ls hP hS hl
  obtain ⟨q, hq⟩ := ws_ix hid
  have he := ws_at (ca := ca) (ad := ad) (G := G) hq
  rw [al.2 G] at he
  exact va_alen C0.1 C0.2.1 C0.2.2.2.2.2.1 hP q t0 he ht hv hdg (kk H locs ls hP hS hl)
theorem j_alenq (C0 : Cx D ca ad p s m args meth c cc nL ow) {t0 n0 : Nat} {f : Nat → Nat} {id : I3} {v : Int32} {ty : FieldType} (al : cell ca ad G id = .inl (ca t0, n0, .inr (.inr (.inr (.inr (trR n0 f)))))) (ht : (tysG ca)[t0]? = some (ca t0, ty)) (hid : id ∈ idL) (hv : Int32.ofNat n0 = v) (hdg : decode cc pc = .ok (.arraylength, 1)) (kk : J D ca ad p l e R s m args below meth c k n Q nL G (pc + 1) lv (.int v :: st)) : J D ca ad p l e R s m args below meth c k n Q nL G pc lv (.ref (ad id) :: st) := by
  intro H locs ls hP hS hl
  obtain ⟨q, hq⟩ := ws_ix hid
  have he := ws_at (ca := ca) (ad := ad) (G := G) hq
  rw [al] at he
  exact va_alen C0.1 C0.2.1 C0.2.2.2.2.2.1 hP q t0 he ht hv hdg (kk H locs ls hP hS hl)
theorem j_aldq (C0 : Cx D ca ad p s m args meth c cc nL ow) {t0 n0 : Nat} {f : Nat → Nat} {id : I3} {i : Int32} {C : String} (al : cell ca ad G id = .inl (ca t0, n0, .inr (.inr (.inr (.inr (trR n0 f)))))) (ht : (tysG ca)[t0]? = some (ca t0, .object C)) (hid : id ∈ idL) (hin : inb i n0 = true) (hdg : decode cc pc = .ok (.aaload, 1)) (kk : J D ca ad p l e R s m args below meth c k n Q nL G (pc + 1) lv (.ref (f i.toNatClampNeg) :: st)) : J D ca ad p l e R s m args below meth c k n Q nL G pc lv (.int i :: .ref (ad id) :: st) := by
  intro H locs ls hP hS hl
  obtain ⟨q, hq⟩ := ws_ix hid
  have he := ws_at (ca := ca) (ad := ad) (G := G) hq
  rw [al] at he
  refine va_aldq C0.1 C0.2.1 C0.2.2.2.2.2.1 hP q t0 he ht (inb_vp hin) hdg ?_
  rw [show trR n0 f i.toNatClampNeg = some (f i.toNatClampNeg) from if_pos (inb_lt hin)]
  exact kk H locs ls hP hS hl
theorem j_gets (C0 : Cx D ca ad p s m args meth c cc nL ow) {idx t : Nat} (ht : t < 3) (hc : Cond.fieldLink ow idx RX5 (tabF t) "[I" ∈ BG) (hdg : decode cc pc = .ok (.getstatic idx, 3)) (kk : J D ca ad p l e R s m args below meth c k n Q nL G (pc + 3) lv (.ref (ad (17, t, 0)) :: st)) : J D ca ad p l e R s m args below meth c k n Q nL G pc lv st := fun H locs ls hP hS hl => va_gets C0.1 C0.2.1 (C0.2.2.2.2.2.2.1 t ht).1 hS C0.2.2.2.1 (C0.2.2.2.2.1 _ hc) (fun _ h => h) hdg (kk H locs ls hP hS hl)
theorem j_getsN (C0 : Cx D ca ad p s m args meth c cc nL ow) {idx t : Nat} {host : String} (ht : t < 3) (hc : Cond.fieldLinkNest ow idx RX5 (tabF t) "[I" host ∈ nestL) (hdg : decode cc pc = .ok (.getstatic idx, 3)) (kk : J D ca ad p l e R s m args below meth c k n Q nL G (pc + 3) lv (.ref (ad (17, t, 0)) :: st)) : J D ca ad p l e R s m args below meth c k n Q nL G pc lv st := fun H locs ls hP hS hl => va_getsN C0.1 C0.2.1 (C0.2.2.2.2.2.2.1 t ht).1 hS C0.2.2.2.1 (va_Nw.use rfl (C0.2.2.2.2.2.2.2.1 _ hc)) (fun _ h => h) hdg (kk H locs ls hP hS hl)
theorem j_ti (C0 : Cx D ca ad p s m args meth c cc nL ow) {t : Nat} {i : Int32} (ht : t < 3) (hin : inb i (tabN t) = true) (hdg : decode cc pc = .ok (.iaload, 1)) (kk : J D ca ad p l e R s m args below meth c k n Q nL G (pc + 1) lv (.int (tab t i.toNatClampNeg) :: st)) : J D ca ad p l e R s m args below meth c k n Q nL G pc lv (.int i :: .ref (ad (17, t, 0)) :: st) := fun H locs ls hP hS hl => va_ti C0.1 C0.2.1 (C0.2.2.2.2.2.2.1 t ht).2 hS (inb_vp hin) rfl hdg (kk H locs ls hP hS hl)
theorem j_tlen (C0 : Cx D ca ad p s m args meth c cc nL ow) {t : Nat} {v : Int32} (ht : t < 3) (hv : Int32.ofNat (tabN t) = v) (hdg : decode cc pc = .ok (.arraylength, 1)) (kk : J D ca ad p l e R s m args below meth c k n Q nL G (pc + 1) lv (.int v :: st)) : J D ca ad p l e R s m args below meth c k n Q nL G pc lv (.ref (ad (17, t, 0)) :: st) := fun H locs ls hP hS hl => va_tlen C0.1 C0.2.1 (C0.2.2.2.2.2.2.1 t ht).2 hS hv hdg (kk H locs ls hP hS hl)
end JS
end
section
/-! a method from its entry; its ends; calls -/
theorem met_J {l : Launch} {D : va_G} {ca : Nat → ClassId} {ad : I3 → Nat} {y : MethodName} {b : ByteArray} {maxL : Nat} {ret : Option FieldType} {fr lo : Nat} {av : List Value} {G : GS} {ro : Option Value} {G' : GS} {lv : List (Nat × Value)}
    (hi : adI ad) (hy : plainName y.cls = true) (hn : (lg_sl av).length ≤ maxL) (hlv : lv_args 0 av = lv)
    (body : ∀ (p : Program) (e : Env) (s : State) (m : MethodId) (below : List Frame) (meth : Method) (c : Code), Cx D ca ad p s m av.toArray meth c b maxL y.cls → meth.sig.returnType = ret →
      J D ca ad p l e ({ frames := fr, cells := 0, slots := 0, locals := lo }) s m av.toArray below meth c 0 0 (MQ below (post D ca ad ro G') av.toArray s 0 0 (adA ad)) maxL G 0 lv []) : MT l D ca ad y b maxL ret fr lo av G ro G' := by
  unfold MT
  refine Met.ofW (cc := b) (maxL := maxL) (ret := ret) hy rfl ?_
  intro p e s m args below meth c s₁ B hml hv
  obtain ⟨rfl, hP, hK, hZ, hN⟩ := hv
  have hts := atoms_spec (ws := .code y b maxL ret :: BG) B.pre
  rw [lg_entry_eq]
  refine body p e s m below meth c ⟨B.exec, B.bytes, hml, findClass_of_methodNamed B.named, fun w hw => hts w (List.mem_cons_of_mem _ hw), hK, hZ, hN, hi, B.notSynchronized⟩ B.returns s.heap [] _ hP va_S.rf ?_
  rw [← hlv]
  exact lv_entry av hn
theorem post_at {D : va_G} {ca : Nat → ClassId} {ad : I3 → Nat} {ro : Option Value} {G : GS} {s t : State} {H : Heap} {locs : List Loc} {p : Program} {m : MethodId} {args a : Array Value} {meth : Method} {c : Code} {cc : ByteArray} {nL : Nat} {ow : String} (C0 : Cx D ca ad p s m args meth c cc nL ow)
    (hP : va_P D vwCl (wsG ca ad G) H) (hS : va_S (adA ad) s.heap H locs) (ht : t.heap = H) (hW : s.WarmedH t.vm) : post D ca ad ro G a s (.returned ro) t :=
  ⟨rfl, ⟨by rw [ht]; exact hP, va_K.moved hW.alike C0.2.2.2.2.2.1, stA_to C0.2.2.2.2.2.2.1 hW hS ht, nw_warm hW C0.2.2.2.2.2.2.2.1⟩, hS.F ht⟩
section JC
variable {D : va_G} {ca : Nat → ClassId} {ad : I3 → Nat} {p : Program} {l : Launch} {e : Env} {R : Room} {s : State} {m : MethodId} {args : Array Value} {below : List Frame} {meth : Method} {c : Code} {cc : ByteArray} {nL : Nat} {ow : String} {k n : Nat} {Q : State → Prop} {G : GS} {pc : Nat} {lv : List (Nat × Value)} {st : List Value}
theorem j_iret (C0 : Cx D ca ad p s m args meth c cc nL ow) {G' : GS} {v r0 : Int32} (hr : meth.sig.returnType = some .int) (hdg : decode cc pc = .ok (.ireturn, 1)) (hv : v = r0) (hG : G = G') : J D ca ad p l e R s m args below meth c k n (MQ below (post D ca ad (some (.int r0)) G') args s k n (adA ad)) nL G pc lv [.int v] := by
  subst hv; subst hG
  intro H locs ls hP hS hl
  exact W.iret C0.1 C0.2.1 hr (fun t ht hW => post_at C0 hP hS ht hW) hS.2.2 hdg C0.2.2.2.2.2.2.2.2.2
theorem j_zret (C0 : Cx D ca ad p s m args meth c cc nL ow) {G' : GS} {v r0 : Int32} {ty : FieldType} (hr : meth.sig.returnType = some ty) (hn : narrow ty (.int v) = .int v) (hdg : decode cc pc = .ok (.ireturn, 1)) (hv : v = r0) (hG : G = G') : J D ca ad p l e R s m args below meth c k n (MQ below (post D ca ad (some (.int r0)) G') args s k n (adA ad)) nL G pc lv [.int v] := by
  subst hv; subst hG
  intro H locs ls hP hS hl
  exact W.zret C0.1 C0.2.1 hr hn (fun t ht hW => post_at C0 hP hS ht hW) hS.2.2 hdg C0.2.2.2.2.2.2.2.2.2
theorem j_vret (C0 : Cx D ca ad p s m args meth c cc nL ow) {G' : GS} (hr : meth.sig.returnType = none) (hdg : decode cc pc = .ok (.return_, 1)) (hG : G = G') : J D ca ad p l e R s m args below meth c k n (MQ below (post D ca ad none G') args s k n (adA ad)) nL G pc lv [] := by
  subst hG
  intro H locs ls hP hS hl
  exact W.vret C0.1 C0.2.1 hr (fun t ht hW => post_at C0 hP hS ht hW) hS.2.2 hdg C0.2.2.2.2.2.2.2.2.2
theorem j_aret (C0 : Cx D ca ad p s m args meth c cc nL ow) {G' : GS} {v r0 : Value} {C : String} (hr : meth.sig.returnType = some (.object C)) (hdg : decode cc pc = .ok (.areturn, 1)) (hv : v = r0) (hG : G = G') (hq : v = .null ∨ ∃ a, v = .ref a) : J D ca ad p l e R s m args below meth c k n (MQ below (post D ca ad (some r0) G') args s k n (adA ad)) nL G pc lv [v] := by
  subst hv; subst hG
  intro H locs ls hP hS hl
  exact W.aret C0.1 C0.2.1 hr (Or.inl ⟨C, rfl⟩) hq (fun t ht hW => post_at C0 hP hS ht hW) hS.2.2 hdg C0.2.2.2.2.2.2.2.2.2
/-- behind a call: the callee's answer on the stack, its picture -/
theorem j_back (C0 : Cx D ca ad p s m args meth c cc nL ow) {ro : Option Value} {G' : GS} {rest : List Value} {a : Array Value} {H : Heap} {locs : List Loc} {ls : Array Slot}
    (hr : va_Run p l e R s m args below meth c H locs k n 0 0 (F0 m pc ls st) rest (post D ca ad ro G' a) (adA ad)) (hS : va_S (adA ad) s.heap H locs) (hl : lv_has ls nL lv)
    (kk : J D ca ad p l e R s m args below meth c k n Q nL G' (pc + 3) lv (ro.toList ++ rest)) : W p l e R s m args below meth c H locs k n Q (F0 m pc ls st) := by
  intro T hT X
  obtain ⟨v, st₀, t, T', L, h0, X', hL, e1, e2, ⟨hv, hU, hz, hk⟩, stp⟩ := hr T hT X
  cases hv
  rw [h0] at hz hk
  obtain ⟨t2, a1, b1⟩ := kk T'.heap (locs ++ L) ls (by rw [e1]; exact hU.1)
    ⟨Nat.le_trans hS.1 (by rw [e1]; exact hz), fun q h1 h2 => by rw [e1, hk q (Nat.lt_of_lt_of_le h1 hS.1) h2]; exact hS.2.1 q h1 h2, fun q hq => by
      rcases List.mem_append.mp hq with h | h
      · exact hS.2.2 q h
      · exact hL q h⟩ hl T' rfl X'
  exact ⟨t2, stp t2 a1, b1⟩
theorem pre_at (C0 : Cx D ca ad p s m args meth c cc nL ow) {av : List Value} {U : State} {H : Heap} {locs : List Loc} (hP : va_P D vwCl (wsG ca ad G) H) (hS : va_S (adA ad) s.heap H locs) (hU : U.heap = H) (hW : s.WarmedH U.vm) : pre D ca ad av G av.toArray U :=
  ⟨rfl, by rw [hU]; exact hP, va_K.moved hW.alike C0.2.2.2.2.2.1, stA_to C0.2.2.2.2.2.2.1 hW hS hU, nw_warm hW C0.2.2.2.2.2.2.2.1⟩
theorem pre_blind {av : List Value} : FrameBlind (pre D ca ad av G) := fun a U g mk h => ⟨h.1, rU_calling g mk a h.2⟩
/-- a call's words -/
def KW (ow : String) (idx : Nat) (y : MethodName) (b : ByteArray) (maxL : Nat) (ret : Option FieldType) (na : Nat) : Prop := Cond.methodLink ow idx y ∈ BG ∧ Cond.initialized y.cls ∈ BG ∧ Cond.code y b maxL ret ∈ BG ∧ y.cls ≠ "java/lang/invoke/MethodHandle" ∧ y.cls ≠ "java/lang/invoke/VarHandle" ∧ (parseMethodDescriptor y.desc).map (fun d => d.parameters.length) = some na
def KN (ow : String) (idx : Nat) (y : MethodName) (host : String) (b : ByteArray) (maxL : Nat) (ret : Option FieldType) (na : Nat) : Prop := Cond.methodLinkNest ow idx y host ∈ nestL ∧ Cond.initialized y.cls ∈ BG ∧ Cond.code y b maxL ret ∈ BG ∧ y.cls ≠ "java/lang/invoke/MethodHandle" ∧ y.cls ≠ "java/lang/invoke/VarHandle" ∧ (parseMethodDescriptor y.desc).map (fun d => d.parameters.length) = some na
theorem code_good {y : MethodName} {b : ByteArray} {maxL : Nat} {ret : Option FieldType} (h : Cond.code y b maxL ret ∈ BG) : GoodIn BG (.code y b maxL ret :: BG) := bg_good (fun w hw => by
  rcases List.mem_cons.mp hw with rfl | h'
  · exact h
  · exact h')
theorem j_callV (C0 : Cx D ca ad p s m args meth c cc nL ow) {y : MethodName} {b : ByteArray} {maxL : Nat} {ret : Option FieldType} {fr lo na idx : Nat} {As rest : List Value} {G1 G' : GS} {ro : Option Value} {id : I3} (hM : MT l D ca ad y b maxL ret fr lo (.ref (ad id) :: As) G1 ro G') (kw : KW ow idx y b maxL ret na) (ki : Cond.instanceMethod y ∈ BG) (ks : Cond.selects y.cls y y ∈ BG) (hid : id ∈ idL) (oc : OC ca ad id y.cls) (hG : G1 = G) (hR : fr + 1 ≤ R.frames ∧ 8 + (maxL + 11) + lo ≤ R.locals) (hq : k ≤ R.cells ∧ n ≤ R.slots) (hA : As.length = na) (hst : st = As.reverse ++ .ref (ad id) :: rest) (hW : (rest.map fun v => v.category).sum ≤ 8) (hdg : decode cc pc = .ok (.invokevirtual idx, 3)) (kk : J D ca ad p l e R s m args below meth c k n Q nL G' (pc + 3) lv (ro.toList ++ rest)) : J D ca ad p l e R s m args below meth c k n Q nL G pc lv st := by
  subst hG; subst hst
  intro H locs ls hP hS hl
  obtain ⟨q, hq0⟩ := ws_ix hid
  have he := ws_at (ca := ca) (ad := ad) (G := G1) hq0
  obtain ⟨ci, fs, r, hc1, hc2, hc3⟩ := oc G1
  rw [hc1] at he
  have hts := C0.2.2.2.2.1
  have hrv := va_recv C0.2.2.2.2.2.1 hP hc2 he
  rw [hc3] at hrv
  refine j_back C0 (va_runV (n := na) (Ts := BG) (own := ow) (index := idx) (C := y.cls) (b := ad id) (As := As) (rest := rest) ⟨C0.1, C0.2.1, C0.2.2.1, C0.2.2.2.1, hts⟩ hM ⟨callB_of na hts (code_good kw.2.2.1) rfl rfl rfl (hts _ kw.2.1) (hts _ kw.1) kw.2.2.2 hR, hts _ ki, hts _ ks⟩ ⟨pre_blind, hrv, fun U hU hWm => pre_at C0 hP hS hU hWm⟩ rfl hA hl.1 rfl ?_ hdg hq) hS hl kk
  show 2 * 0 + _ ≤ 8
  omega
theorem j_callS (C0 : Cx D ca ad p s m args meth c cc nL ow) {y : MethodName} {b : ByteArray} {maxL : Nat} {ret : Option FieldType} {fr lo na idx : Nat} {As rest : List Value} {G1 G' : GS} {ro : Option Value} (hM : MT l D ca ad y b maxL ret fr lo As G1 ro G') (kw : KW ow idx y b maxL ret na) (ki : Cond.static y ∈ BG) (hG : G1 = G) (hR : fr + 1 ≤ R.frames ∧ 8 + (maxL + 11) + lo ≤ R.locals) (hq : k ≤ R.cells ∧ n ≤ R.slots) (hA : As.length = na) (hst : st = As.reverse ++ rest) (hW : (rest.map fun v => v.category).sum ≤ 8) (hdg : decode cc pc = .ok (.invokestatic idx, 3)) (kk : J D ca ad p l e R s m args below meth c k n Q nL G' (pc + 3) lv (ro.toList ++ rest)) : J D ca ad p l e R s m args below meth c k n Q nL G pc lv st := by
  subst hG; subst hst
  intro H locs ls hP hS hl
  have hts := C0.2.2.2.2.1
  refine j_back C0 (va_runS (n := na) (Ts := BG) (own := ow) (index := idx) (As := As) (rest := rest) ⟨C0.1, C0.2.1, C0.2.2.1, C0.2.2.2.1, hts⟩ hM ⟨callB_of na hts (code_good kw.2.2.1) rfl rfl rfl (hts _ kw.2.1) (hts _ kw.1) kw.2.2.2 hR, hts _ ki⟩ ⟨pre_blind, fun U hU hWm => pre_at C0 hP hS hU hWm⟩ rfl hA hl.1 rfl ?_ hdg hq) hS hl kk
  show 2 * 0 + _ ≤ 8
  omega
theorem j_callSN (C0 : Cx D ca ad p s m args meth c cc nL ow) {y : MethodName} {b : ByteArray} {maxL : Nat} {ret : Option FieldType} {fr lo na idx : Nat} {As rest : List Value} {G1 G' : GS} {ro : Option Value} {host : String} (hM : MT l D ca ad y b maxL ret fr lo As G1 ro G') (kw : KN ow idx y host b maxL ret na) (ki : Cond.static y ∈ BG) (hG : G1 = G) (hR : fr + 1 ≤ R.frames ∧ 8 + (maxL + 11) + lo ≤ R.locals) (hq : k ≤ R.cells ∧ n ≤ R.slots) (hA : As.length = na) (hst : st = As.reverse ++ rest) (hW : (rest.map fun v => v.category).sum ≤ 8) (hdg : decode cc pc = .ok (.invokestatic idx, 3)) (kk : J D ca ad p l e R s m args below meth c k n Q nL G' (pc + 3) lv (ro.toList ++ rest)) : J D ca ad p l e R s m args below meth c k n Q nL G pc lv st := by
  subst hG; subst hst
  intro H locs ls hP hS hl
  have hts := C0.2.2.2.2.1
  refine j_back C0 (va_runSN (n := na) (Ts := BG) (own := ow) (index := idx) (As := As) (rest := rest) ⟨C0.1, C0.2.1, C0.2.2.1, C0.2.2.2.1, hts⟩ hM ⟨va_cnB na hts (code_good kw.2.2.1) rfl rfl rfl (C0.2.2.2.2.2.2.2.1 _ kw.1) (hts _ kw.2.1) kw.2.2.2 hR, hts _ ki, trivial⟩ ⟨pre_blind, fun U hU hWm => pre_at C0 hP hS hU hWm⟩ rfl hA hl.1 rfl ?_ hdg hq) hS hl kk
  show 2 * 0 + _ ≤ 8
  omega
theorem j_f2i0 (C0 : Cx D ca ad p s m args meth c cc nL ow) {idx : Nat} {b : UInt32} (h1 : Cond.methodLink ow idx ⟨"java/lang/Float", "floatToRawIntBits", "(F)I"⟩ ∈ BG) (h2 : Cond.native ⟨"java/lang/Float", "floatToRawIntBits", "(F)I"⟩ ∈ BG) (h3 : Cond.static ⟨"java/lang/Float", "floatToRawIntBits", "(F)I"⟩ ∈ BG) (h4 : Cond.initialized "java/lang/Float" ∈ BG) (hR : 1 ≤ R.frames) (hW : (st.map fun v => v.category).sum + 15 ≤ R.locals) (hdg : decode cc pc = .ok (.invokestatic idx, 3)) (kk : J D ca ad p l e R s m args below meth c k n Q nL G (pc + 3) lv (.int b.toInt32 :: st)) : J D ca ad p l e R s m args below meth c k n Q nL G pc lv (.float b :: st) := fun H locs ls hP hS hl =>
  vn_f2i C0.1 C0.2.1 (C0.2.2.1.trans hl.1.symm) C0.2.2.2.1 (C0.2.2.2.2.1 _ h1) (C0.2.2.2.2.1 _ h2) (C0.2.2.2.2.1 _ h3) (C0.2.2.2.2.1 _ h4) hR hW hdg (kk H locs ls hP hS hl)
end JC
end
