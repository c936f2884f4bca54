section
-- ===== PART A: goes FIRST, ahead of the names: the tables' words, and 'selects' of the private methods out of them =====
/-- a private method of a class that the tables say can be made, by its rows of tables_1 -/
def lw_okq (q : MethodName × Nat) : Prop := (q.1.cls ≠ "java/lang/invoke/MethodHandle" ∧ q.1.cls ≠ "java/lang/invoke/VarHandle") ∧ Cond.instantiable q.1.cls q.2 ∈ tables_1 ∧ Cond.privateMethod q.1 ∈ tables_1 ∧ Cond.instanceMethod q.1 ∈ tables_1
theorem lw_p0 : lw_okq (⟨"LeakingClocks", "changed", "(I)I"⟩, 8) := ⟨⟨by decide +kernel, by decide +kernel⟩, List.mem_of_getElem? (i := 11) (by decide +kernel), List.mem_of_getElem? (i := 305) (by decide +kernel), List.mem_of_getElem? (i := 306) (by decide +kernel)⟩
theorem lw_p1 : lw_okq (⟨"LeakingClocks", "dropOldestState", "()V"⟩, 8) := ⟨⟨by decide +kernel, by decide +kernel⟩, List.mem_of_getElem? (i := 11) (by decide +kernel), List.mem_of_getElem? (i := 314) (by decide +kernel), List.mem_of_getElem? (i := 315) (by decide +kernel)⟩
theorem lw_p2 : lw_okq (⟨"LeakingClocks$State", "roomAbove", "(I)I"⟩, 13) := ⟨⟨by decide +kernel, by decide +kernel⟩, List.mem_of_getElem? (i := 19) (by decide +kernel), List.mem_of_getElem? (i := 352) (by decide +kernel), List.mem_of_getElem? (i := 353) (by decide +kernel)⟩
theorem lw_p3 : lw_okq (⟨"LeakingClocks$State", "enterUpper", "(LLeakingClocks$Clock;I)I"⟩, 13) := ⟨⟨by decide +kernel, by decide +kernel⟩, List.mem_of_getElem? (i := 19) (by decide +kernel), List.mem_of_getElem? (i := 356) (by decide +kernel), List.mem_of_getElem? (i := 357) (by decide +kernel)⟩
theorem lw_p4 : lw_okq (⟨"LeakingClocks$State", "dripOf", "(LLeakingClocks$Clock;)I"⟩, 13) := ⟨⟨by decide +kernel, by decide +kernel⟩, List.mem_of_getElem? (i := 19) (by decide +kernel), List.mem_of_getElem? (i := 417) (by decide +kernel), List.mem_of_getElem? (i := 418) (by decide +kernel)⟩
theorem lw_p5 : lw_okq (⟨"LeakingClocks$State", "goOn", "(LLeakingClocks$Clock;I)V"⟩, 13) := ⟨⟨by decide +kernel, by decide +kernel⟩, List.mem_of_getElem? (i := 19) (by decide +kernel), List.mem_of_getElem? (i := 430) (by decide +kernel), List.mem_of_getElem? (i := 431) (by decide +kernel)⟩
theorem lw_p6 : lw_okq (⟨"LeakingClocks$State", "strokeOf", "(LLeakingClocks$Clock;)I"⟩, 13) := ⟨⟨by decide +kernel, by decide +kernel⟩, List.mem_of_getElem? (i := 19) (by decide +kernel), List.mem_of_getElem? (i := 434) (by decide +kernel), List.mem_of_getElem? (i := 435) (by decide +kernel)⟩
theorem lw_p7 : lw_okq (⟨"LeakingClocks$State", "isNoon", "()Z"⟩, 13) := ⟨⟨by decide +kernel, by decide +kernel⟩, List.mem_of_getElem? (i := 19) (by decide +kernel), List.mem_of_getElem? (i := 442) (by decide +kernel), List.mem_of_getElem? (i := 443) (by decide +kernel)⟩
theorem lw_p8 : lw_okq (⟨"LeakingClocks$State", "noonTicks", "()I"⟩, 13) := ⟨⟨by decide +kernel, by decide +kernel⟩, List.mem_of_getElem? (i := 19) (by decide +kernel), List.mem_of_getElem? (i := 450) (by decide +kernel), List.mem_of_getElem? (i := 451) (by decide +kernel)⟩
theorem lw_p9 : lw_okq (⟨"LeakingClocks$State", "noonComes", "()V"⟩, 13) := ⟨⟨by decide +kernel, by decide +kernel⟩, List.mem_of_getElem? (i := 19) (by decide +kernel), List.mem_of_getElem? (i := 454) (by decide +kernel), List.mem_of_getElem? (i := 455) (by decide +kernel)⟩
theorem lw_p10 : lw_okq (⟨"LeakingClocks$Book", "place", "(I)I"⟩, 4) := ⟨⟨by decide +kernel, by decide +kernel⟩, List.mem_of_getElem? (i := 58) (by decide +kernel), List.mem_of_getElem? (i := 462) (by decide +kernel), List.mem_of_getElem? (i := 463) (by decide +kernel)⟩
theorem lw_p11 : lw_okq (⟨"LeakingClocks$State", "isOff", "(I)Z"⟩, 13) := ⟨⟨by decide +kernel, by decide +kernel⟩, List.mem_of_getElem? (i := 19) (by decide +kernel), List.mem_of_getElem? (i := 476) (by decide +kernel), List.mem_of_getElem? (i := 477) (by decide +kernel)⟩
theorem lw_p12 : lw_okq (⟨"LeakingClocks", "isImage", "(I)Z"⟩, 8) := ⟨⟨by decide +kernel, by decide +kernel⟩, List.mem_of_getElem? (i := 11) (by decide +kernel), List.mem_of_getElem? (i := 511) (by decide +kernel), List.mem_of_getElem? (i := 512) (by decide +kernel)⟩
theorem lw_p13 : lw_okq (⟨"LeakingClocks", "noonErrorWith", "(II)I"⟩, 8) := ⟨⟨by decide +kernel, by decide +kernel⟩, List.mem_of_getElem? (i := 11) (by decide +kernel), List.mem_of_getElem? (i := 591) (by decide +kernel), List.mem_of_getElem? (i := 592) (by decide +kernel)⟩
theorem lw_p14 : lw_okq (⟨"LeakingClocks$State", "sizeOfError", "(I)I"⟩, 13) := ⟨⟨by decide +kernel, by decide +kernel⟩, List.mem_of_getElem? (i := 19) (by decide +kernel), List.mem_of_getElem? (i := 609) (by decide +kernel), List.mem_of_getElem? (i := 610) (by decide +kernel)⟩
theorem lw_p15 : lw_okq (⟨"LeakingClocks", "tryOrders", "()I"⟩, 8) := ⟨⟨by decide +kernel, by decide +kernel⟩, List.mem_of_getElem? (i := 11) (by decide +kernel), List.mem_of_getElem? (i := 660) (by decide +kernel), List.mem_of_getElem? (i := 661) (by decide +kernel)⟩
def lw_privs_1 : List (MethodName × Nat) := [(⟨"LeakingClocks", "changed", "(I)I"⟩, 8), (⟨"LeakingClocks", "dropOldestState", "()V"⟩, 8), (⟨"LeakingClocks$State", "roomAbove", "(I)I"⟩, 13), (⟨"LeakingClocks$State", "enterUpper", "(LLeakingClocks$Clock;I)I"⟩, 13), (⟨"LeakingClocks$State", "dripOf", "(LLeakingClocks$Clock;)I"⟩, 13), (⟨"LeakingClocks$State", "goOn", "(LLeakingClocks$Clock;I)V"⟩, 13), (⟨"LeakingClocks$State", "strokeOf", "(LLeakingClocks$Clock;)I"⟩, 13), (⟨"LeakingClocks$State", "isNoon", "()Z"⟩, 13), (⟨"LeakingClocks$State", "noonTicks", "()I"⟩, 13), (⟨"LeakingClocks$State", "noonComes", "()V"⟩, 13), (⟨"LeakingClocks$Book", "place", "(I)I"⟩, 4), (⟨"LeakingClocks$State", "isOff", "(I)Z"⟩, 13), (⟨"LeakingClocks", "isImage", "(I)Z"⟩, 8), (⟨"LeakingClocks", "noonErrorWith", "(II)I"⟩, 8), (⟨"LeakingClocks$State", "sizeOfError", "(I)I"⟩, 13), (⟨"LeakingClocks", "tryOrders", "()I"⟩, 8)]
theorem lw_r1 : ∀ q ∈ lw_privs_1, lw_okq q := List.forall_mem_cons.mpr ⟨lw_p0, List.forall_mem_cons.mpr ⟨lw_p1, List.forall_mem_cons.mpr ⟨lw_p2, List.forall_mem_cons.mpr ⟨lw_p3, List.forall_mem_cons.mpr ⟨lw_p4, List.forall_mem_cons.mpr ⟨lw_p5, List.forall_mem_cons.mpr ⟨lw_p6, List.forall_mem_cons.mpr ⟨lw_p7, List.forall_mem_cons.mpr ⟨lw_p8, List.forall_mem_cons.mpr ⟨lw_p9, List.forall_mem_cons.mpr ⟨lw_p10, List.forall_mem_cons.mpr ⟨lw_p11, List.forall_mem_cons.mpr ⟨lw_p12, List.forall_mem_cons.mpr ⟨lw_p13, List.forall_mem_cons.mpr ⟨lw_p14, List.forall_mem_cons.mpr ⟨lw_p15, fun _ h => absurd h List.not_mem_nil⟩⟩⟩⟩⟩⟩⟩⟩⟩⟩⟩⟩⟩⟩⟩⟩
theorem lw_p16 : lw_okq (⟨"LeakingClocks$Text", "readForm", "()Z"⟩, 8) := ⟨⟨by decide +kernel, by decide +kernel⟩, List.mem_of_getElem? (i := 199) (by decide +kernel), List.mem_of_getElem? (i := 672) (by decide +kernel), List.mem_of_getElem? (i := 673) (by decide +kernel)⟩
theorem lw_p17 : lw_okq (⟨"LeakingClocks$Text", "signHere", "()C"⟩, 8) := ⟨⟨by decide +kernel, by decide +kernel⟩, List.mem_of_getElem? (i := 199) (by decide +kernel), List.mem_of_getElem? (i := 676) (by decide +kernel), List.mem_of_getElem? (i := 677) (by decide +kernel)⟩
theorem lw_p18 : lw_okq (⟨"LeakingClocks$Text", "readNumber", "(I)Z"⟩, 8) := ⟨⟨by decide +kernel, by decide +kernel⟩, List.mem_of_getElem? (i := 199) (by decide +kernel), List.mem_of_getElem? (i := 683) (by decide +kernel), List.mem_of_getElem? (i := 684) (by decide +kernel)⟩
theorem lw_p19 : lw_okq (⟨"LeakingClocks$Text", "readSign", "(C)Z"⟩, 8) := ⟨⟨by decide +kernel, by decide +kernel⟩, List.mem_of_getElem? (i := 199) (by decide +kernel), List.mem_of_getElem? (i := 691) (by decide +kernel), List.mem_of_getElem? (i := 692) (by decide +kernel)⟩
theorem lw_p20 : lw_okq (⟨"LeakingClocksModel", "note", "()V"⟩, 15) := ⟨⟨by decide +kernel, by decide +kernel⟩, List.mem_of_getElem? (i := 709) (by decide +kernel), List.mem_of_getElem? (i := 765) (by decide +kernel), List.mem_of_getElem? (i := 766) (by decide +kernel)⟩
theorem lw_p21 : lw_okq (⟨"LeakingClocksModel", "clockNow", "(III)I"⟩, 15) := ⟨⟨by decide +kernel, by decide +kernel⟩, List.mem_of_getElem? (i := 709) (by decide +kernel), List.mem_of_getElem? (i := 769) (by decide +kernel), List.mem_of_getElem? (i := 770) (by decide +kernel)⟩
theorem lw_p22 : lw_okq (⟨"LeakingClocksModel", "put", "(III)V"⟩, 15) := ⟨⟨by decide +kernel, by decide +kernel⟩, List.mem_of_getElem? (i := 709) (by decide +kernel), List.mem_of_getElem? (i := 778) (by decide +kernel), List.mem_of_getElem? (i := 779) (by decide +kernel)⟩
theorem lw_p23 : lw_okq (⟨"LeakingClocksModel", "lay", "(I)V"⟩, 15) := ⟨⟨by decide +kernel, by decide +kernel⟩, List.mem_of_getElem? (i := 709) (by decide +kernel), List.mem_of_getElem? (i := 782) (by decide +kernel), List.mem_of_getElem? (i := 783) (by decide +kernel)⟩
theorem lw_p24 : lw_okq (⟨"LeakingClocksModel", "trueHour", "()I"⟩, 15) := ⟨⟨by decide +kernel, by decide +kernel⟩, List.mem_of_getElem? (i := 709) (by decide +kernel), List.mem_of_getElem? (i := 786) (by decide +kernel), List.mem_of_getElem? (i := 787) (by decide +kernel)⟩
theorem lw_p25 : lw_okq (⟨"LeakingClocksModel", "drops", "(I)I"⟩, 15) := ⟨⟨by decide +kernel, by decide +kernel⟩, List.mem_of_getElem? (i := 709) (by decide +kernel), List.mem_of_getElem? (i := 790) (by decide +kernel), List.mem_of_getElem? (i := 791) (by decide +kernel)⟩
theorem lw_p26 : lw_okq (⟨"LeakingClocksModel", "of", "(II)I"⟩, 15) := ⟨⟨by decide +kernel, by decide +kernel⟩, List.mem_of_getElem? (i := 709) (by decide +kernel), List.mem_of_getElem? (i := 794) (by decide +kernel), List.mem_of_getElem? (i := 795) (by decide +kernel)⟩
theorem lw_p27 : lw_okq (⟨"LeakingClocksModel", "recorded", "(I)I"⟩, 15) := ⟨⟨by decide +kernel, by decide +kernel⟩, List.mem_of_getElem? (i := 709) (by decide +kernel), List.mem_of_getElem? (i := 798) (by decide +kernel), List.mem_of_getElem? (i := 799) (by decide +kernel)⟩
theorem lw_p28 : lw_okq (⟨"LeakingClocksModel", "leadNow", "(II)I"⟩, 15) := ⟨⟨by decide +kernel, by decide +kernel⟩, List.mem_of_getElem? (i := 709) (by decide +kernel), List.mem_of_getElem? (i := 809) (by decide +kernel), List.mem_of_getElem? (i := 810) (by decide +kernel)⟩
theorem lw_p29 : lw_okq (⟨"LeakingClocksModel", "isClock", "(I)Z"⟩, 15) := ⟨⟨by decide +kernel, by decide +kernel⟩, List.mem_of_getElem? (i := 709) (by decide +kernel), List.mem_of_getElem? (i := 813) (by decide +kernel), List.mem_of_getElem? (i := 814) (by decide +kernel)⟩
theorem lw_p30 : lw_okq (⟨"LeakingClocksModel", "pourNow", "(II)I"⟩, 15) := ⟨⟨by decide +kernel, by decide +kernel⟩, List.mem_of_getElem? (i := 709) (by decide +kernel), List.mem_of_getElem? (i := 822) (by decide +kernel), List.mem_of_getElem? (i := 823) (by decide +kernel)⟩
theorem lw_p31 : lw_okq (⟨"LeakingClocksModel", "reason", "(II)I"⟩, 15) := ⟨⟨by decide +kernel, by decide +kernel⟩, List.mem_of_getElem? (i := 709) (by decide +kernel), List.mem_of_getElem? (i := 826) (by decide +kernel), List.mem_of_getElem? (i := 827) (by decide +kernel)⟩
def lw_privs_2 : List (MethodName × Nat) := [(⟨"LeakingClocks$Text", "readForm", "()Z"⟩, 8), (⟨"LeakingClocks$Text", "signHere", "()C"⟩, 8), (⟨"LeakingClocks$Text", "readNumber", "(I)Z"⟩, 8), (⟨"LeakingClocks$Text", "readSign", "(C)Z"⟩, 8), (⟨"LeakingClocksModel", "note", "()V"⟩, 15), (⟨"LeakingClocksModel", "clockNow", "(III)I"⟩, 15), (⟨"LeakingClocksModel", "put", "(III)V"⟩, 15), (⟨"LeakingClocksModel", "lay", "(I)V"⟩, 15), (⟨"LeakingClocksModel", "trueHour", "()I"⟩, 15), (⟨"LeakingClocksModel", "drops", "(I)I"⟩, 15), (⟨"LeakingClocksModel", "of", "(II)I"⟩, 15), (⟨"LeakingClocksModel", "recorded", "(I)I"⟩, 15), (⟨"LeakingClocksModel", "leadNow", "(II)I"⟩, 15), (⟨"LeakingClocksModel", "isClock", "(I)Z"⟩, 15), (⟨"LeakingClocksModel", "pourNow", "(II)I"⟩, 15), (⟨"LeakingClocksModel", "reason", "(II)I"⟩, 15)]
theorem lw_r2 : ∀ q ∈ lw_privs_2, lw_okq q := List.forall_mem_cons.mpr ⟨lw_p16, List.forall_mem_cons.mpr ⟨lw_p17, List.forall_mem_cons.mpr ⟨lw_p18, List.forall_mem_cons.mpr ⟨lw_p19, List.forall_mem_cons.mpr ⟨lw_p20, List.forall_mem_cons.mpr ⟨lw_p21, List.forall_mem_cons.mpr ⟨lw_p22, List.forall_mem_cons.mpr ⟨lw_p23, List.forall_mem_cons.mpr ⟨lw_p24, List.forall_mem_cons.mpr ⟨lw_p25, List.forall_mem_cons.mpr ⟨lw_p26, List.forall_mem_cons.mpr ⟨lw_p27, List.forall_mem_cons.mpr ⟨lw_p28, List.forall_mem_cons.mpr ⟨lw_p29, List.forall_mem_cons.mpr ⟨lw_p30, List.forall_mem_cons.mpr ⟨lw_p31, fun _ h => absurd h List.not_mem_nil⟩⟩⟩⟩⟩⟩⟩⟩⟩⟩⟩⟩⟩⟩⟩⟩
theorem lw_p32 : lw_okq (⟨"LeakingClocksModel", "add", "(III)V"⟩, 15) := ⟨⟨by decide +kernel, by decide +kernel⟩, List.mem_of_getElem? (i := 709) (by decide +kernel), List.mem_of_getElem? (i := 833) (by decide +kernel), List.mem_of_getElem? (i := 834) (by decide +kernel)⟩
theorem lw_p33 : lw_okq (⟨"LeakingClocksModel", "fill", "(II)I"⟩, 15) := ⟨⟨by decide +kernel, by decide +kernel⟩, List.mem_of_getElem? (i := 709) (by decide +kernel), List.mem_of_getElem? (i := 837) (by decide +kernel), List.mem_of_getElem? (i := 838) (by decide +kernel)⟩
theorem lw_p34 : lw_okq (⟨"LeakingClocksModel", "waxNow", "(II)I"⟩, 15) := ⟨⟨by decide +kernel, by decide +kernel⟩, List.mem_of_getElem? (i := 709) (by decide +kernel), List.mem_of_getElem? (i := 845) (by decide +kernel), List.mem_of_getElem? (i := 846) (by decide +kernel)⟩
theorem lw_p35 : lw_okq (⟨"LeakingClocksModel", "pitchNow", "(II)I"⟩, 15) := ⟨⟨by decide +kernel, by decide +kernel⟩, List.mem_of_getElem? (i := 709) (by decide +kernel), List.mem_of_getElem? (i := 853) (by decide +kernel), List.mem_of_getElem? (i := 854) (by decide +kernel)⟩
theorem lw_p36 : lw_okq (⟨"LeakingClocksModel", "makeTrue", "(I)V"⟩, 15) := ⟨⟨by decide +kernel, by decide +kernel⟩, List.mem_of_getElem? (i := 709) (by decide +kernel), List.mem_of_getElem? (i := 857) (by decide +kernel), List.mem_of_getElem? (i := 858) (by decide +kernel)⟩
theorem lw_p37 : lw_okq (⟨"LeakingClocksModel", "trueNow", "(I)I"⟩, 15) := ⟨⟨by decide +kernel, by decide +kernel⟩, List.mem_of_getElem? (i := 709) (by decide +kernel), List.mem_of_getElem? (i := 865) (by decide +kernel), List.mem_of_getElem? (i := 866) (by decide +kernel)⟩
theorem lw_p38 : lw_okq (⟨"LeakingClocksModel", "error", "(I)I"⟩, 15) := ⟨⟨by decide +kernel, by decide +kernel⟩, List.mem_of_getElem? (i := 709) (by decide +kernel), List.mem_of_getElem? (i := 869) (by decide +kernel), List.mem_of_getElem? (i := 870) (by decide +kernel)⟩
theorem lw_p39 : lw_okq (⟨"LeakingClocksModel", "hourOf", "(I)I"⟩, 15) := ⟨⟨by decide +kernel, by decide +kernel⟩, List.mem_of_getElem? (i := 709) (by decide +kernel), List.mem_of_getElem? (i := 873) (by decide +kernel), List.mem_of_getElem? (i := 874) (by decide +kernel)⟩
theorem lw_p40 : lw_okq (⟨"LeakingClocksModel", "ticksNow", "(I)I"⟩, 15) := ⟨⟨by decide +kernel, by decide +kernel⟩, List.mem_of_getElem? (i := 709) (by decide +kernel), List.mem_of_getElem? (i := 884) (by decide +kernel), List.mem_of_getElem? (i := 885) (by decide +kernel)⟩
theorem lw_p41 : lw_okq (⟨"LeakingClocksModel", "tick", "()I"⟩, 15) := ⟨⟨by decide +kernel, by decide +kernel⟩, List.mem_of_getElem? (i := 709) (by decide +kernel), List.mem_of_getElem? (i := 889) (by decide +kernel), List.mem_of_getElem? (i := 890) (by decide +kernel)⟩
theorem lw_p42 : lw_okq (⟨"LeakingClocksModel", "pass", "()I"⟩, 15) := ⟨⟨by decide +kernel, by decide +kernel⟩, List.mem_of_getElem? (i := 709) (by decide +kernel), List.mem_of_getElem? (i := 893) (by decide +kernel), List.mem_of_getElem? (i := 894) (by decide +kernel)⟩
theorem lw_p43 : lw_okq (⟨"LeakingClocksModel", "drip", "(I)I"⟩, 15) := ⟨⟨by decide +kernel, by decide +kernel⟩, List.mem_of_getElem? (i := 709) (by decide +kernel), List.mem_of_getElem? (i := 897) (by decide +kernel), List.mem_of_getElem? (i := 898) (by decide +kernel)⟩
theorem lw_p44 : lw_okq (⟨"LeakingClocksModel", "dripOf", "(I)I"⟩, 15) := ⟨⟨by decide +kernel, by decide +kernel⟩, List.mem_of_getElem? (i := 709) (by decide +kernel), List.mem_of_getElem? (i := 901) (by decide +kernel), List.mem_of_getElem? (i := 902) (by decide +kernel)⟩
theorem lw_p45 : lw_okq (⟨"LeakingClocksModel", "goOn", "(II)V"⟩, 15) := ⟨⟨by decide +kernel, by decide +kernel⟩, List.mem_of_getElem? (i := 709) (by decide +kernel), List.mem_of_getElem? (i := 905) (by decide +kernel), List.mem_of_getElem? (i := 906) (by decide +kernel)⟩
theorem lw_p46 : lw_okq (⟨"LeakingClocksModel", "rise", "(II)V"⟩, 15) := ⟨⟨by decide +kernel, by decide +kernel⟩, List.mem_of_getElem? (i := 709) (by decide +kernel), List.mem_of_getElem? (i := 909) (by decide +kernel), List.mem_of_getElem? (i := 910) (by decide +kernel)⟩
theorem lw_p47 : lw_okq (⟨"LeakingClocksModel", "stroke", "(I)V"⟩, 15) := ⟨⟨by decide +kernel, by decide +kernel⟩, List.mem_of_getElem? (i := 709) (by decide +kernel), List.mem_of_getElem? (i := 913) (by decide +kernel), List.mem_of_getElem? (i := 914) (by decide +kernel)⟩
def lw_privs_3 : List (MethodName × Nat) := [(⟨"LeakingClocksModel", "add", "(III)V"⟩, 15), (⟨"LeakingClocksModel", "fill", "(II)I"⟩, 15), (⟨"LeakingClocksModel", "waxNow", "(II)I"⟩, 15), (⟨"LeakingClocksModel", "pitchNow", "(II)I"⟩, 15), (⟨"LeakingClocksModel", "makeTrue", "(I)V"⟩, 15), (⟨"LeakingClocksModel", "trueNow", "(I)I"⟩, 15), (⟨"LeakingClocksModel", "error", "(I)I"⟩, 15), (⟨"LeakingClocksModel", "hourOf", "(I)I"⟩, 15), (⟨"LeakingClocksModel", "ticksNow", "(I)I"⟩, 15), (⟨"LeakingClocksModel", "tick", "()I"⟩, 15), (⟨"LeakingClocksModel", "pass", "()I"⟩, 15), (⟨"LeakingClocksModel", "drip", "(I)I"⟩, 15), (⟨"LeakingClocksModel", "dripOf", "(I)I"⟩, 15), (⟨"LeakingClocksModel", "goOn", "(II)V"⟩, 15), (⟨"LeakingClocksModel", "rise", "(II)V"⟩, 15), (⟨"LeakingClocksModel", "stroke", "(I)V"⟩, 15)]
theorem lw_r3 : ∀ q ∈ lw_privs_3, lw_okq q := List.forall_mem_cons.mpr ⟨lw_p32, List.forall_mem_cons.mpr ⟨lw_p33, List.forall_mem_cons.mpr ⟨lw_p34, List.forall_mem_cons.mpr ⟨lw_p35, List.forall_mem_cons.mpr ⟨lw_p36, List.forall_mem_cons.mpr ⟨lw_p37, List.forall_mem_cons.mpr ⟨lw_p38, List.forall_mem_cons.mpr ⟨lw_p39, List.forall_mem_cons.mpr ⟨lw_p40, List.forall_mem_cons.mpr ⟨lw_p41, List.forall_mem_cons.mpr ⟨lw_p42, List.forall_mem_cons.mpr ⟨lw_p43, List.forall_mem_cons.mpr ⟨lw_p44, List.forall_mem_cons.mpr ⟨lw_p45, List.forall_mem_cons.mpr ⟨lw_p46, List.forall_mem_cons.mpr ⟨lw_p47, fun _ h => absurd h List.not_mem_nil⟩⟩⟩⟩⟩⟩⟩⟩⟩⟩⟩⟩⟩⟩⟩⟩
theorem lw_p48 : lw_okq (⟨"LeakingClocksModel", "widen", "(I)V"⟩, 15) := ⟨⟨by decide +kernel, by decide +kernel⟩, List.mem_of_getElem? (i := 709) (by decide +kernel), List.mem_of_getElem? (i := 917) (by decide +kernel), List.mem_of_getElem? (i := 918) (by decide +kernel)⟩
theorem lw_p49 : lw_okq (⟨"LeakingClocksModel", "isNoon", "()Z"⟩, 15) := ⟨⟨by decide +kernel, by decide +kernel⟩, List.mem_of_getElem? (i := 709) (by decide +kernel), List.mem_of_getElem? (i := 921) (by decide +kernel), List.mem_of_getElem? (i := 922) (by decide +kernel)⟩
theorem lw_p50 : lw_okq (⟨"LeakingClocksModel", "noon", "()V"⟩, 15) := ⟨⟨by decide +kernel, by decide +kernel⟩, List.mem_of_getElem? (i := 709) (by decide +kernel), List.mem_of_getElem? (i := 925) (by decide +kernel), List.mem_of_getElem? (i := 926) (by decide +kernel)⟩
theorem lw_p51 : lw_okq (⟨"LeakingClocksModel", "book", "()V"⟩, 15) := ⟨⟨by decide +kernel, by decide +kernel⟩, List.mem_of_getElem? (i := 709) (by decide +kernel), List.mem_of_getElem? (i := 929) (by decide +kernel), List.mem_of_getElem? (i := 930) (by decide +kernel)⟩
theorem lw_p52 : lw_okq (⟨"LeakingClocksModel", "isOff", "(I)Z"⟩, 15) := ⟨⟨by decide +kernel, by decide +kernel⟩, List.mem_of_getElem? (i := 709) (by decide +kernel), List.mem_of_getElem? (i := 933) (by decide +kernel), List.mem_of_getElem? (i := 934) (by decide +kernel)⟩
theorem lw_p53 : lw_okq (⟨"LeakingClocksModel", "size", "(I)I"⟩, 15) := ⟨⟨by decide +kernel, by decide +kernel⟩, List.mem_of_getElem? (i := 709) (by decide +kernel), List.mem_of_getElem? (i := 937) (by decide +kernel), List.mem_of_getElem? (i := 938) (by decide +kernel)⟩
theorem lw_p54 : lw_okq (⟨"LeakingClocksModel", "setNow", "(II)I"⟩, 15) := ⟨⟨by decide +kernel, by decide +kernel⟩, List.mem_of_getElem? (i := 709) (by decide +kernel), List.mem_of_getElem? (i := 945) (by decide +kernel), List.mem_of_getElem? (i := 946) (by decide +kernel)⟩
theorem lw_p55 : lw_okq (⟨"LeakingClocksModel", "property", "(II)I"⟩, 15) := ⟨⟨by decide +kernel, by decide +kernel⟩, List.mem_of_getElem? (i := 709) (by decide +kernel), List.mem_of_getElem? (i := 968) (by decide +kernel), List.mem_of_getElem? (i := 969) (by decide +kernel)⟩
theorem lw_p56 : lw_okq (⟨"LeakingClocksModel", "sum", "(I)I"⟩, 15) := ⟨⟨by decide +kernel, by decide +kernel⟩, List.mem_of_getElem? (i := 709) (by decide +kernel), List.mem_of_getElem? (i := 981) (by decide +kernel), List.mem_of_getElem? (i := 982) (by decide +kernel)⟩
theorem lw_p57 : lw_okq (⟨"LeakingClocksModel", "putAside", "()V"⟩, 15) := ⟨⟨by decide +kernel, by decide +kernel⟩, List.mem_of_getElem? (i := 709) (by decide +kernel), List.mem_of_getElem? (i := 997) (by decide +kernel), List.mem_of_getElem? (i := 998) (by decide +kernel)⟩
theorem lw_p58 : lw_okq (⟨"LeakingClocksModel", "putBack", "()V"⟩, 15) := ⟨⟨by decide +kernel, by decide +kernel⟩, List.mem_of_getElem? (i := 709) (by decide +kernel), List.mem_of_getElem? (i := 1001) (by decide +kernel), List.mem_of_getElem? (i := 1002) (by decide +kernel)⟩
theorem lw_p59 : lw_okq (⟨"LeakingClocksModel", "errorAtNoon", "(II)I"⟩, 15) := ⟨⟨by decide +kernel, by decide +kernel⟩, List.mem_of_getElem? (i := 709) (by decide +kernel), List.mem_of_getElem? (i := 1009) (by decide +kernel), List.mem_of_getElem? (i := 1010) (by decide +kernel)⟩
theorem lw_p60 : lw_okq (⟨"LeakingClocksModel", "waxFor", "(I)I"⟩, 15) := ⟨⟨by decide +kernel, by decide +kernel⟩, List.mem_of_getElem? (i := 709) (by decide +kernel), List.mem_of_getElem? (i := 1017) (by decide +kernel), List.mem_of_getElem? (i := 1018) (by decide +kernel)⟩
theorem lw_p61 : lw_okq (⟨"LeakingClocksModel", "rankOf", "(I)I"⟩, 15) := ⟨⟨by decide +kernel, by decide +kernel⟩, List.mem_of_getElem? (i := 709) (by decide +kernel), List.mem_of_getElem? (i := 1025) (by decide +kernel), List.mem_of_getElem? (i := 1026) (by decide +kernel)⟩
theorem lw_p62 : lw_okq (⟨"LeakingClocksModel", "number", "(I)I"⟩, 15) := ⟨⟨by decide +kernel, by decide +kernel⟩, List.mem_of_getElem? (i := 709) (by decide +kernel), List.mem_of_getElem? (i := 1047) (by decide +kernel), List.mem_of_getElem? (i := 1048) (by decide +kernel)⟩
theorem lw_p63 : lw_okq (⟨"LeakingClocksModel", "clocksOff", "()I"⟩, 15) := ⟨⟨by decide +kernel, by decide +kernel⟩, List.mem_of_getElem? (i := 709) (by decide +kernel), List.mem_of_getElem? (i := 1051) (by decide +kernel), List.mem_of_getElem? (i := 1052) (by decide +kernel)⟩
def lw_privs_4 : List (MethodName × Nat) := [(⟨"LeakingClocksModel", "widen", "(I)V"⟩, 15), (⟨"LeakingClocksModel", "isNoon", "()Z"⟩, 15), (⟨"LeakingClocksModel", "noon", "()V"⟩, 15), (⟨"LeakingClocksModel", "book", "()V"⟩, 15), (⟨"LeakingClocksModel", "isOff", "(I)Z"⟩, 15), (⟨"LeakingClocksModel", "size", "(I)I"⟩, 15), (⟨"LeakingClocksModel", "setNow", "(II)I"⟩, 15), (⟨"LeakingClocksModel", "property", "(II)I"⟩, 15), (⟨"LeakingClocksModel", "sum", "(I)I"⟩, 15), (⟨"LeakingClocksModel", "putAside", "()V"⟩, 15), (⟨"LeakingClocksModel", "putBack", "()V"⟩, 15), (⟨"LeakingClocksModel", "errorAtNoon", "(II)I"⟩, 15), (⟨"LeakingClocksModel", "waxFor", "(I)I"⟩, 15), (⟨"LeakingClocksModel", "rankOf", "(I)I"⟩, 15), (⟨"LeakingClocksModel", "number", "(I)I"⟩, 15), (⟨"LeakingClocksModel", "clocksOff", "()I"⟩, 15)]
theorem lw_r4 : ∀ q ∈ lw_privs_4, lw_okq q := List.forall_mem_cons.mpr ⟨lw_p48, List.forall_mem_cons.mpr ⟨lw_p49, List.forall_mem_cons.mpr ⟨lw_p50, List.forall_mem_cons.mpr ⟨lw_p51, List.forall_mem_cons.mpr ⟨lw_p52, List.forall_mem_cons.mpr ⟨lw_p53, List.forall_mem_cons.mpr ⟨lw_p54, List.forall_mem_cons.mpr ⟨lw_p55, List.forall_mem_cons.mpr ⟨lw_p56, List.forall_mem_cons.mpr ⟨lw_p57, List.forall_mem_cons.mpr ⟨lw_p58, List.forall_mem_cons.mpr ⟨lw_p59, List.forall_mem_cons.mpr ⟨lw_p60, List.forall_mem_cons.mpr ⟨lw_p61, List.forall_mem_cons.mpr ⟨lw_p62, List.forall_mem_cons.mpr ⟨lw_p63, fun _ h => absurd h List.not_mem_nil⟩⟩⟩⟩⟩⟩⟩⟩⟩⟩⟩⟩⟩⟩⟩⟩
theorem lw_p64 : lw_okq (⟨"LeakingClocksModel", "clocksEmpty", "()I"⟩, 15) := ⟨⟨by decide +kernel, by decide +kernel⟩, List.mem_of_getElem? (i := 709) (by decide +kernel), List.mem_of_getElem? (i := 1055) (by decide +kernel), List.mem_of_getElem? (i := 1056) (by decide +kernel)⟩
theorem lw_p65 : lw_okq (⟨"LeakingClocksModel", "doOrders", "()V"⟩, 15) := ⟨⟨by decide +kernel, by decide +kernel⟩, List.mem_of_getElem? (i := 709) (by decide +kernel), List.mem_of_getElem? (i := 1071) (by decide +kernel), List.mem_of_getElem? (i := 1072) (by decide +kernel)⟩
theorem lw_p66 : lw_okq (⟨"LeakingClocksModel", "readOrder", "()Z"⟩, 15) := ⟨⟨by decide +kernel, by decide +kernel⟩, List.mem_of_getElem? (i := 709) (by decide +kernel), List.mem_of_getElem? (i := 1075) (by decide +kernel), List.mem_of_getElem? (i := 1076) (by decide +kernel)⟩
theorem lw_p67 : lw_okq (⟨"LeakingClocksModel", "readNumber", "(I)Z"⟩, 15) := ⟨⟨by decide +kernel, by decide +kernel⟩, List.mem_of_getElem? (i := 709) (by decide +kernel), List.mem_of_getElem? (i := 1082) (by decide +kernel), List.mem_of_getElem? (i := 1083) (by decide +kernel)⟩
theorem lw_p68 : lw_okq (⟨"LeakingClocksModel", "isAt", "(II)Z"⟩, 15) := ⟨⟨by decide +kernel, by decide +kernel⟩, List.mem_of_getElem? (i := 709) (by decide +kernel), List.mem_of_getElem? (i := 1086) (by decide +kernel), List.mem_of_getElem? (i := 1087) (by decide +kernel)⟩
theorem lw_p69 : lw_okq (⟨"LeakingClocksModel", "readSign", "(I)Z"⟩, 15) := ⟨⟨by decide +kernel, by decide +kernel⟩, List.mem_of_getElem? (i := 709) (by decide +kernel), List.mem_of_getElem? (i := 1090) (by decide +kernel), List.mem_of_getElem? (i := 1091) (by decide +kernel)⟩
theorem lw_p70 : lw_okq (⟨"LeakingClocksModel", "doOrder", "(I)I"⟩, 15) := ⟨⟨by decide +kernel, by decide +kernel⟩, List.mem_of_getElem? (i := 709) (by decide +kernel), List.mem_of_getElem? (i := 1094) (by decide +kernel), List.mem_of_getElem? (i := 1095) (by decide +kernel)⟩
def lw_privs_5 : List (MethodName × Nat) := [(⟨"LeakingClocksModel", "clocksEmpty", "()I"⟩, 15), (⟨"LeakingClocksModel", "doOrders", "()V"⟩, 15), (⟨"LeakingClocksModel", "readOrder", "()Z"⟩, 15), (⟨"LeakingClocksModel", "readNumber", "(I)Z"⟩, 15), (⟨"LeakingClocksModel", "isAt", "(II)Z"⟩, 15), (⟨"LeakingClocksModel", "readSign", "(I)Z"⟩, 15), (⟨"LeakingClocksModel", "doOrder", "(I)I"⟩, 15)]
theorem lw_r5 : ∀ q ∈ lw_privs_5, lw_okq q := List.forall_mem_cons.mpr ⟨lw_p64, List.forall_mem_cons.mpr ⟨lw_p65, List.forall_mem_cons.mpr ⟨lw_p66, List.forall_mem_cons.mpr ⟨lw_p67, List.forall_mem_cons.mpr ⟨lw_p68, List.forall_mem_cons.mpr ⟨lw_p69, List.forall_mem_cons.mpr ⟨lw_p70, fun _ h => absurd h List.not_mem_nil⟩⟩⟩⟩⟩⟩⟩
def lw_privs : List (MethodName × Nat) := lw_privs_1 ++ (lw_privs_2 ++ (lw_privs_3 ++ (lw_privs_4 ++ (lw_privs_5))))
def lw_tbl : List Cond := k2_sels lw_privs ++ tables_1
theorem lw_privs_ok : ∀ q ∈ lw_privs, lw_okq q := by
  show ∀ q ∈ lw_privs_1 ++ (lw_privs_2 ++ (lw_privs_3 ++ (lw_privs_4 ++ (lw_privs_5)))), lw_okq q
  exact List.forall_mem_append.mpr ⟨lw_r1, List.forall_mem_append.mpr ⟨lw_r2, List.forall_mem_append.mpr ⟨lw_r3, List.forall_mem_append.mpr ⟨lw_r4, lw_r5⟩⟩⟩⟩
/-- the streams that the claim lets the run draw from -/
abbrev lw_cs : List Choice := [Jvm.Choice.named "NaN.bits"]
theorem lw_bits : nanBits ∈ lw_cs := by first | decide | exact List.mem_cons_self | simp [lw_cs, nanBits]
end
section
def RX0 : String := "LeakingClocks$Book"
def TX0 : u_T := fun k => match k with
  | 0 => ("LeakingClocks$Book", "clocksThen", "[I", true)
  | 1 => ("LeakingClocks$Book", "errors", "[I", true)
  | 2 => ("LeakingClocks$Book", "noons", "I", false)
  | _ => ("LeakingClocks$Book", "off", "I", false)
def tyX0 : Nat → FieldType := fun k => match k with
  | 0 => .array .int
  | 1 => .array .int
  | 2 => .int
  | _ => .int
abbrev wsX00 : List Cond := u_ws RX0 TX0 4
theorem nmX0 : ∀ a, a < 4 → ∀ b, b < 4 → a ≠ b → (TX0 a).2.1 ≠ (TX0 b).2.1 := by decide +kernel
theorem tyX0_ok : ∀ k, k < 4 → parseFieldDescriptor (TX0 k).2.2.1 = some (tyX0 k) := by decide +kernel
abbrev cX0_init : ByteArray := prog_2_method_1_code
def yX0_init : MethodName := ⟨RX0, "<init>", "()V"⟩
abbrev cX0_copyFrom : ByteArray := prog_2_method_2_code
def yX0_copyFrom : MethodName := ⟨RX0, "copyFrom", "(LLeakingClocks$Book;)V"⟩
abbrev cX0_open : ByteArray := prog_2_method_3_code
def yX0_open : MethodName := ⟨RX0, "open", "(I)V"⟩
abbrev cX0_write : ByteArray := prog_2_method_4_code
def yX0_write : MethodName := ⟨RX0, "write", "(II)V"⟩
abbrev cX0_size : ByteArray := prog_2_method_5_code
def yX0_size : MethodName := ⟨RX0, "size", "()I"⟩
abbrev cX0_has : ByteArray := prog_2_method_6_code
def yX0_has : MethodName := ⟨RX0, "has", "(II)Z"⟩
abbrev cX0_errorAt : ByteArray := prog_2_method_7_code
def yX0_errorAt : MethodName := ⟨RX0, "errorAt", "(II)I"⟩
abbrev cX0_place : ByteArray := prog_2_method_8_code
def yX0_place : MethodName := ⟨RX0, "place", "(I)I"⟩
def RX1 : String := "LeakingClocks$Clock"
def TX1 : u_T := fun k => match k with
  | 0 => ("LeakingClocks$Clock", "number", "I", true)
  | 1 => ("LeakingClocks$Clock", "kind", "I", false)
  | 2 => ("LeakingClocks$Clock", "width", "I", false)
  | 3 => ("LeakingClocks$Clock", "pitch", "I", false)
  | 4 => ("LeakingClocks$Clock", "led", "I", false)
  | 5 => ("LeakingClocks$Clock", "upper", "I", false)
  | 6 => ("LeakingClocks$Clock", "lower", "I", false)
  | 7 => ("LeakingClocks$Clock", "through", "I", false)
  | 8 => ("LeakingClocks$Clock", "unused", "I", false)
  | 9 => ("LeakingClocks$Clock", "widened", "I", false)
  | 10 => ("LeakingClocks$Clock", "strokes", "I", false)
  | 11 => ("LeakingClocks$Clock", "strokeDrops", "I", false)
  | 12 => ("LeakingClocks$Clock", "poured", "I", false)
  | 13 => ("LeakingClocks$Clock", "trued", "I", false)
  | 14 => ("LeakingClocks$Clock", "truedHour", "I", false)
  | _ => ("LeakingClocks$Clock", "truedDrops", "I", false)
def tyX1 : Nat → FieldType := fun k => match k with
  | 0 => .int
  | 1 => .int
  | 2 => .int
  | 3 => .int
  | 4 => .int
  | 5 => .int
  | 6 => .int
  | 7 => .int
  | 8 => .int
  | 9 => .int
  | 10 => .int
  | 11 => .int
  | 12 => .int
  | 13 => .int
  | 14 => .int
  | _ => .int
abbrev wsX10 : List Cond := u_ws RX1 TX1 16
theorem nmX1 : ∀ a, a < 16 → ∀ b, b < 16 → a ≠ b → (TX1 a).2.1 ≠ (TX1 b).2.1 := by decide +kernel
theorem tyX1_ok : ∀ k, k < 16 → parseFieldDescriptor (TX1 k).2.2.1 = some (tyX1 k) := by decide +kernel
abbrev cX1_init : ByteArray := prog_3_method_1_code
def yX1_init : MethodName := ⟨RX1, "<init>", "(I)V"⟩
abbrev cX1_copyFrom : ByteArray := prog_3_method_2_code
def yX1_copyFrom : MethodName := ⟨RX1, "copyFrom", "(LLeakingClocks$Clock;)V"⟩
abbrev cX1_begin : ByteArray := prog_3_method_3_code
def yX1_begin : MethodName := ⟨RX1, "begin", "(IIII)V"⟩
abbrev cX1_has : ByteArray := prog_3_method_4_code
def yX1_has : MethodName := ⟨RX1, "has", "(I)Z"⟩
abbrev cX1_figure : ByteArray := prog_3_method_5_code
def yX1_figure : MethodName := ⟨RX1, "figure", "(I)I"⟩
abbrev cX1_dropsCounted : ByteArray := prog_3_method_6_code
def yX1_dropsCounted : MethodName := ⟨RX1, "dropsCounted", "()I"⟩
abbrev cX1_hourTold : ByteArray := prog_3_method_7_code
def yX1_hourTold : MethodName := ⟨RX1, "hourTold", "()I"⟩
abbrev cX1_trueTo : ByteArray := prog_3_method_8_code
def yX1_trueTo : MethodName := ⟨RX1, "trueTo", "(I)V"⟩
abbrev cX1_nextDrip : ByteArray := prog_3_method_9_code
def yX1_nextDrip : MethodName := ⟨RX1, "nextDrip", "()I"⟩
abbrev cX1_letThrough : ByteArray := prog_3_method_10_code
def yX1_letThrough : MethodName := ⟨RX1, "letThrough", "()I"⟩
abbrev cX1_wearHole : ByteArray := prog_3_method_11_code
def yX1_wearHole : MethodName := ⟨RX1, "wearHole", "(I)V"⟩
def RX2 : String := "LeakingClocks$Settings"
def TX2 : u_T := fun k => match k with
  | 0 => ("LeakingClocks$Settings", "vessel", "I", false)
  | 1 => ("LeakingClocks$Settings", "siphon", "I", false)
  | 2 => ("LeakingClocks$Settings", "wear", "I", false)
  | 3 => ("LeakingClocks$Settings", "hour", "I", false)
  | 4 => ("LeakingClocks$Settings", "borne", "I", false)
  | _ => ("LeakingClocks$Settings", "truing", "I", false)
def tyX2 : Nat → FieldType := fun k => match k with
  | 0 => .int
  | 1 => .int
  | 2 => .int
  | 3 => .int
  | 4 => .int
  | _ => .int
abbrev wsX20 : List Cond := u_ws RX2 TX2 6
theorem nmX2 : ∀ a, a < 6 → ∀ b, b < 6 → a ≠ b → (TX2 a).2.1 ≠ (TX2 b).2.1 := by decide +kernel
theorem tyX2_ok : ∀ k, k < 6 → parseFieldDescriptor (TX2 k).2.2.1 = some (tyX2 k) := by decide +kernel
abbrev cX2_init : ByteArray := prog_4_method_1_code
def yX2_init : MethodName := ⟨RX2, "<init>", "()V"⟩
abbrev cX2_copyFrom : ByteArray := prog_4_method_2_code
def yX2_copyFrom : MethodName := ⟨RX2, "copyFrom", "(LLeakingClocks$Settings;)V"⟩
abbrev cX2_isInRange : ByteArray := prog_4_method_3_code
def yX2_isInRange : MethodName := ⟨RX2, "isInRange", "(II)Z"⟩
abbrev cX2_valueOf : ByteArray := prog_4_method_4_code
def yX2_valueOf : MethodName := ⟨RX2, "valueOf", "(I)I"⟩
abbrev cX2_change : ByteArray := prog_4_method_5_code
def yX2_change : MethodName := ⟨RX2, "change", "(II)V"⟩
def RX3 : String := "LeakingClocks$State"
def TX3 : u_T := fun k => match k with
  | 0 => ("LeakingClocks$State", "clocks", "[LLeakingClocks$Clock;", true)
  | 1 => ("LeakingClocks$State", "settings", "LLeakingClocks$Settings;", true)
  | 2 => ("LeakingClocks$State", "book", "LLeakingClocks$Book;", true)
  | 3 => ("LeakingClocks$State", "count", "I", false)
  | 4 => ("LeakingClocks$State", "now", "I", false)
  | 5 => ("LeakingClocks$State", "cistern", "I", false)
  | 6 => ("LeakingClocks$State", "wasted", "I", false)
  | 7 => ("LeakingClocks$State", "floor", "I", false)
  | 8 => ("LeakingClocks$State", "drawn", "I", false)
  | 9 => ("LeakingClocks$State", "jugsPoured", "I", false)
  | 10 => ("LeakingClocks$State", "dripped", "I", false)
  | 11 => ("LeakingClocks$State", "entered", "I", false)
  | _ => ("LeakingClocks$State", "letGo", "I", false)
def tyX3 : Nat → FieldType := fun k => match k with
  | 0 => .array (.object "LeakingClocks$Clock")
  | 1 => .object "LeakingClocks$Settings"
  | 2 => .object "LeakingClocks$Book"
  | 3 => .int
  | 4 => .int
  | 5 => .int
  | 6 => .int
  | 7 => .int
  | 8 => .int
  | 9 => .int
  | 10 => .int
  | 11 => .int
  | _ => .int
abbrev wsX30 : List Cond := u_ws RX3 TX3 13
theorem nmX3 : ∀ a, a < 13 → ∀ b, b < 13 → a ≠ b → (TX3 a).2.1 ≠ (TX3 b).2.1 := by decide +kernel
theorem tyX3_ok : ∀ k, k < 13 → parseFieldDescriptor (TX3 k).2.2.1 = some (tyX3 k) := by decide +kernel
abbrev cX3_init : ByteArray := prog_5_method_1_code
def yX3_init : MethodName := ⟨RX3, "<init>", "()V"⟩
abbrev cX3_copyFrom : ByteArray := prog_5_method_2_code
def yX3_copyFrom : MethodName := ⟨RX3, "copyFrom", "(LLeakingClocks$State;)V"⟩
abbrev cX3_clockAt : ByteArray := prog_5_method_3_code
def yX3_clockAt : MethodName := ⟨RX3, "clockAt", "(I)LLeakingClocks$Clock;"⟩
abbrev cX3_addClock : ByteArray := prog_5_method_4_code
def yX3_addClock : MethodName := ⟨RX3, "addClock", "(III)I"⟩
abbrev cX3_leadOn : ByteArray := prog_5_method_5_code
def yX3_leadOn : MethodName := ⟨RX3, "leadOn", "(II)I"⟩
abbrev cX3_pourJug : ByteArray := prog_5_method_6_code
def yX3_pourJug : MethodName := ⟨RX3, "pourJug", "(II)I"⟩
abbrev cX3_narrow : ByteArray := prog_5_method_7_code
def yX3_narrow : MethodName := ⟨RX3, "narrow", "(II)I"⟩
abbrev cX3_changePitch : ByteArray := prog_5_method_8_code
def yX3_changePitch : MethodName := ⟨RX3, "changePitch", "(II)I"⟩
abbrev cX3_trueClock : ByteArray := prog_5_method_9_code
def yX3_trueClock : MethodName := ⟨RX3, "trueClock", "(I)I"⟩
abbrev cX3_passTicks : ByteArray := prog_5_method_10_code
def yX3_passTicks : MethodName := ⟨RX3, "passTicks", "(I)I"⟩
abbrev cX3_changeSetting : ByteArray := prog_5_method_11_code
def yX3_changeSetting : MethodName := ⟨RX3, "changeSetting", "(II)I"⟩
abbrev cX3_drip : ByteArray := prog_5_method_12_code
def yX3_drip : MethodName := ⟨RX3, "drip", "(I)I"⟩
abbrev cX3_dripOf : ByteArray := prog_5_method_13_code
def yX3_dripOf : MethodName := ⟨RX3, "dripOf", "(LLeakingClocks$Clock;)I"⟩
abbrev cX3_strokeOf : ByteArray := prog_5_method_14_code
def yX3_strokeOf : MethodName := ⟨RX3, "strokeOf", "(LLeakingClocks$Clock;)I"⟩
abbrev cX3_goOn : ByteArray := prog_5_method_15_code
def yX3_goOn : MethodName := ⟨RX3, "goOn", "(LLeakingClocks$Clock;I)V"⟩
abbrev cX3_enterUpper : ByteArray := prog_5_method_16_code
def yX3_enterUpper : MethodName := ⟨RX3, "enterUpper", "(LLeakingClocks$Clock;I)I"⟩
abbrev cX3_roomAbove : ByteArray := prog_5_method_17_code
def yX3_roomAbove : MethodName := ⟨RX3, "roomAbove", "(I)I"⟩
abbrev cX3_whyNotPoured : ByteArray := prog_5_method_18_code
def yX3_whyNotPoured : MethodName := ⟨RX3, "whyNotPoured", "(LLeakingClocks$Clock;I)I"⟩
abbrev cX3_isEmpty : ByteArray := prog_5_method_19_code
def yX3_isEmpty : MethodName := ⟨RX3, "isEmpty", "(I)Z"⟩
abbrev cX3_together : ByteArray := prog_5_method_20_code
def yX3_together : MethodName := ⟨RX3, "together", "(I)I"⟩
abbrev cX3_allWater : ByteArray := prog_5_method_21_code
def yX3_allWater : MethodName := ⟨RX3, "allWater", "()I"⟩
abbrev cX3_trueHour : ByteArray := prog_5_method_22_code
def yX3_trueHour : MethodName := ⟨RX3, "trueHour", "()I"⟩
abbrev cX3_errorOf : ByteArray := prog_5_method_23_code
def yX3_errorOf : MethodName := ⟨RX3, "errorOf", "(LLeakingClocks$Clock;)I"⟩
abbrev cX3_noonTicks : ByteArray := prog_5_method_24_code
def yX3_noonTicks : MethodName := ⟨RX3, "noonTicks", "()I"⟩
abbrev cX3_untilNoon : ByteArray := prog_5_method_25_code
def yX3_untilNoon : MethodName := ⟨RX3, "untilNoon", "()I"⟩
abbrev cX3_isNoon : ByteArray := prog_5_method_26_code
def yX3_isNoon : MethodName := ⟨RX3, "isNoon", "()Z"⟩
abbrev cX3_isOff : ByteArray := prog_5_method_27_code
def yX3_isOff : MethodName := ⟨RX3, "isOff", "(I)Z"⟩
abbrev cX3_noonComes : ByteArray := prog_5_method_28_code
def yX3_noonComes : MethodName := ⟨RX3, "noonComes", "()V"⟩
abbrev cX3_clocksOff : ByteArray := prog_5_method_29_code
def yX3_clocksOff : MethodName := ⟨RX3, "clocksOff", "()I"⟩
abbrev cX3_clocksEmpty : ByteArray := prog_5_method_30_code
def yX3_clocksEmpty : MethodName := ⟨RX3, "clocksEmpty", "()I"⟩
abbrev cX3_sizeOfError : ByteArray := prog_5_method_31_code
def yX3_sizeOfError : MethodName := ⟨RX3, "sizeOfError", "(I)I"⟩
abbrev cX3_errorsTogether : ByteArray := prog_5_method_32_code
def yX3_errorsTogether : MethodName := ⟨RX3, "errorsTogether", "()I"⟩
abbrev cX3_rankOf : ByteArray := prog_5_method_33_code
def yX3_rankOf : MethodName := ⟨RX3, "rankOf", "(I)I"⟩
def RX4 : String := "LeakingClocks$Text"
def TX4 : u_T := fun k => match k with
  | 0 => ("LeakingClocks$Text", "signs", "[C", true)
  | 1 => ("LeakingClocks$Text", "numbers", "[I", true)
  | 2 => ("LeakingClocks$Text", "length", "I", false)
  | 3 => ("LeakingClocks$Text", "place", "I", false)
  | 4 => ("LeakingClocks$Text", "start", "I", false)
  | 5 => ("LeakingClocks$Text", "letter", "C", false)
  | 6 => ("LeakingClocks$Text", "reason", "I", false)
  | _ => ("LeakingClocks$Text", "cause", "I", false)
def tyX4 : Nat → FieldType := fun k => match k with
  | 0 => .array .char
  | 1 => .array .int
  | 2 => .int
  | 3 => .int
  | 4 => .int
  | 5 => .char
  | 6 => .int
  | _ => .int
abbrev wsX40 : List Cond := u_ws RX4 TX4 8
theorem nmX4 : ∀ a, a < 8 → ∀ b, b < 8 → a ≠ b → (TX4 a).2.1 ≠ (TX4 b).2.1 := by decide +kernel
theorem tyX4_ok : ∀ k, k < 8 → parseFieldDescriptor (TX4 k).2.2.1 = some (tyX4 k) := by decide +kernel
abbrev cX4_init : ByteArray := prog_6_method_1_code
def yX4_init : MethodName := ⟨RX4, "<init>", "()V"⟩
abbrev cX4_append : ByteArray := prog_6_method_2_code
def yX4_append : MethodName := ⟨RX4, "append", "(C)I"⟩
abbrev cX4_rewind : ByteArray := prog_6_method_3_code
def yX4_rewind : MethodName := ⟨RX4, "rewind", "()V"⟩
abbrev cX4_tellFault : ByteArray := prog_6_method_4_code
def yX4_tellFault : MethodName := ⟨RX4, "tellFault", "(II)V"⟩
abbrev cX4_number : ByteArray := prog_6_method_5_code
def yX4_number : MethodName := ⟨RX4, "number", "(I)I"⟩
abbrev cX4_readOrder : ByteArray := prog_6_method_6_code
def yX4_readOrder : MethodName := ⟨RX4, "readOrder", "()Z"⟩
abbrev cX4_readForm : ByteArray := prog_6_method_7_code
def yX4_readForm : MethodName := ⟨RX4, "readForm", "()Z"⟩
abbrev cX4_readNumber : ByteArray := prog_6_method_8_code
def yX4_readNumber : MethodName := ⟨RX4, "readNumber", "(I)Z"⟩
abbrev cX4_readSign : ByteArray := prog_6_method_9_code
def yX4_readSign : MethodName := ⟨RX4, "readSign", "(C)Z"⟩
abbrev cX4_signHere : ByteArray := prog_6_method_10_code
def yX4_signHere : MethodName := ⟨RX4, "signHere", "()C"⟩
abbrev cX4_isDigit : ByteArray := prog_6_method_11_code
def yX4_isDigit : MethodName := ⟨RX4, "isDigit", "(C)Z"⟩
abbrev cX4_numbersOf : ByteArray := prog_6_method_12_code
def yX4_numbersOf : MethodName := ⟨RX4, "numbersOf", "(C)I"⟩
def RX5 : String := "LeakingClocks"
def TX5 : u_T := fun k => match k with
  | 0 => ("LeakingClocks", "present", "LLeakingClocks$State;", true)
  | 1 => ("LeakingClocks", "trial", "LLeakingClocks$State;", true)
  | 2 => ("LeakingClocks", "history", "[LLeakingClocks$State;", true)
  | 3 => ("LeakingClocks", "images", "[LLeakingClocks$State;", true)
  | 4 => ("LeakingClocks", "kept", "[Z", true)
  | 5 => ("LeakingClocks", "text", "LLeakingClocks$Text;", true)
  | 6 => ("LeakingClocks", "before", "LLeakingClocks$State;", false)
  | _ => ("LeakingClocks", "states", "I", false)
def tyX5 : Nat → FieldType := fun k => match k with
  | 0 => .object "LeakingClocks$State"
  | 1 => .object "LeakingClocks$State"
  | 2 => .array (.object "LeakingClocks$State")
  | 3 => .array (.object "LeakingClocks$State")
  | 4 => .array .boolean
  | 5 => .object "LeakingClocks$Text"
  | 6 => .object "LeakingClocks$State"
  | _ => .int
abbrev wsX50 : List Cond := u_ws RX5 TX5 8
theorem nmX5 : ∀ a, a < 8 → ∀ b, b < 8 → a ≠ b → (TX5 a).2.1 ≠ (TX5 b).2.1 := by decide +kernel
theorem tyX5_ok : ∀ k, k < 8 → parseFieldDescriptor (TX5 k).2.2.1 = some (tyX5 k) := by decide +kernel
abbrev cX5_init : ByteArray := prog_1_method_1_code
def yX5_init : MethodName := ⟨RX5, "<init>", "()V"⟩
abbrev cX5_clock : ByteArray := prog_1_method_2_code
def yX5_clock : MethodName := ⟨RX5, "clock", "(III)I"⟩
abbrev cX5_lead : ByteArray := prog_1_method_3_code
def yX5_lead : MethodName := ⟨RX5, "lead", "(II)I"⟩
abbrev cX5_pour : ByteArray := prog_1_method_4_code
def yX5_pour : MethodName := ⟨RX5, "pour", "(II)I"⟩
abbrev cX5_wax : ByteArray := prog_1_method_5_code
def yX5_wax : MethodName := ⟨RX5, "wax", "(II)I"⟩
abbrev cX5_pitch : ByteArray := prog_1_method_6_code
def yX5_pitch : MethodName := ⟨RX5, "pitch", "(II)I"⟩
abbrev cX5_trueUp : ByteArray := prog_1_method_7_code
def yX5_trueUp : MethodName := ⟨RX5, "trueUp", "(I)I"⟩
abbrev cX5_ticks : ByteArray := prog_1_method_8_code
def yX5_ticks : MethodName := ⟨RX5, "ticks", "(I)I"⟩
abbrev cX5_set : ByteArray := prog_1_method_9_code
def yX5_set : MethodName := ⟨RX5, "set", "(II)I"⟩
abbrev cX5_keep : ByteArray := prog_1_method_10_code
def yX5_keep : MethodName := ⟨RX5, "keep", "(I)I"⟩
abbrev cX5_back : ByteArray := prog_1_method_11_code
def yX5_back : MethodName := ⟨RX5, "back", "(I)I"⟩
abbrev cX5_clockOf : ByteArray := prog_1_method_12_code
def yX5_clockOf : MethodName := ⟨RX5, "clockOf", "(II)I"⟩
abbrev cX5_hour : ByteArray := prog_1_method_13_code
def yX5_hour : MethodName := ⟨RX5, "hour", "(II)I"⟩
abbrev cX5_water : ByteArray := prog_1_method_14_code
def yX5_water : MethodName := ⟨RX5, "water", "(I)I"⟩
abbrev cX5_noon : ByteArray := prog_1_method_15_code
def yX5_noon : MethodName := ⟨RX5, "noon", "(II)I"⟩
abbrev cX5_why : ByteArray := prog_1_method_16_code
def yX5_why : MethodName := ⟨RX5, "why", "(II)I"⟩
abbrev cX5_emptyIn : ByteArray := prog_1_method_17_code
def yX5_emptyIn : MethodName := ⟨RX5, "emptyIn", "(I)I"⟩
abbrev cX5_noonError : ByteArray := prog_1_method_18_code
def yX5_noonError : MethodName := ⟨RX5, "noonError", "(I)I"⟩
abbrev cX5_bestWax : ByteArray := prog_1_method_19_code
def yX5_bestWax : MethodName := ⟨RX5, "bestWax", "(II)I"⟩
abbrev cX5_worst : ByteArray := prog_1_method_20_code
def yX5_worst : MethodName := ⟨RX5, "worst", "(I)I"⟩
abbrev cX5_mean : ByteArray := prog_1_method_21_code
def yX5_mean : MethodName := ⟨RX5, "mean", "()I"⟩
abbrev cX5_count : ByteArray := prog_1_method_22_code
def yX5_count : MethodName := ⟨RX5, "count", "(I)I"⟩
abbrev cX5_undo : ByteArray := prog_1_method_23_code
def yX5_undo : MethodName := ⟨RX5, "undo", "()I"⟩
abbrev cX5_type : ByteArray := prog_1_method_24_code
def yX5_type : MethodName := ⟨RX5, "type", "(I)I"⟩
abbrev cX5_clearText : ByteArray := prog_1_method_25_code
def yX5_clearText : MethodName := ⟨RX5, "clearText", "()I"⟩
abbrev cX5_fault : ByteArray := prog_1_method_26_code
def yX5_fault : MethodName := ⟨RX5, "fault", "(I)I"⟩
abbrev cX5_play : ByteArray := prog_1_method_27_code
def yX5_play : MethodName := ⟨RX5, "play", "()I"⟩
abbrev cX5_changed : ByteArray := prog_1_method_28_code
def yX5_changed : MethodName := ⟨RX5, "changed", "(I)I"⟩
abbrev cX5_dropOldestState : ByteArray := prog_1_method_29_code
def yX5_dropOldestState : MethodName := ⟨RX5, "dropOldestState", "()V"⟩
abbrev cX5_tryOrders : ByteArray := prog_1_method_30_code
def yX5_tryOrders : MethodName := ⟨RX5, "tryOrders", "()I"⟩
abbrev cX5_noonErrorWith : ByteArray := prog_1_method_31_code
def yX5_noonErrorWith : MethodName := ⟨RX5, "noonErrorWith", "(II)I"⟩
abbrev cX5_isErrorCode : ByteArray := prog_1_method_32_code
def yX5_isErrorCode : MethodName := ⟨RX5, "isErrorCode", "(I)Z"⟩
abbrev cX5_isImage : ByteArray := prog_1_method_33_code
def yX5_isImage : MethodName := ⟨RX5, "isImage", "(I)Z"⟩
abbrev cX5_isJug : ByteArray := prog_1_method_34_code
def yX5_isJug : MethodName := ⟨RX5, "isJug", "(I)Z"⟩
abbrev cX5_element : ByteArray := prog_1_method_35_code
def yX5_element : MethodName := ⟨RX5, "element", "([II)I"⟩
abbrev cX5_put : ByteArray := prog_1_method_36_code
def yX5_put : MethodName := ⟨RX5, "put", "([III)V"⟩
abbrev cX5_copy : ByteArray := prog_1_method_37_code
def yX5_copy : MethodName := ⟨RX5, "copy", "([I[I)V"⟩
abbrev cX5_quotient : ByteArray := prog_1_method_38_code
def yX5_quotient : MethodName := ⟨RX5, "quotient", "(II)I"⟩
abbrev cX5_bitsOf : ByteArray := prog_1_method_39_code
def yX5_bitsOf : MethodName := ⟨RX5, "bitsOf", "(F)I"⟩
def RX6 : String := "LeakingClocksModel"
def TX6 : u_T := fun k => match k with
  | 0 => ("LeakingClocksModel", "row", "[I", true)
  | 1 => ("LeakingClocksModel", "before", "[I", true)
  | 2 => ("LeakingClocksModel", "history", "[I", true)
  | 3 => ("LeakingClocksModel", "states", "I", false)
  | 4 => ("LeakingClocksModel", "images", "[I", true)
  | 5 => ("LeakingClocksModel", "isKept", "[Z", true)
  | 6 => ("LeakingClocksModel", "aside", "[I", true)
  | 7 => ("LeakingClocksModel", "text", "[I", true)
  | 8 => ("LeakingClocksModel", "length", "I", false)
  | 9 => ("LeakingClocksModel", "place", "I", false)
  | 10 => ("LeakingClocksModel", "numbers", "[I", true)
  | 11 => ("LeakingClocksModel", "faultAt", "I", false)
  | 12 => ("LeakingClocksModel", "faultReason", "I", false)
  | 13 => ("LeakingClocksModel", "faultCause", "I", false)
  | _ => ("LeakingClocksModel", "done", "I", false)
def tyX6 : Nat → FieldType := fun k => match k with
  | 0 => .array .int
  | 1 => .array .int
  | 2 => .array .int
  | 3 => .int
  | 4 => .array .int
  | 5 => .array .boolean
  | 6 => .array .int
  | 7 => .array .int
  | 8 => .int
  | 9 => .int
  | 10 => .array .int
  | 11 => .int
  | 12 => .int
  | 13 => .int
  | _ => .int
abbrev wsX60 : List Cond := u_ws RX6 TX6 15
theorem nmX6 : ∀ a, a < 15 → ∀ b, b < 15 → a ≠ b → (TX6 a).2.1 ≠ (TX6 b).2.1 := by decide +kernel
theorem tyX6_ok : ∀ k, k < 15 → parseFieldDescriptor (TX6 k).2.2.1 = some (tyX6 k) := by decide +kernel
abbrev cX6_init : ByteArray := prog_8_method_1_code
def yX6_init : MethodName := ⟨RX6, "<init>", "()V"⟩
abbrev cX6_in : ByteArray := prog_8_method_2_code
def yX6_in : MethodName := ⟨RX6, "in", "(III)Z"⟩
abbrev cX6_isError : ByteArray := prog_8_method_3_code
def yX6_isError : MethodName := ⟨RX6, "isError", "(I)Z"⟩
abbrev cX6_isClock : ByteArray := prog_8_method_4_code
def yX6_isClock : MethodName := ⟨RX6, "isClock", "(I)Z"⟩
abbrev cX6_of : ByteArray := prog_8_method_5_code
def yX6_of : MethodName := ⟨RX6, "of", "(II)I"⟩
abbrev cX6_put : ByteArray := prog_8_method_6_code
def yX6_put : MethodName := ⟨RX6, "put", "(III)V"⟩
abbrev cX6_add : ByteArray := prog_8_method_7_code
def yX6_add : MethodName := ⟨RX6, "add", "(III)V"⟩
abbrev cX6_note : ByteArray := prog_8_method_8_code
def yX6_note : MethodName := ⟨RX6, "note", "()V"⟩
abbrev cX6_recorded : ByteArray := prog_8_method_9_code
def yX6_recorded : MethodName := ⟨RX6, "recorded", "(I)I"⟩
abbrev cX6_putAside : ByteArray := prog_8_method_10_code
def yX6_putAside : MethodName := ⟨RX6, "putAside", "()V"⟩
abbrev cX6_putBack : ByteArray := prog_8_method_11_code
def yX6_putBack : MethodName := ⟨RX6, "putBack", "()V"⟩
abbrev cX6_floor : ByteArray := prog_8_method_12_code
def yX6_floor : MethodName := ⟨RX6, "floor", "(II)I"⟩
abbrev cX6_trueHour : ByteArray := prog_8_method_13_code
def yX6_trueHour : MethodName := ⟨RX6, "trueHour", "()I"⟩
abbrev cX6_drops : ByteArray := prog_8_method_14_code
def yX6_drops : MethodName := ⟨RX6, "drops", "(I)I"⟩
abbrev cX6_hourOf : ByteArray := prog_8_method_15_code
def yX6_hourOf : MethodName := ⟨RX6, "hourOf", "(I)I"⟩
abbrev cX6_error : ByteArray := prog_8_method_16_code
def yX6_error : MethodName := ⟨RX6, "error", "(I)I"⟩
abbrev cX6_size : ByteArray := prog_8_method_17_code
def yX6_size : MethodName := ⟨RX6, "size", "(I)I"⟩
abbrev cX6_isOff : ByteArray := prog_8_method_18_code
def yX6_isOff : MethodName := ⟨RX6, "isOff", "(I)Z"⟩
abbrev cX6_lay : ByteArray := prog_8_method_19_code
def yX6_lay : MethodName := ⟨RX6, "lay", "(I)V"⟩
abbrev cX6_makeTrue : ByteArray := prog_8_method_20_code
def yX6_makeTrue : MethodName := ⟨RX6, "makeTrue", "(I)V"⟩
abbrev cX6_fill : ByteArray := prog_8_method_21_code
def yX6_fill : MethodName := ⟨RX6, "fill", "(II)I"⟩
abbrev cX6_goOn : ByteArray := prog_8_method_22_code
def yX6_goOn : MethodName := ⟨RX6, "goOn", "(II)V"⟩
abbrev cX6_dripOf : ByteArray := prog_8_method_23_code
def yX6_dripOf : MethodName := ⟨RX6, "dripOf", "(I)I"⟩
abbrev cX6_rise : ByteArray := prog_8_method_24_code
def yX6_rise : MethodName := ⟨RX6, "rise", "(II)V"⟩
abbrev cX6_stroke : ByteArray := prog_8_method_25_code
def yX6_stroke : MethodName := ⟨RX6, "stroke", "(I)V"⟩
abbrev cX6_drip : ByteArray := prog_8_method_26_code
def yX6_drip : MethodName := ⟨RX6, "drip", "(I)I"⟩
abbrev cX6_widen : ByteArray := prog_8_method_27_code
def yX6_widen : MethodName := ⟨RX6, "widen", "(I)V"⟩
abbrev cX6_isNoon : ByteArray := prog_8_method_28_code
def yX6_isNoon : MethodName := ⟨RX6, "isNoon", "()Z"⟩
abbrev cX6_book : ByteArray := prog_8_method_29_code
def yX6_book : MethodName := ⟨RX6, "book", "()V"⟩
abbrev cX6_noon : ByteArray := prog_8_method_30_code
def yX6_noon : MethodName := ⟨RX6, "noon", "()V"⟩
abbrev cX6_pass : ByteArray := prog_8_method_31_code
def yX6_pass : MethodName := ⟨RX6, "pass", "()I"⟩
abbrev cX6_tick : ByteArray := prog_8_method_32_code
def yX6_tick : MethodName := ⟨RX6, "tick", "()I"⟩
abbrev cX6_clockNow : ByteArray := prog_8_method_33_code
def yX6_clockNow : MethodName := ⟨RX6, "clockNow", "(III)I"⟩
abbrev cX6_leadNow : ByteArray := prog_8_method_34_code
def yX6_leadNow : MethodName := ⟨RX6, "leadNow", "(II)I"⟩
abbrev cX6_jug : ByteArray := prog_8_method_35_code
def yX6_jug : MethodName := ⟨RX6, "jug", "(I)I"⟩
abbrev cX6_reason : ByteArray := prog_8_method_36_code
def yX6_reason : MethodName := ⟨RX6, "reason", "(II)I"⟩
abbrev cX6_pourNow : ByteArray := prog_8_method_37_code
def yX6_pourNow : MethodName := ⟨RX6, "pourNow", "(II)I"⟩
abbrev cX6_waxNow : ByteArray := prog_8_method_38_code
def yX6_waxNow : MethodName := ⟨RX6, "waxNow", "(II)I"⟩
abbrev cX6_pitchNow : ByteArray := prog_8_method_39_code
def yX6_pitchNow : MethodName := ⟨RX6, "pitchNow", "(II)I"⟩
abbrev cX6_trueNow : ByteArray := prog_8_method_40_code
def yX6_trueNow : MethodName := ⟨RX6, "trueNow", "(I)I"⟩
abbrev cX6_ticksNow : ByteArray := prog_8_method_41_code
def yX6_ticksNow : MethodName := ⟨RX6, "ticksNow", "(I)I"⟩
abbrev cX6_maySet : ByteArray := prog_8_method_42_code
def yX6_maySet : MethodName := ⟨RX6, "maySet", "(II)Z"⟩
abbrev cX6_setNow : ByteArray := prog_8_method_43_code
def yX6_setNow : MethodName := ⟨RX6, "setNow", "(II)I"⟩
abbrev cX6_clock : ByteArray := prog_8_method_44_code
def yX6_clock : MethodName := ⟨RX6, "clock", "(III)I"⟩
abbrev cX6_lead : ByteArray := prog_8_method_45_code
def yX6_lead : MethodName := ⟨RX6, "lead", "(II)I"⟩
abbrev cX6_pour : ByteArray := prog_8_method_46_code
def yX6_pour : MethodName := ⟨RX6, "pour", "(II)I"⟩
abbrev cX6_wax : ByteArray := prog_8_method_47_code
def yX6_wax : MethodName := ⟨RX6, "wax", "(II)I"⟩
abbrev cX6_pitch : ByteArray := prog_8_method_48_code
def yX6_pitch : MethodName := ⟨RX6, "pitch", "(II)I"⟩
abbrev cX6_trueUp : ByteArray := prog_8_method_49_code
def yX6_trueUp : MethodName := ⟨RX6, "trueUp", "(I)I"⟩
abbrev cX6_ticks : ByteArray := prog_8_method_50_code
def yX6_ticks : MethodName := ⟨RX6, "ticks", "(I)I"⟩
abbrev cX6_set : ByteArray := prog_8_method_51_code
def yX6_set : MethodName := ⟨RX6, "set", "(II)I"⟩
abbrev cX6_keep : ByteArray := prog_8_method_52_code
def yX6_keep : MethodName := ⟨RX6, "keep", "(I)I"⟩
abbrev cX6_back : ByteArray := prog_8_method_53_code
def yX6_back : MethodName := ⟨RX6, "back", "(I)I"⟩
abbrev cX6_undo : ByteArray := prog_8_method_54_code
def yX6_undo : MethodName := ⟨RX6, "undo", "()I"⟩
abbrev cX6_property : ByteArray := prog_8_method_55_code
def yX6_property : MethodName := ⟨RX6, "property", "(II)I"⟩
abbrev cX6_clockOf : ByteArray := prog_8_method_56_code
def yX6_clockOf : MethodName := ⟨RX6, "clockOf", "(II)I"⟩
abbrev cX6_hour : ByteArray := prog_8_method_57_code
def yX6_hour : MethodName := ⟨RX6, "hour", "(II)I"⟩
abbrev cX6_sum : ByteArray := prog_8_method_58_code
def yX6_sum : MethodName := ⟨RX6, "sum", "(I)I"⟩
abbrev cX6_water : ByteArray := prog_8_method_59_code
def yX6_water : MethodName := ⟨RX6, "water", "(I)I"⟩
abbrev cX6_noon_ : ByteArray := prog_8_method_60_code
def yX6_noon_ : MethodName := ⟨RX6, "noon", "(II)I"⟩
abbrev cX6_why : ByteArray := prog_8_method_61_code
def yX6_why : MethodName := ⟨RX6, "why", "(II)I"⟩
abbrev cX6_emptyIn : ByteArray := prog_8_method_62_code
def yX6_emptyIn : MethodName := ⟨RX6, "emptyIn", "(I)I"⟩
abbrev cX6_errorAtNoon : ByteArray := prog_8_method_63_code
def yX6_errorAtNoon : MethodName := ⟨RX6, "errorAtNoon", "(II)I"⟩
abbrev cX6_noonError : ByteArray := prog_8_method_64_code
def yX6_noonError : MethodName := ⟨RX6, "noonError", "(I)I"⟩
abbrev cX6_waxFor : ByteArray := prog_8_method_65_code
def yX6_waxFor : MethodName := ⟨RX6, "waxFor", "(I)I"⟩
abbrev cX6_bestWax : ByteArray := prog_8_method_66_code
def yX6_bestWax : MethodName := ⟨RX6, "bestWax", "(II)I"⟩
abbrev cX6_rankOf : ByteArray := prog_8_method_67_code
def yX6_rankOf : MethodName := ⟨RX6, "rankOf", "(I)I"⟩
abbrev cX6_worst : ByteArray := prog_8_method_68_code
def yX6_worst : MethodName := ⟨RX6, "worst", "(I)I"⟩
abbrev cX6_mean : ByteArray := prog_8_method_69_code
def yX6_mean : MethodName := ⟨RX6, "mean", "()I"⟩
abbrev cX6_clocksOff : ByteArray := prog_8_method_70_code
def yX6_clocksOff : MethodName := ⟨RX6, "clocksOff", "()I"⟩
abbrev cX6_clocksEmpty : ByteArray := prog_8_method_71_code
def yX6_clocksEmpty : MethodName := ⟨RX6, "clocksEmpty", "()I"⟩
abbrev cX6_number : ByteArray := prog_8_method_72_code
def yX6_number : MethodName := ⟨RX6, "number", "(I)I"⟩
abbrev cX6_count : ByteArray := prog_8_method_73_code
def yX6_count : MethodName := ⟨RX6, "count", "(I)I"⟩
abbrev cX6_type : ByteArray := prog_8_method_74_code
def yX6_type : MethodName := ⟨RX6, "type", "(I)I"⟩
abbrev cX6_clearText : ByteArray := prog_8_method_75_code
def yX6_clearText : MethodName := ⟨RX6, "clearText", "()I"⟩
abbrev cX6_isAt : ByteArray := prog_8_method_76_code
def yX6_isAt : MethodName := ⟨RX6, "isAt", "(II)Z"⟩
abbrev cX6_readSign : ByteArray := prog_8_method_77_code
def yX6_readSign : MethodName := ⟨RX6, "readSign", "(I)Z"⟩
abbrev cX6_readNumber : ByteArray := prog_8_method_78_code
def yX6_readNumber : MethodName := ⟨RX6, "readNumber", "(I)Z"⟩
abbrev cX6_numbersOf : ByteArray := prog_8_method_79_code
def yX6_numbersOf : MethodName := ⟨RX6, "numbersOf", "(I)I"⟩
abbrev cX6_readOrder : ByteArray := prog_8_method_80_code
def yX6_readOrder : MethodName := ⟨RX6, "readOrder", "()Z"⟩
abbrev cX6_doOrder : ByteArray := prog_8_method_81_code
def yX6_doOrder : MethodName := ⟨RX6, "doOrder", "(I)I"⟩
abbrev cX6_doOrders : ByteArray := prog_8_method_82_code
def yX6_doOrders : MethodName := ⟨RX6, "doOrders", "()V"⟩
abbrev cX6_fault : ByteArray := prog_8_method_83_code
def yX6_fault : MethodName := ⟨RX6, "fault", "(I)I"⟩
abbrev cX6_play : ByteArray := prog_8_method_84_code
def yX6_play : MethodName := ⟨RX6, "play", "()I"⟩
def RJxf58ca : String := "java/lang/Float"
def TJxf58ca : u_T := fun k => match k with
  | _ => ("", "", "", false)
def tyJxf58ca : Nat → FieldType := fun k => match k with
  | _ => .int
abbrev wsJxf58ca0 : List Cond := u_ws RJxf58ca TJxf58ca 0
theorem nmJxf58ca : ∀ a, a < 0 → ∀ b, b < 0 → a ≠ b → (TJxf58ca a).2.1 ≠ (TJxf58ca b).2.1 := by decide +kernel
theorem tyJxf58ca_ok : ∀ k, k < 0 → parseFieldDescriptor (TJxf58ca k).2.2.1 = some (tyJxf58ca k) := by decide +kernel
abbrev cJxf58ca_isNaN_12338 : ByteArray := prog_9_method_6_code
def yJxf58ca_isNaN_12338 : MethodName := ⟨RJxf58ca, "isNaN", "(F)Z"⟩
abbrev cJxf58ca_floatToIntBits_5c35a : ByteArray := prog_9_method_24_code
def yJxf58ca_floatToIntBits_5c35a : MethodName := ⟨RJxf58ca, "floatToIntBits", "(F)I"⟩
def RJ9 : String := "java/lang/Math"
def TJ9 : u_T := fun k => match k with
  | _ => ("", "", "", false)
def tyJ9 : Nat → FieldType := fun k => match k with
  | _ => .int
abbrev wsJ90 : List Cond := u_ws RJ9 TJ9 0
theorem nmJ9 : ∀ a, a < 0 → ∀ b, b < 0 → a ≠ b → (TJ9 a).2.1 ≠ (TJ9 b).2.1 := by decide +kernel
theorem tyJ9_ok : ∀ k, k < 0 → parseFieldDescriptor (TJ9 k).2.2.1 = some (tyJ9 k) := by decide +kernel
abbrev cJ9_floorDiv_7cf53 : ByteArray := prog_10_method_47_code
def yJ9_floorDiv_7cf53 : MethodName := ⟨RJ9, "floorDiv", "(II)I"⟩
abbrev cJ9_floorMod_7cf53 : ByteArray := prog_10_method_50_code
def yJ9_floorMod_7cf53 : MethodName := ⟨RJ9, "floorMod", "(II)I"⟩
abbrev cJ9_abs_0f7a4 : ByteArray := prog_10_method_59_code
def yJ9_abs_0f7a4 : MethodName := ⟨RJ9, "abs", "(I)I"⟩
abbrev cJ9_min_7cf53 : ByteArray := prog_10_method_69_code
def yJ9_min_7cf53 : MethodName := ⟨RJ9, "min", "(II)I"⟩
def RL : String := "LeakingClocksLaw"
abbrev cL_law : ByteArray := code
def yL_law : MethodName := ⟨RL, "law", "([I)Z"⟩
abbrev vwCl : List vw_C := [(RX0, TX0, 4), (RX1, TX1, 16), (RX2, TX2, 6), (RX3, TX3, 13), (RX4, TX4, 8), (RX5, TX5, 8), (RX6, TX6, 15)]
end
section
/-! BASE: the picture of all cells of class and reference, one judgement J over it, a row an instruction -/
def BG : List Cond := lw_tbl.filter goodWord
theorem bg_in {w : Cond} (h : w ∈ lw_tbl) (hg : goodWord w = true) : w ∈ BG := List.mem_filter.mpr ⟨h, hg⟩
theorem bg_good {ws : List Cond} (h : ∀ w ∈ ws, w ∈ BG) : GoodIn BG ws := fun w hw => ⟨h w hw, good_of_word (List.mem_filter.mp (h w hw)).2⟩
abbrev I3 : Type := Nat × Nat × Nat
abbrev GS : Type := (Nat → Nat → Int32) × (Nat → Fin 9) × (Nat → Nat → Int32)
def isNest : Cond → Bool
  | .methodLinkNest .. => true
  | .fieldLinkNest .. => true
  | _ => false
def nestL : List Cond := tables_1.filter isNest
def nwU (U : State) : Prop := ∀ w ∈ nestL, va_Nw w U
theorem nw_warm {s U : State} (hW : s.WarmedH U.vm) (h : nwU s) : nwU U := by
  intro w hw
  have h1 := (List.mem_filter.mp hw).2
  have h2 := h w hw
  unfold isNest at h1
  split at h1
  · exact va_Nw.warmM hW h2
  · exact va_Nw.warmF hW h2
  · cases h1
theorem nest_tab {w : Cond} (h : isNest w = true) : w.onTables = true := by
  unfold isNest at h
  split at h
  · rfl
  · rfl
  · cases h
theorem nw_same {u U : State} (hvm : u.vm = U.vm) (h : nwU u) : nwU U := fun w hw => va_Nw.same (nest_tab (List.mem_filter.mp hw).2) hvm (h w hw)
/-! the cells' names: tag, number, place -/
def stIds (j : Nat) : List I3 := [(1, j, 0), (2, j, 0), (4, j, 0), (5, j, 0), (6, j, 0), (7, j, 0), (3, j, 0), (3, j, 1), (3, j, 2), (3, j, 3), (3, j, 4)]
def idL : List I3 := [(0, 0, 0), (8, 0, 0), (9, 0, 0), (10, 0, 0), (11, 0, 0), (12, 0, 0), (13, 0, 0), (14, 0, 0), (15, 0, 0), (15, 1, 0), (15, 2, 0), (15, 3, 0), (15, 5, 0), (15, 6, 0), (15, 7, 0), (16, 0, 0)] ++ (List.range 9).flatMap stIds
theorem idL_nodup : idL.Nodup := by decide +kernel
theorem id_st : ∀ j, j < 9 → (1, j, 0) ∈ idL ∧ (2, j, 0) ∈ idL ∧ (4, j, 0) ∈ idL ∧ (5, j, 0) ∈ idL ∧ (6, j, 0) ∈ idL ∧ (7, j, 0) ∈ idL ∧ ∀ k, k < 5 → (3, j, k) ∈ idL := by
  have h : ∀ j, j < 9 → ∀ q ∈ stIds j, q ∈ idL := by decide +kernel
  intro j hj
  have h' := h j hj
  refine ⟨h' _ (by simp [stIds]), h' _ (by simp [stIds]), h' _ (by simp [stIds]), h' _ (by simp [stIds]), h' _ (by simp [stIds]), h' _ (by simp [stIds]), fun k hk => ?_⟩
  rcases (show k = 0 ∨ k = 1 ∨ k = 2 ∨ k = 3 ∨ k = 4 by omega) with rfl | rfl | rfl | rfl | rfl <;> exact h' _ (by simp [stIds])
theorem id_1 {j : Nat} (h : j < 9) : (1, j, 0) ∈ idL := (id_st j h).1
theorem id_2 {j : Nat} (h : j < 9) : (2, j, 0) ∈ idL := (id_st j h).2.1
theorem id_4 {j : Nat} (h : j < 9) : (4, j, 0) ∈ idL := (id_st j h).2.2.1
theorem id_5 {j : Nat} (h : j < 9) : (5, j, 0) ∈ idL := (id_st j h).2.2.2.1
theorem id_6 {j : Nat} (h : j < 9) : (6, j, 0) ∈ idL := (id_st j h).2.2.2.2.1
theorem id_7 {j : Nat} (h : j < 9) : (7, j, 0) ∈ idL := (id_st j h).2.2.2.2.2.1
theorem id_3 {j k : Nat} (h : j < 9) (hk : k < 5) : (3, j, k) ∈ idL := (id_st j h).2.2.2.2.2.2 k hk
def tr (n off : Nat) (f : Nat → Int32) : Nat → Int32 := fun i => if i < n then f (off + i) else 0
def trR (n : Nat) (f : Nat → Nat) : Nat → Option Nat := fun i => if i < n then some (f i) else none
def nI' (n : Nat) : Int32 := Int32.ofNat n
/-- what stands in a cell -/
def cell (ca : Nat → ClassId) (ad : I3 → Nat) (G : GS) : I3 → va_E := fun q => match q with
  | (0, _, _) => .inr (5, [.ref (ad (1, 0, 0)), .ref (ad (1, 1, 0)), .ref (ad (8, 0, 0)), .ref (ad (9, 0, 0)), .ref (ad (10, 0, 0)), .ref (ad (11, 0, 0)), .ref (ad (1, (G.2.1 0).val, 0)), .int (G.1 13 0)])
  | (1, j, _) => .inr (3, [.ref (ad (2, j, 0)), .ref (ad (4, j, 0)), .ref (ad (5, j, 0)), .int (G.1 j 19), .int (G.1 j 6), .int (G.1 j 7), .int (G.1 j 8), .int (G.1 j 9), .int (G.1 j 10), .int (G.1 j 18), .int (G.1 j 11), .int (G.1 j 12), .int (G.1 j 13)])
  | (2, j, _) => .inl (ca 3, 5, .inr (.inr (.inr (.inr (trR 5 (fun i => ad (3, j, i)))))))
  | (3, j, k) => .inr (1, [.int (nI' k), .int (G.1 j (20 + 15 * k + 0)), .int (G.1 j (20 + 15 * k + 1)), .int (G.1 j (20 + 15 * k + 2)), .int (G.1 j (20 + 15 * k + 5)), .int (G.1 j (20 + 15 * k + 3)), .int (G.1 j (20 + 15 * k + 4)), .int (G.1 j (20 + 15 * k + 6)), .int (G.1 j (20 + 15 * k + 7)), .int (G.1 j (20 + 15 * k + 12)), .int (G.1 j (20 + 15 * k + 8)), .int (G.1 j (20 + 15 * k + 9)), .int (G.1 j (20 + 15 * k + 10)), .int (G.1 j (20 + 15 * k + 11)), .int (G.1 j (20 + 15 * k + 13)), .int (G.1 j (20 + 15 * k + 14))])
  | (4, j, _) => .inr (2, [.int (G.1 j 0), .int (G.1 j 1), .int (G.1 j 2), .int (G.1 j 3), .int (G.1 j 4), .int (G.1 j 5)])
  | (5, j, _) => .inr (0, [.ref (ad (6, j, 0)), .ref (ad (7, j, 0)), .int (G.1 j 14), .int (G.1 j 15)])
  | (6, j, _) => .inl (ca 0, 4, .inl (tr 4 96 (G.1 j)))
  | (7, j, _) => .inl (ca 0, 20, .inl (tr 20 100 (G.1 j)))
  | (8, _, _) => .inl (ca 4, 4, .inr (.inr (.inr (.inr (trR 4 (fun i => ad (1, (G.2.1 (1 + i)).val, 0)))))))
  | (9, _, _) => .inl (ca 4, 2, .inr (.inr (.inr (.inr (trR 2 (fun i => ad (1, 7 + i, 0)))))))
  | (10, _, _) => .inl (ca 2, 2, .inl (tr 2 0 (G.1 12)))
  | (11, _, _) => .inr (4, [.ref (ad (12, 0, 0)), .ref (ad (13, 0, 0)), .int (G.1 11 0), .int (G.1 11 1), .int (G.1 11 2), .int (G.1 11 3), .int (G.1 11 4), .int (G.1 11 5)])
  | (12, _, _) => .inl (ca 1, 60, .inl (tr 60 0 (G.1 9)))
  | (13, _, _) => .inl (ca 0, 3, .inl (tr 3 0 (G.1 10)))
  | (14, _, _) => .inr (6, [.ref (ad (15, 0, 0)), .ref (ad (15, 1, 0)), .ref (ad (15, 2, 0)), .int (G.2.2 8 0), .ref (ad (15, 3, 0)), .ref (ad (16, 0, 0)), .ref (ad (15, 5, 0)), .ref (ad (15, 6, 0)), .int (G.2.2 8 1), .int (G.2.2 8 2), .ref (ad (15, 7, 0)), .int (G.2.2 8 3), .int (G.2.2 8 4), .int (G.2.2 8 5), .int (G.2.2 8 6)])
  | (16, _, _) => .inl (ca 2, 2, .inl (tr 2 0 (G.2.2 4)))
  | (_, 0, _) => .inl (ca 0, 120, .inl (tr 120 0 (G.2.2 0)))
  | (_, 1, _) => .inl (ca 0, 120, .inl (tr 120 0 (G.2.2 1)))
  | (_, 2, _) => .inl (ca 0, 480, .inl (tr 480 0 (G.2.2 2)))
  | (_, 3, _) => .inl (ca 0, 240, .inl (tr 240 0 (G.2.2 3)))
  | (_, 5, _) => .inl (ca 0, 120, .inl (tr 120 0 (G.2.2 5)))
  | (_, 6, _) => .inl (ca 0, 60, .inl (tr 60 0 (G.2.2 6)))
  | (_, _, _) => .inl (ca 0, 3, .inl (tr 3 0 (G.2.2 7)))
def wsG (ca : Nat → ClassId) (ad : I3 → Nat) (G : GS) : va_W := idL.map (fun i => (ad i, cell ca ad G i))
def tysG (ca : Nat → ClassId) : List (ClassId × FieldType) := [(ca 0, .int), (ca 1, .char), (ca 2, .boolean), (ca 3, .object RX1), (ca 4, .object RX3)]
def adI (ad : I3 → Nat) : Prop := ∀ i ∈ idL, ∀ j ∈ idL, ad i = ad j → i = j
def adA (ad : I3 → Nat) : Nat → Prop := fun q => ∃ i ∈ idL, ad i = q
theorem ws_ix {id : I3} (h : id ∈ idL) : ∃ q : Nat, idL[q]? = some id := List.getElem?_of_mem h
theorem ws_at {ca : Nat → ClassId} {ad : I3 → Nat} {G : GS} {id : I3} {q : Nat} (h : idL[q]? = some id) : (wsG ca ad G)[q]? = some (ad id, cell ca ad G id) := by
  unfold wsG
  rw [List.getElem?_map, h]; rfl
theorem ws_of {ca : Nat → ClassId} {ad : I3 → Nat} {G : GS} {q : Nat} {x : Nat × va_E} (h : (wsG ca ad G)[q]? = some x) : ∃ id, idL[q]? = some id ∧ x = (ad id, cell ca ad G id) := by
  unfold wsG at h
  rw [List.getElem?_map] at h
  cases hq : idL[q]? with
  | none => rw [hq] at h; cases h
  | some id => rw [hq] at h; cases h; exact ⟨id, rfl, rfl⟩
theorem id_inj {p q : Nat} {id : I3} (h1 : idL[p]? = some id) (h2 : idL[q]? = some id) : p = q := by
  have hl := (List.getElem?_eq_some_iff.mp h1).1
  exact (List.getElem?_inj hl idL_nodup).mp (h1.trans h2.symm)
theorem ws_set {ca : Nat → ClassId} {ad : I3 → Nat} {G G' : GS} {id : I3} {q : Nat} {e : va_E} (h : idL[q]? = some id) (he : cell ca ad G' id = e) (ho : ∀ id' ∈ idL, id' ≠ id → cell ca ad G' id' = cell ca ad G id') : (wsG ca ad G).set q (ad id, e) = wsG ca ad G' := by
  subst he
  apply List.ext_getElem?
  intro k
  by_cases hk : k = q
  · subst hk
    rw [List.getElem?_set_self (List.getElem?_eq_some_iff.mp (ws_at h)).1, ws_at h]
  · rw [List.getElem?_set_ne (Ne.symm hk)]
    unfold wsG
    rw [List.getElem?_map, List.getElem?_map]
    cases hx : idL[k]? with
    | none => rfl
    | some id' =>
      have hne : id' ≠ id := fun e => hk (id_inj (e ▸ hx) h)
      show some (ad id', cell ca ad G id') = some (ad id', cell ca ad G' id')
      rw [ho id' (List.mem_of_getElem? hx) hne]
theorem ws_D {ca : Nat → ClassId} {ad : I3 → Nat} (hi : adI ad) (G : GS) : va_D (adA ad) (wsG ca ad G) := by
  refine ⟨fun i j p q h1 h2 hpq => ?_, fun k q h => ?_⟩
  · obtain ⟨a, ha, rfl⟩ := ws_of h1
    obtain ⟨b, hb, rfl⟩ := ws_of h2
    have := hi a (List.mem_of_getElem? ha) b (List.mem_of_getElem? hb) hpq
    subst this
    exact id_inj ha hb
  · obtain ⟨a, ha, rfl⟩ := ws_of h
    exact ⟨a, List.mem_of_getElem? ha, rfl⟩
/-! places of numbers -/
def updA (C : Nat → Nat → Int32) (a : Nat) (f : Nat → Int32) : Nat → Nat → Int32 := fun x => if x = a then f else C x
abbrev Lc : Type := Bool × Nat × Nat
def grow (G : GS) (b : Bool) (a : Nat) : Nat → Int32 := if b then G.2.2 a else G.1 a
def gget (G : GS) (L : Lc) : Int32 := grow G L.1 L.2.1 L.2.2
def gset (G : GS) (L : Lc) (v : Int32) : GS := if L.1 then (G.1, G.2.1, updA G.2.2 L.2.1 (upd (G.2.2 L.2.1) L.2.2 v)) else (updA G.1 L.2.1 (upd (G.1 L.2.1) L.2.2 v), G.2)
theorem gset_B (G : GS) (L : Lc) (v : Int32) : (gset G L v).2.1 = G.2.1 := by
  obtain ⟨b, a, i⟩ := L
  cases b <;> rfl
theorem updA_same (C : Nat → Nat → Int32) (a : Nat) (f : Nat → Int32) : updA C a f a = f := by simp [updA]
theorem updA_ne {C : Nat → Nat → Int32} {a x : Nat} (f : Nat → Int32) (h : x ≠ a) : updA C a f x = C x := by simp [updA, h]
theorem updA_updA (C : Nat → Nat → Int32) (a : Nat) (f g : Nat → Int32) : updA (updA C a f) a g = updA C a g := by
  funext x
  by_cases h : x = a <;> simp [updA, h]
theorem updA_self (C : Nat → Nat → Int32) (a : Nat) : updA C a (C a) = C := by
  funext x
  by_cases h : x = a <;> simp [updA, h]
theorem gget_gset (G : GS) (L : Lc) (v : Int32) : gget (gset G L v) L = v := by
  obtain ⟨b, a, i⟩ := L
  cases b <;> simp [gget, gset, grow, updA, upd]
theorem updA_upd_ne {C : Nat → Nat → Int32} {a i a' i' : Nat} (v : Int32) (h : ¬ (a' = a ∧ i' = i)) : updA C a (upd (C a) i v) a' i' = C a' i' := by
  unfold updA upd
  by_cases ha : a' = a
  · subst ha
    rw [if_pos rfl, if_neg (fun e => h ⟨rfl, e⟩)]
  · rw [if_neg ha]
theorem gget_gset_ne {G : GS} {L L' : Lc} (v : Int32) (h : L' ≠ L) : gget (gset G L v) L' = gget G L' := by
  obtain ⟨b, a, i⟩ := L
  obtain ⟨b', a', i'⟩ := L'
  cases b <;> cases b'
  · exact updA_upd_ne v (fun e => h (by obtain ⟨rfl, rfl⟩ : a' = a ∧ i' = i := e; rfl))
  · rfl
  · rfl
  · exact updA_upd_ne v (fun e => h (by obtain ⟨rfl, rfl⟩ : a' = a ∧ i' = i := e; rfl))
def ownL (L : Lc) : I3 := match L with
  | (false, a, i) => if a < 9 then (if i < 6 then (4, a, 0) else if i < 14 then (1, a, 0) else if i < 16 then (5, a, 0) else if i < 20 then (1, a, 0) else if i < 95 then (3, a, (i - 20) / 15) else if i < 96 then (1, a, 0) else if i < 100 then (6, a, 0) else (7, a, 0)) else if a = 9 then (12, 0, 0) else if a = 10 then (13, 0, 0) else if a = 11 then (11, 0, 0) else if a = 12 then (10, 0, 0) else (0, 0, 0)
  | (true, a, _) => if a = 8 then (14, 0, 0) else if a = 4 then (16, 0, 0) else (15, a, 0)
theorem tr_congr {n off : Nat} {f g : Nat → Int32} (h : ∀ i, i < n → f (off + i) = g (off + i)) : tr n off f = tr n off g := by
  funext i
  unfold tr
  by_cases hi : i < n
  · rw [if_pos hi, if_pos hi, h i hi]
  · rw [if_neg hi, if_neg hi]
theorem tr_upd {n off i : Nat} (f : Nat → Int32) (v : Int32) (hi : i < n) : tr n off (upd f (off + i) v) = upd (tr n off f) i v := by
  funext j
  unfold tr upd
  by_cases hj : j = i
  · subst hj; simp [hi]
  · by_cases hn : j < n
    · simp [hn, hj]
    · simp [hn, hj]
theorem tr_at {n off i : Nat} (f : Nat → Int32) (hi : i < n) : tr n off f i = f (off + i) := by simp [tr, hi]
end
section
/-! ROWS: the frame of the cells, the judgement J, a row an instruction -/
def okId : I3 → Bool := fun q => match q with
  | (0, a, k) => a == 0 && k == 0
  | (3, j, k) => decide (j < 9) && decide (k < 5)
  | (8, a, k) => a == 0 && k == 0
  | (9, a, k) => a == 0 && k == 0
  | (10, a, k) => a == 0 && k == 0
  | (11, a, k) => a == 0 && k == 0
  | (12, a, k) => a == 0 && k == 0
  | (13, a, k) => a == 0 && k == 0
  | (14, a, k) => a == 0 && k == 0
  | (15, a, k) => decide (a < 8) && a != 4 && k == 0
  | (16, a, k) => a == 0 && k == 0
  | (t, j, k) => decide (t < 8) && decide (j < 9) && k == 0
theorem id_ok : ∀ id ∈ idL, okId id = true := by decide +kernel
theorem frC {G G' : GS} {id : I3} (h : ∀ L, ownL L = id → gget G' L = gget G L) {a i : Nat} (ho : ownL (false, a, i) = id) : G'.1 a i = G.1 a i := h (false, a, i) ho
theorem frM {G G' : GS} {id : I3} (h : ∀ L, ownL L = id → gget G' L = gget G L) {a i : Nat} (ho : ownL (true, a, i) = id) : G'.2.2 a i = G.2.2 a i := h (true, a, i) ho
theorem cf_0 {ca : Nat → ClassId} {ad : I3 → Nat} {G G' : GS} {j k : Nat} (hB : G'.2.1 = G.2.1) (h : ∀ L, ownL L = (0, 0, 0) → gget G' L = gget G L) : cell ca ad G' (0, 0, 0) = cell ca ad G (0, 0, 0) := by
  have e0 := frC h (a := 13) (i := 0) (by simp [ownL])
  simp only [cell, hB, e0]
theorem cf_1 {ca : Nat → ClassId} {ad : I3 → Nat} {G G' : GS} {j k : Nat} (hj : j < 9) (hB : G'.2.1 = G.2.1) (h : ∀ L, ownL L = (1, j, 0) → gget G' L = gget G L) : cell ca ad G' (1, j, 0) = cell ca ad G (1, j, 0) := by
  have e0 := frC h (a := j) (i := 19) (by simp [ownL, hj])
  have e1 := frC h (a := j) (i := 6) (by simp [ownL, hj])
  have e2 := frC h (a := j) (i := 7) (by simp [ownL, hj])
  have e3 := frC h (a := j) (i := 8) (by simp [ownL, hj])
  have e4 := frC h (a := j) (i := 9) (by simp [ownL, hj])
  have e5 := frC h (a := j) (i := 10) (by simp [ownL, hj])
  have e6 := frC h (a := j) (i := 18) (by simp [ownL, hj])
  have e7 := frC h (a := j) (i := 11) (by simp [ownL, hj])
  have e8 := frC h (a := j) (i := 12) (by simp [ownL, hj])
  have e9 := frC h (a := j) (i := 13) (by simp [ownL, hj])
  simp only [cell, hB, e0, e1, e2, e3, e4, e5, e6, e7, e8, e9]
theorem cf_2 {ca : Nat → ClassId} {ad : I3 → Nat} {G G' : GS} {j k : Nat} (hB : G'.2.1 = G.2.1) (h : ∀ L, ownL L = (2, j, 0) → gget G' L = gget G L) : cell ca ad G' (2, j, 0) = cell ca ad G (2, j, 0) := by
  simp only [cell, hB]
theorem cf_3 {ca : Nat → ClassId} {ad : I3 → Nat} {G G' : GS} {j k : Nat} (hj : j < 9) (hk : k < 5) (hB : G'.2.1 = G.2.1) (h : ∀ L, ownL L = (3, j, k) → gget G' L = gget G L) : cell ca ad G' (3, j, k) = cell ca ad G (3, j, k) := by
  have e0 := frC h (a := j) (i := 20 + 15 * k + 0) (by simp only [ownL]; rw [if_pos hj, if_neg (by omega), if_neg (by omega), if_neg (by omega), if_neg (by omega), if_pos (by omega)]; congr 2; omega)
  have e1 := frC h (a := j) (i := 20 + 15 * k + 1) (by simp only [ownL]; rw [if_pos hj, if_neg (by omega), if_neg (by omega), if_neg (by omega), if_neg (by omega), if_pos (by omega)]; congr 2; omega)
  have e2 := frC h (a := j) (i := 20 + 15 * k + 2) (by simp only [ownL]; rw [if_pos hj, if_neg (by omega), if_neg (by omega), if_neg (by omega), if_neg (by omega), if_pos (by omega)]; congr 2; omega)
  have e3 := frC h (a := j) (i := 20 + 15 * k + 5) (by simp only [ownL]; rw [if_pos hj, if_neg (by omega), if_neg (by omega), if_neg (by omega), if_neg (by omega), if_pos (by omega)]; congr 2; omega)
  have e4 := frC h (a := j) (i := 20 + 15 * k + 3) (by simp only [ownL]; rw [if_pos hj, if_neg (by omega), if_neg (by omega), if_neg (by omega), if_neg (by omega), if_pos (by omega)]; congr 2; omega)
  have e5 := frC h (a := j) (i := 20 + 15 * k + 4) (by simp only [ownL]; rw [if_pos hj, if_neg (by omega), if_neg (by omega), if_neg (by omega), if_neg (by omega), if_pos (by omega)]; congr 2; omega)
  have e6 := frC h (a := j) (i := 20 + 15 * k + 6) (by simp only [ownL]; rw [if_pos hj, if_neg (by omega), if_neg (by omega), if_neg (by omega), if_neg (by omega), if_pos (by omega)]; congr 2; omega)
  have e7 := frC h (a := j) (i := 20 + 15 * k + 7) (by simp only [ownL]; rw [if_pos hj, if_neg (by omega), if_neg (by omega), if_neg (by omega), if_neg (by omega), if_pos (by omega)]; congr 2; omega)
  have e8 := frC h (a := j) (i := 20 + 15 * k + 12) (by simp only [ownL]; rw [if_pos hj, if_neg (by omega), if_neg (by omega), if_neg (by omega), if_neg (by omega), if_pos (by omega)]; congr 2; omega)
  have e9 := frC h (a := j) (i := 20 + 15 * k + 8) (by simp only [ownL]; rw [if_pos hj, if_neg (by omega), if_neg (by omega), if_neg (by omega), if_neg (by omega), if_pos (by omega)]; congr 2; omega)
  have e10 := frC h (a := j) (i := 20 + 15 * k + 9) (by simp only [ownL]; rw [if_pos hj, if_neg (by omega), if_neg (by omega), if_neg (by omega), if_neg (by omega), if_pos (by omega)]; congr 2; omega)
  have e11 := frC h (a := j) (i := 20 + 15 * k + 10) (by simp only [ownL]; rw [if_pos hj, if_neg (by omega), if_neg (by omega), if_neg (by omega), if_neg (by omega), if_pos (by omega)]; congr 2; omega)
  have e12 := frC h (a := j) (i := 20 + 15 * k + 11) (by simp only [ownL]; rw [if_pos hj, if_neg (by omega), if_neg (by omega), if_neg (by omega), if_neg (by omega), if_pos (by omega)]; congr 2; omega)
  have e13 := frC h (a := j) (i := 20 + 15 * k + 13) (by simp only [ownL]; rw [if_pos hj, if_neg (by omega), if_neg (by omega), if_neg (by omega), if_neg (by omega), if_pos (by omega)]; congr 2; omega)
  have e14 := frC h (a := j) (i := 20 + 15 * k + 14) (by simp only [ownL]; rw [if_pos hj, if_neg (by omega), if_neg (by omega), if_neg (by omega), if_neg (by omega), if_pos (by omega)]; congr 2; omega)
  simp only [cell, hB, e0, e1, e2, e3, e4, e5, e6, e7, e8, e9, e10, e11, e12, e13, e14]
theorem cf_4 {ca : Nat → ClassId} {ad : I3 → Nat} {G G' : GS} {j k : Nat} (hj : j < 9) (hB : G'.2.1 = G.2.1) (h : ∀ L, ownL L = (4, j, 0) → gget G' L = gget G L) : cell ca ad G' (4, j, 0) = cell ca ad G (4, j, 0) := by
  have e0 := frC h (a := j) (i := 0) (by simp [ownL, hj])
  have e1 := frC h (a := j) (i := 1) (by simp [ownL, hj])
  have e2 := frC h (a := j) (i := 2) (by simp [ownL, hj])
  have e3 := frC h (a := j) (i := 3) (by simp [ownL, hj])
  have e4 := frC h (a := j) (i := 4) (by simp [ownL, hj])
  have e5 := frC h (a := j) (i := 5) (by simp [ownL, hj])
  simp only [cell, hB, e0, e1, e2, e3, e4, e5]
theorem cf_5 {ca : Nat → ClassId} {ad : I3 → Nat} {G G' : GS} {j k : Nat} (hj : j < 9) (hB : G'.2.1 = G.2.1) (h : ∀ L, ownL L = (5, j, 0) → gget G' L = gget G L) : cell ca ad G' (5, j, 0) = cell ca ad G (5, j, 0) := by
  have e0 := frC h (a := j) (i := 14) (by simp [ownL, hj])
  have e1 := frC h (a := j) (i := 15) (by simp [ownL, hj])
  simp only [cell, hB, e0, e1]
theorem cf_6 {ca : Nat → ClassId} {ad : I3 → Nat} {G G' : GS} {j k : Nat} (hj : j < 9) (hB : G'.2.1 = G.2.1) (h : ∀ L, ownL L = (6, j, 0) → gget G' L = gget G L) : cell ca ad G' (6, j, 0) = cell ca ad G (6, j, 0) := by
  have e := tr_congr (n := 4) (off := 96) (f := G'.1 j) (g := G.1 j) (fun i hi => frC h (by simp only [ownL]; rw [if_pos hj, if_neg (by omega), if_neg (by omega), if_neg (by omega), if_neg (by omega), if_neg (by omega), if_neg (by omega), if_pos (by omega)]))
  simp only [cell, e]
theorem cf_7 {ca : Nat → ClassId} {ad : I3 → Nat} {G G' : GS} {j k : Nat} (hj : j < 9) (hB : G'.2.1 = G.2.1) (h : ∀ L, ownL L = (7, j, 0) → gget G' L = gget G L) : cell ca ad G' (7, j, 0) = cell ca ad G (7, j, 0) := by
  have e := tr_congr (n := 20) (off := 100) (f := G'.1 j) (g := G.1 j) (fun i hi => frC h (by simp only [ownL]; rw [if_pos hj, if_neg (by omega), if_neg (by omega), if_neg (by omega), if_neg (by omega), if_neg (by omega), if_neg (by omega), if_neg (by omega)]))
  simp only [cell, e]
theorem cf_8 {ca : Nat → ClassId} {ad : I3 → Nat} {G G' : GS} {j k : Nat} (hB : G'.2.1 = G.2.1) (h : ∀ L, ownL L = (8, 0, 0) → gget G' L = gget G L) : cell ca ad G' (8, 0, 0) = cell ca ad G (8, 0, 0) := by
  simp only [cell, hB]
theorem cf_9 {ca : Nat → ClassId} {ad : I3 → Nat} {G G' : GS} {j k : Nat} (hB : G'.2.1 = G.2.1) (h : ∀ L, ownL L = (9, 0, 0) → gget G' L = gget G L) : cell ca ad G' (9, 0, 0) = cell ca ad G (9, 0, 0) := by
  simp only [cell, hB]
theorem cf_10 {ca : Nat → ClassId} {ad : I3 → Nat} {G G' : GS} {j k : Nat} (hB : G'.2.1 = G.2.1) (h : ∀ L, ownL L = (10, 0, 0) → gget G' L = gget G L) : cell ca ad G' (10, 0, 0) = cell ca ad G (10, 0, 0) := by
  have e := tr_congr (n := 2) (off := 0) (f := G'.1 12) (g := G.1 12) (fun i hi => frC h (by simp [ownL]))
  simp only [cell, e]
theorem cf_11 {ca : Nat → ClassId} {ad : I3 → Nat} {G G' : GS} {j k : Nat} (hB : G'.2.1 = G.2.1) (h : ∀ L, ownL L = (11, 0, 0) → gget G' L = gget G L) : cell ca ad G' (11, 0, 0) = cell ca ad G (11, 0, 0) := by
  have e0 := frC h (a := 11) (i := 0) (by simp [ownL])
  have e1 := frC h (a := 11) (i := 1) (by simp [ownL])
  have e2 := frC h (a := 11) (i := 2) (by simp [ownL])
  have e3 := frC h (a := 11) (i := 3) (by simp [ownL])
  have e4 := frC h (a := 11) (i := 4) (by simp [ownL])
  have e5 := frC h (a := 11) (i := 5) (by simp [ownL])
  simp only [cell, hB, e0, e1, e2, e3, e4, e5]
theorem cf_12 {ca : Nat → ClassId} {ad : I3 → Nat} {G G' : GS} {j k : Nat} (hB : G'.2.1 = G.2.1) (h : ∀ L, ownL L = (12, 0, 0) → gget G' L = gget G L) : cell ca ad G' (12, 0, 0) = cell ca ad G (12, 0, 0) := by
  have e := tr_congr (n := 60) (off := 0) (f := G'.1 9) (g := G.1 9) (fun i hi => frC h (by simp [ownL]))
  simp only [cell, e]
theorem cf_13 {ca : Nat → ClassId} {ad : I3 → Nat} {G G' : GS} {j k : Nat} (hB : G'.2.1 = G.2.1) (h : ∀ L, ownL L = (13, 0, 0) → gget G' L = gget G L) : cell ca ad G' (13, 0, 0) = cell ca ad G (13, 0, 0) := by
  have e := tr_congr (n := 3) (off := 0) (f := G'.1 10) (g := G.1 10) (fun i hi => frC h (by simp [ownL]))
  simp only [cell, e]
theorem cf_14 {ca : Nat → ClassId} {ad : I3 → Nat} {G G' : GS} {j k : Nat} (hB : G'.2.1 = G.2.1) (h : ∀ L, ownL L = (14, 0, 0) → gget G' L = gget G L) : cell ca ad G' (14, 0, 0) = cell ca ad G (14, 0, 0) := by
  have e0 := frM h (a := 8) (i := 0) (by simp [ownL])
  have e1 := frM h (a := 8) (i := 1) (by simp [ownL])
  have e2 := frM h (a := 8) (i := 2) (by simp [ownL])
  have e3 := frM h (a := 8) (i := 3) (by simp [ownL])
  have e4 := frM h (a := 8) (i := 4) (by simp [ownL])
  have e5 := frM h (a := 8) (i := 5) (by simp [ownL])
  have e6 := frM h (a := 8) (i := 6) (by simp [ownL])
  simp only [cell, hB, e0, e1, e2, e3, e4, e5, e6]
theorem cf_15_0 {ca : Nat → ClassId} {ad : I3 → Nat} {G G' : GS} {j k : Nat} (hB : G'.2.1 = G.2.1) (h : ∀ L, ownL L = (15, 0, 0) → gget G' L = gget G L) : cell ca ad G' (15, 0, 0) = cell ca ad G (15, 0, 0) := by
  have e := tr_congr (n := 120) (off := 0) (f := G'.2.2 0) (g := G.2.2 0) (fun i hi => frM h (by simp [ownL]))
  simp only [cell, e]
theorem cf_15_1 {ca : Nat → ClassId} {ad : I3 → Nat} {G G' : GS} {j k : Nat} (hB : G'.2.1 = G.2.1) (h : ∀ L, ownL L = (15, 1, 0) → gget G' L = gget G L) : cell ca ad G' (15, 1, 0) = cell ca ad G (15, 1, 0) := by
  have e := tr_congr (n := 120) (off := 0) (f := G'.2.2 1) (g := G.2.2 1) (fun i hi => frM h (by simp [ownL]))
  simp only [cell, e]
theorem cf_15_2 {ca : Nat → ClassId} {ad : I3 → Nat} {G G' : GS} {j k : Nat} (hB : G'.2.1 = G.2.1) (h : ∀ L, ownL L = (15, 2, 0) → gget G' L = gget G L) : cell ca ad G' (15, 2, 0) = cell ca ad G (15, 2, 0) := by
  have e := tr_congr (n := 480) (off := 0) (f := G'.2.2 2) (g := G.2.2 2) (fun i hi => frM h (by simp [ownL]))
  simp only [cell, e]
theorem cf_15_3 {ca : Nat → ClassId} {ad : I3 → Nat} {G G' : GS} {j k : Nat} (hB : G'.2.1 = G.2.1) (h : ∀ L, ownL L = (15, 3, 0) → gget G' L = gget G L) : cell ca ad G' (15, 3, 0) = cell ca ad G (15, 3, 0) := by
  have e := tr_congr (n := 240) (off := 0) (f := G'.2.2 3) (g := G.2.2 3) (fun i hi => frM h (by simp [ownL]))
  simp only [cell, e]
theorem cf_15_5 {ca : Nat → ClassId} {ad : I3 → Nat} {G G' : GS} {j k : Nat} (hB : G'.2.1 = G.2.1) (h : ∀ L, ownL L = (15, 5, 0) → gget G' L = gget G L) : cell ca ad G' (15, 5, 0) = cell ca ad G (15, 5, 0) := by
  have e := tr_congr (n := 120) (off := 0) (f := G'.2.2 5) (g := G.2.2 5) (fun i hi => frM h (by simp [ownL]))
  simp only [cell, e]
theorem cf_15_6 {ca : Nat → ClassId} {ad : I3 → Nat} {G G' : GS} {j k : Nat} (hB : G'.2.1 = G.2.1) (h : ∀ L, ownL L = (15, 6, 0) → gget G' L = gget G L) : cell ca ad G' (15, 6, 0) = cell ca ad G (15, 6, 0) := by
  have e := tr_congr (n := 60) (off := 0) (f := G'.2.2 6) (g := G.2.2 6) (fun i hi => frM h (by simp [ownL]))
  simp only [cell, e]
theorem cf_15_7 {ca : Nat → ClassId} {ad : I3 → Nat} {G G' : GS} {j k : Nat} (hB : G'.2.1 = G.2.1) (h : ∀ L, ownL L = (15, 7, 0) → gget G' L = gget G L) : cell ca ad G' (15, 7, 0) = cell ca ad G (15, 7, 0) := by
  have e := tr_congr (n := 3) (off := 0) (f := G'.2.2 7) (g := G.2.2 7) (fun i hi => frM h (by simp [ownL]))
  simp only [cell, e]
theorem cf_16 {ca : Nat → ClassId} {ad : I3 → Nat} {G G' : GS} {j k : Nat} (hB : G'.2.1 = G.2.1) (h : ∀ L, ownL L = (16, 0, 0) → gget G' L = gget G L) : cell ca ad G' (16, 0, 0) = cell ca ad G (16, 0, 0) := by
  have e := tr_congr (n := 2) (off := 0) (f := G'.2.2 4) (g := G.2.2 4) (fun i hi => frM h (by simp [ownL]))
  simp only [cell, e]
theorem cell_frame {ca : Nat → ClassId} {ad : I3 → Nat} {G G' : GS} {id : I3} (hid : id ∈ idL) (hB : G'.2.1 = G.2.1) (h : ∀ L, ownL L = id → gget G' L = gget G L) : cell ca ad G' id = cell ca ad G id := by
  have ho := id_ok id hid
  obtain ⟨t, a, k⟩ := id
  unfold okId at ho
  split at ho <;> rename_i heq <;> cases heq
  · simp only [Bool.and_eq_true, beq_iff_eq] at ho; obtain ⟨rfl, rfl⟩ := ho; exact cf_0 (j := 0) (k := 0) hB h
  · simp only [Bool.and_eq_true, decide_eq_true_eq] at ho; exact cf_3 ho.1 ho.2 hB h
  · simp only [Bool.and_eq_true, beq_iff_eq] at ho; obtain ⟨rfl, rfl⟩ := ho; exact cf_8 (j := 0) (k := 0) hB h
  · simp only [Bool.and_eq_true, beq_iff_eq] at ho; obtain ⟨rfl, rfl⟩ := ho; exact cf_9 (j := 0) (k := 0) hB h
  · simp only [Bool.and_eq_true, beq_iff_eq] at ho; obtain ⟨rfl, rfl⟩ := ho; exact cf_10 (j := 0) (k := 0) hB h
  · simp only [Bool.and_eq_true, beq_iff_eq] at ho; obtain ⟨rfl, rfl⟩ := ho; exact cf_11 (j := 0) (k := 0) hB h
  · simp only [Bool.and_eq_true, beq_iff_eq] at ho; obtain ⟨rfl, rfl⟩ := ho; exact cf_12 (j := 0) (k := 0) hB h
  · simp only [Bool.and_eq_true, beq_iff_eq] at ho; obtain ⟨rfl, rfl⟩ := ho; exact cf_13 (j := 0) (k := 0) hB h
  · simp only [Bool.and_eq_true, beq_iff_eq] at ho; obtain ⟨rfl, rfl⟩ := ho; exact cf_14 (j := 0) (k := 0) hB h
  · simp only [Bool.and_eq_true, decide_eq_true_eq, beq_iff_eq, bne_iff_ne] at ho
    obtain ⟨⟨h8, h4⟩, rfl⟩ := ho
    rcases (show a = 0 ∨ a = 1 ∨ a = 2 ∨ a = 3 ∨ a = 5 ∨ a = 6 ∨ a = 7 by omega) with rfl | rfl | rfl | rfl | rfl | rfl | rfl
    · exact cf_15_0 (j := 0) (k := 0) hB h
    · exact cf_15_1 (j := 0) (k := 0) hB h
    · exact cf_15_2 (j := 0) (k := 0) hB h
    · exact cf_15_3 (j := 0) (k := 0) hB h
    · exact cf_15_5 (j := 0) (k := 0) hB h
    · exact cf_15_6 (j := 0) (k := 0) hB h
    · exact cf_15_7 (j := 0) (k := 0) hB h
  · simp only [Bool.and_eq_true, beq_iff_eq] at ho; obtain ⟨rfl, rfl⟩ := ho; exact cf_16 (j := 0) (k := 0) hB h
  · simp only [Bool.and_eq_true, decide_eq_true_eq, beq_iff_eq] at ho
    obtain ⟨⟨h8, hj⟩, rfl⟩ := ho
    rcases (show t = 0 ∨ t = 1 ∨ t = 2 ∨ t = 3 ∨ t = 4 ∨ t = 5 ∨ t = 6 ∨ t = 7 by omega) with rfl | rfl | rfl | rfl | rfl | rfl | rfl | rfl
    · simp_all
    · exact cf_1 (k := 0) hj hB h
    · exact cf_2 (k := 0) hB h
    · simp_all
    · exact cf_4 (k := 0) hj hB h
    · exact cf_5 (k := 0) hj hB h
    · exact cf_6 (k := 0) hj hB h
    · exact cf_7 (k := 0) hj hB h
end
section
/-! ROWS: one judgement J over the picture of all cells-/
def tab (t i : Nat) : Int32 := ([[500, 20, 50, 1, 0, 0], [5000, 900, 5000, 30, 12, 1], [50, 200, 700]].getD t []).getD i 0
def tabN (t : Nat) : Nat := if t = 2 then 3 else 6
def tabF (t : Nat) : String := if t = 0 then "LEAST_SETTINGS" else if t = 1 then "MOST_SETTINGS" else "JUGS"
/-- the static tables -/
def stA (ad : I3 → Nat) (U : State) (H : Heap) : Prop := ∀ t, t < 3 → va_Z RX5 (tabF t) "[I" (.ref (ad (17, t, 0))) (adA ad) U H ∧ va_T .int (ad (17, t, 0)) (tabN t) (fun i => .int (tab t i)) (adA ad) U H
theorem stA_to {ad : I3 → Nat} {s t : State} {H : Heap} {locs : List Loc} (h : stA ad s s.heap) (hW : s.WarmedH t.vm) (hS : va_S (adA ad) s.heap H locs) (ht : t.heap = H) : stA ad t t.heap := by
  intro i hi
  have hk : ∀ a : Nat, a < s.heap.size → ¬ adA ad a → t.heap[a]? = s.heap[a]? := fun a h1 h2 => by rw [ht]; exact hS.2.1 a h1 h2
  exact ⟨((h i hi).1.kept hk).moved hW.alike, ((h i hi).2.kept hk).moved hW.alike⟩
/-- the world as a method sees it -/
def rU (D : va_G) (ca : Nat → ClassId) (ad : I3 → Nat) (G : GS) (U : State) : Prop := va_P D vwCl (wsG ca ad G) U.heap ∧ va_K D vwCl (tysG ca) U ∧ stA ad U U.heap ∧ nwU U
theorem rU_calling {D : va_G} {ca : Nat → ClassId} {ad : I3 → Nat} {G : GS} {U : State} (g : JFrame) (mk : MethodId) (a : Array Value) (h : rU D ca ad G U) : rU D ca ad G (U.calling g mk a) := by
  obtain ⟨h1, h2, h3, h4⟩ := h
  refine ⟨h1, va_K.moved (u := U) (U := U.calling g mk a) (Vm.Alike.refl U.vm) h2, fun t ht => ⟨?_, ?_⟩, nw_same (u := U) (U := U.calling g mk a) rfl h4⟩
  · exact va_Z.moved (u := U) (U := U.calling g mk a) (Vm.Alike.refl U.vm) (h3 t ht).1
  · exact va_T.moved (u := U) (U := U.calling g mk a) (Vm.Alike.refl U.vm) (h3 t ht).2
def pre (D : va_G) (ca : Nat → ClassId) (ad : I3 → Nat) (av : List Value) (G : GS) : Array Value → State → Prop := fun v U => v = av.toArray ∧ rU D ca ad G U
def post (D : va_G) (ca : Nat → ClassId) (ad : I3 → Nat) (ro : Option Value) (G : GS) : Array Value → State → Outcome → State → Prop := fun _ st oc t => oc = .returned ro ∧ rU D ca ad G t ∧ va_F (adA ad) st t
/-- a method's contract: called in the picture G it answers ro and leaves the picture G' -/
def MT (l : Launch) (D : va_G) (ca : Nat → ClassId) (ad : I3 → Nat) (y : MethodName) (b : ByteArray) (maxL : Nat) (ret : Option FieldType) (fr lo : Nat) (av : List Value) (G : GS) (ro : Option Value) (G' : GS) : Prop :=
  Met l y (.code y b maxL ret :: BG) ({ frames := fr, cells := 0, slots := 0, locals := lo }) (pre D ca ad av G) (post D ca ad ro G') 0 0 (adA ad)
def Cx (D : va_G) (ca : Nat → ClassId) (ad : I3 → Nat) (p : Program) (s : State) (m : MethodId) (args : Array Value) (meth : Method) (c : Code) (cc : ByteArray) (nL : Nat) (ow : String) : Prop :=
  p.tables.exec = Jvm.exec ∧ c.code = cc ∧ c.maxLocals = nL ∧ s.vm.findClass ow = some m.cls ∧ (∀ w ∈ BG, w.before args s = true) ∧ va_K D vwCl (tysG ca) s ∧ stA ad s s.heap ∧ nwU s ∧ adI ad ∧ meth.locks = false
def J (D : va_G) (ca : Nat → ClassId) (ad : I3 → Nat) (p : Program) (l : Launch) (e : Env) (R : Room) (s : State) (m : MethodId) (args : Array Value) (below : List Frame) (meth : Method) (c : Code) (k n : Nat) (Q : State → Prop) (nL : Nat) (G : GS) (pc : Nat) (lv : List (Nat × Value)) (st : List Value) : Prop :=
  ∀ (H : Heap) (locs : List Loc) (ls : Array Slot), va_P D vwCl (wsG ca ad G) H → va_S (adA ad) s.heap H locs → lv_has ls nL lv → W p l e R s m args below meth c H locs k n Q (F0 m pc ls st)
/-! what the tables say of a field's place, of a method -/
def FLw (ow : String) (idx ci k : Nat) (r : vw_C) : Prop := vwCl[ci]? = some r ∧ (∀ w ∈ u_ws r.1 r.2.1 r.2.2, w ∈ BG) ∧ k < r.2.2 ∧ (r.2.1 k).1 = r.1 ∧ Cond.fieldLink ow idx r.1 (r.2.1 k).2.1 (r.2.1 k).2.2.1 ∈ BG
def FLn (ow : String) (idx ci k : Nat) (r : vw_C) (host : String) : Prop := vwCl[ci]? = some r ∧ (∀ w ∈ u_ws r.1 r.2.1 r.2.2, w ∈ BG) ∧ k < r.2.2 ∧ (r.2.1 k).1 = r.1 ∧ Cond.fieldLinkNest ow idx r.1 (r.2.1 k).2.1 (r.2.1 k).2.2.1 host ∈ nestL
def PLw (k : Nat) (ty : FieldType) (r : vw_C) : Prop := (∃ ty0 : Nat → FieldType, ∀ j, j < r.2.2 → parseFieldDescriptor (r.2.1 j).2.2.1 = some (ty0 j)) ∧ (∀ a, a < r.2.2 → ∀ b, b < r.2.2 → a ≠ b → (r.2.1 a).2.1 ≠ (r.2.1 b).2.1) ∧ (r.2.1 k).2.2.2 = false ∧ parseFieldDescriptor (r.2.1 k).2.2.1 = some ty
def SL (ca : Nat → ClassId) (ad : I3 → Nat) (ci : Nat) (id : I3) (k : Nat) (L : Lc) : Prop := ∀ G : GS, ∃ fs, cell ca ad G id = .inr (ci, fs) ∧ fs[k]? = some (.int (gget G L)) ∧ k < fs.length ∧ ∀ v, cell ca ad (gset G L v) id = .inr (ci, fs.set k (.int v)) ∧ ∀ id' ∈ idL, id' ≠ id → cell ca ad (gset G L v) id' = cell ca ad G id'
theorem frame_at {ca : Nat → ClassId} {ad : I3 → Nat} {id : I3} {L : Lc} (ho : ownL L = id) (G : GS) (v : Int32) : ∀ id' ∈ idL, id' ≠ id → cell ca ad (gset G L v) id' = cell ca ad G id' := by
  intro id' h1 h2
  refine cell_frame h1 (gset_B G L v) (fun L' hL' => gget_gset_ne v (fun e => h2 ?_))
  rw [← hL', e, ho]
theorem sl_of {ca : Nat → ClassId} {ad : I3 → Nat} {ci : Nat} {id : I3} {k : Nat} {L : Lc} (ho : ownL L = id) (h : ∀ G : GS, ∃ fs, cell ca ad G id = .inr (ci, fs) ∧ fs[k]? = some (.int (gget G L)) ∧ k < fs.length ∧ ∀ v, cell ca ad (gset G L v) id = .inr (ci, fs.set k (.int v))) : SL ca ad ci id k L := by
  intro G
  obtain ⟨fs, h1, h2, h3, h4⟩ := h G
  exact ⟨fs, h1, h2, h3, fun v => ⟨h4 v, frame_at ho G v⟩⟩
def RK (ca : Nat → ClassId) (ad : I3 → Nat) (ci : Nat) (id : I3) (k : Nat) (id2 : I3) : Prop := ∀ G : GS, ∃ fs, cell ca ad G id = .inr (ci, fs) ∧ fs[k]? = some (.ref (ad id2))
def AL (ca : Nat → ClassId) (ad : I3 → Nat) (id : I3) (t n : Nat) (b : Bool) (a off : Nat) : Prop := (∀ i, i < n → ownL (b, a, off + i) = id) ∧ ∀ G : GS, cell ca ad G id = .inl (ca t, n, .inl (tr n off (grow G b a)))
def OC (ca : Nat → ClassId) (ad : I3 → Nat) (id : I3) (C : String) : Prop := ∀ G : GS, ∃ ci fs r, cell ca ad G id = .inr (ci, fs) ∧ vwCl[ci]? = some r ∧ r.1 = C
def inb (i : Int32) (n : Nat) : Bool := decide (0 ≤ i.toInt ∧ i.toInt < (n : Int))
theorem inb_vp {i : Int32} {n : Nat} (h : inb i n = true) : vp_in i n := by
  have h1 := of_decide_eq_true h
  intro q
  rcases q with q | q
  · rw [Int32.lt_iff_toInt_lt] at q
    simp at q
    omega
  · have : i.toNatClampNeg = i.toInt.toNat := rfl
    omega
theorem inb_lt {i : Int32} {n : Nat} (h : inb i n = true) : i.toNatClampNeg < n := by
  have h1 := of_decide_eq_true h
  have : i.toNatClampNeg = i.toInt.toNat := rfl
  omega
def gd {α : Type} (b : Bool) (t : Option α) : Option α := if b then t else none
theorem gd_some {α : Type} {b : Bool} {t : Option α} {r : α} (h : gd b t = some r) : b = true ∧ t = some r := by
  unfold gd at h
  cases b
  · cases h
  · exact ⟨rfl, h⟩
theorem bd_some {α β : Type} {x : Option α} {f : α → Option β} {r : β} (h : x.bind f = some r) : ∃ a, x = some a ∧ f a = some r := Option.bind_eq_some_iff.mp h
theorem if_t {α : Type} {c : Prop} {i : Decidable c} {a b r : α} (h : c) (hf : @ite α c i a b = r) : a = r := by rw [if_pos h] at hf; exact hf
theorem if_f {α : Type} {c : Prop} {i : Decidable c} {a b r : α} (h : ¬ c) (hf : @ite α c i a b = r) : b = r := by rw [if_neg h] at hf; exact hf
def nz (x : Int32) : Bool := decide (¬ x = 0)
theorem nz_ne {x : Int32} (h : nz x = true) : ¬ x = 0 := of_decide_eq_true h
def isC (x : Int32) : Bool := decide (narrow .char (.int x) = .int x)
theorem isC_eq {x : Int32} (h : isC x = true) : narrow .char (.int x) = .int x := of_decide_eq_true h
def isZ (x : Int32) : Bool := decide (narrow .boolean (.int x) = .int x)
theorem isZ_eq {x : Int32} (h : isZ x = true) : narrow .boolean (.int x) = .int x := of_decide_eq_true h
def nN (x : UInt32) : Bool := decide (x &&& 0x7fffffff ≤ 0x7f800000)
theorem nN_ok {x : UInt32} (h : nN x = true) : vf_n32 x := by unfold vf_n32; exact of_decide_eq_true h

theorem al_set {ca : Nat → ClassId} {ad : I3 → Nat} {id : I3} {t n a off i : Nat} {b : Bool} (al : AL ca ad id t n b a off) (hi : i < n) (G : GS) (v : Int32) : cell ca ad (gset G (b, a, off + i) v) id = .inl (ca t, n, .inl (upd (tr n off (grow G b a)) i v)) := by
  rw [al.2, ← tr_upd _ v hi]
  have h : grow (gset G (b, a, off + i) v) b a = upd (grow G b a) (off + i) v := by
    cases b
    · show updA G.1 a (upd (G.1 a) (off + i) v) a = _
      rw [updA_same]; rfl
    · show updA G.2.2 a (upd (G.2.2 a) (off + i) v) a = _
      rw [updA_same]; rfl
  rw [h]
section JS
variable {D : va_G} {ca : Nat → ClassId} {ad : I3 → Nat} {p : Program} {l : Launch} {e : Env} {R : Room} {s : State} {m : MethodId} {args : Array Value} {below : List Frame} {meth : Method} {c : Code} {cc : ByteArray} {nL : Nat} {ow : String} {k n : Nat} {Q : State → Prop} {G : GS} {pc : Nat} {lv : List (Nat × Value)} {st : List Value}
theorem j_iconst (C0 : Cx D ca ad p s m args meth c cc nL ow) {i : Int} {v : Int32} (hdg : decode cc pc = .ok (.iconst i, 1)) (hv : Int32.ofInt i = v) (kk : J D ca ad p l e R s m args below meth c k n Q nL G (pc + 1) lv (.int v :: st)) : J D ca ad p l e R s m args below meth c k n Q nL G pc lv st := fun H locs ls hP hS hl => lv_iconst C0.1 C0.2.1 hdg hv (kk H locs ls hP hS hl)
theorem j_bipush (C0 : Cx D ca ad p s m args meth c cc nL ow) {i : Int} {v : Int32} (hdg : decode cc pc = .ok (.bipush i, 2)) (hv : (Int8.ofInt i).toInt32 = v) (kk : J D ca ad p l e R s m args below meth c k n Q nL G (pc + 2) lv (.int v :: st)) : J D ca ad p l e R s m args below meth c k n Q nL G pc lv st := fun H locs ls hP hS hl => lv_bipush C0.1 C0.2.1 hdg hv (kk H locs ls hP hS hl)
theorem j_sipush (C0 : Cx D ca ad p s m args meth c cc nL ow) {i : Int} {v : Int32} (hdg : decode cc pc = .ok (.sipush i, 3)) (hv : (Int16.ofInt i).toInt32 = v) (kk : J D ca ad p l e R s m args below meth c k n Q nL G (pc + 3) lv (.int v :: st)) : J D ca ad p l e R s m args below meth c k n Q nL G pc lv st := fun H locs ls hP hS hl => lv_sipush C0.1 C0.2.1 hdg hv (kk H locs ls hP hS hl)
theorem j_iload_n (C0 : Cx D ca ad p s m args meth c cc nL ow) {q : Fin 4} {i : Nat} {x : Int32} (hdg : decode cc pc = .ok (.iload_n q, 1)) (hi : (q : Nat) = i) (pl : Nat) (hv : lv[pl]? = some (i, .int x)) (kk : J D ca ad p l e R s m args below meth c k n Q nL G (pc + 1) lv (.int x :: st)) : J D ca ad p l e R s m args below meth c k n Q nL G pc lv st := fun H locs ls hP hS hl => lv_iload_n C0.1 C0.2.1 hdg hi (lv_at hl pl hv) (kk H locs ls hP hS hl)
theorem j_iload (C0 : Cx D ca ad p s m args meth c cc nL ow) {i : Nat} {x : Int32} (hdg : decode cc pc = .ok (.iload i, 2)) (pl : Nat) (hv : lv[pl]? = some (i, .int x)) (kk : J D ca ad p l e R s m args below meth c k n Q nL G (pc + 2) lv (.int x :: st)) : J D ca ad p l e R s m args below meth c k n Q nL G pc lv st := fun H locs ls hP hS hl => lv_iload C0.1 C0.2.1 hdg (lv_at hl pl hv) (kk H locs ls hP hS hl)
theorem j_istore_n (C0 : Cx D ca ad p s m args meth c cc nL ow) {lv' : List (Nat × Value)} {q : Fin 4} {i : Nat} {x : Int32} (hdg : decode cc pc = .ok (.istore_n q, 1)) (hi : (q : Nat) = i) (hn : i < nL) (hl' : (i, Value.int x) :: lv.filter (fun q => !(q.1 == i) && !(q.1 + 1 == i && q.2.category == 2)) = lv') (kk : J D ca ad p l e R s m args below meth c k n Q nL G (pc + 1) lv' st) : J D ca ad p l e R s m args below meth c k n Q nL G pc lv (.int x :: st) := fun H locs ls hP hS hl => lv_istore_n C0.1 C0.2.1 hdg hi hl hn hl' (fun ls' hl2 => kk H locs ls' hP hS hl2)
theorem j_istore (C0 : Cx D ca ad p s m args meth c cc nL ow) {lv' : List (Nat × Value)} {i : Nat} {x : Int32} (hdg : decode cc pc = .ok (.istore i, 2)) (hn : i < nL) (hl' : (i, Value.int x) :: lv.filter (fun q => !(q.1 == i) && !(q.1 + 1 == i && q.2.category == 2)) = lv') (kk : J D ca ad p l e R s m args below meth c k n Q nL G (pc + 2) lv' st) : J D ca ad p l e R s m args below meth c k n Q nL G pc lv (.int x :: st) := fun H locs ls hP hS hl => lv_istore C0.1 C0.2.1 hdg hl hn hl' (fun ls' hl2 => kk H locs ls' hP hS hl2)
theorem j_aload_n (C0 : Cx D ca ad p s m args meth c cc nL ow) {q : Fin 4} {i : Nat} {x : Nat} (hdg : decode cc pc = .ok (.aload_n q, 1)) (hi : (q : Nat) = i) (pl : Nat) (hv : lv[pl]? = some (i, .ref x)) (kk : J D ca ad p l e R s m args below meth c k n Q nL G (pc + 1) lv (.ref x :: st)) : J D ca ad p l e R s m args below meth c k n Q nL G pc lv st := fun H locs ls hP hS hl => lv_aload_n C0.1 C0.2.1 hdg hi (lv_at hl pl hv) (kk H locs ls hP hS hl)
theorem j_aload (C0 : Cx D ca ad p s m args meth c cc nL ow) {i : Nat} {x : Nat} (hdg : decode cc pc = .ok (.aload i, 2)) (pl : Nat) (hv : lv[pl]? = some (i, .ref x)) (kk : J D ca ad p l e R s m args below meth c k n Q nL G (pc + 2) lv (.ref x :: st)) : J D ca ad p l e R s m args below meth c k n Q nL G pc lv st := fun H locs ls hP hS hl => lv_aload C0.1 C0.2.1 hdg (lv_at hl pl hv) (kk H locs ls hP hS hl)
theorem j_astore_n (C0 : Cx D ca ad p s m args meth c cc nL ow) {lv' : List (Nat × Value)} {q : Fin 4} {i : Nat} {x : Nat} (hdg : decode cc pc = .ok (.astore_n q, 1)) (hi : (q : Nat) = i) (hn : i < nL) (hl' : (i, Value.ref x) :: lv.filter (fun q => !(q.1 == i) && !(q.1 + 1 == i && q.2.category == 2)) = lv') (kk : J D ca ad p l e R s m args below meth c k n Q nL G (pc + 1) lv' st) : J D ca ad p l e R s m args below meth c k n Q nL G pc lv (.ref x :: st) := fun H locs ls hP hS hl => lv_astore_n C0.1 C0.2.1 hdg hi hl hn hl' (fun ls' hl2 => kk H locs ls' hP hS hl2)
theorem j_astore (C0 : Cx D ca ad p s m args meth c cc nL ow) {lv' : List (Nat × Value)} {i : Nat} {x : Nat} (hdg : decode cc pc = .ok (.astore i, 2)) (hn : i < nL) (hl' : (i, Value.ref x) :: lv.filter (fun q => !(q.1 == i) && !(q.1 + 1 == i && q.2.category == 2)) = lv') (kk : J D ca ad p l e R s m args below meth c k n Q nL G (pc + 2) lv' st) : J D ca ad p l e R s m args below meth c k n Q nL G pc lv (.ref x :: st) := fun H locs ls hP hS hl => lv_astore C0.1 C0.2.1 hdg hl hn hl' (fun ls' hl2 => kk H locs ls' hP hS hl2)
theorem j_fload_n (C0 : Cx D ca ad p s m args meth c cc nL ow) {q : Fin 4} {i : Nat} {x : UInt32} (hdg : decode cc pc = .ok (.fload_n q, 1)) (hi : (q : Nat) = i) (pl : Nat) (hv : lv[pl]? = some (i, .float x)) (kk : J D ca ad p l e R s m args below meth c k n Q nL G (pc + 1) lv (.float x :: st)) : J D ca ad p l e R s m args below meth c k n Q nL G pc lv st := fun H locs ls hP hS hl => lv_fload_n C0.1 C0.2.1 hdg hi (lv_at hl pl hv) (kk H locs ls hP hS hl)
theorem j_fload (C0 : Cx D ca ad p s m args meth c cc nL ow) {i : Nat} {x : UInt32} (hdg : decode cc pc = .ok (.fload i, 2)) (pl : Nat) (hv : lv[pl]? = some (i, .float x)) (kk : J D ca ad p l e R s m args below meth c k n Q nL G (pc + 2) lv (.float x :: st)) : J D ca ad p l e R s m args below meth c k n Q nL G pc lv st := fun H locs ls hP hS hl => lv_fload C0.1 C0.2.1 hdg (lv_at hl pl hv) (kk H locs ls hP hS hl)
theorem j_fstore_n (C0 : Cx D ca ad p s m args meth c cc nL ow) {lv' : List (Nat × Value)} {q : Fin 4} {i : Nat} {x : UInt32} (hdg : decode cc pc = .ok (.fstore_n q, 1)) (hi : (q : Nat) = i) (hn : i < nL) (hl' : (i, Value.float x) :: lv.filter (fun q => !(q.1 == i) && !(q.1 + 1 == i && q.2.category == 2)) = lv') (kk : J D ca ad p l e R s m args below meth c k n Q nL G (pc + 1) lv' st) : J D ca ad p l e R s m args below meth c k n Q nL G pc lv (.float x :: st) := fun H locs ls hP hS hl => lv_fstore_n C0.1 C0.2.1 hdg hi hl hn hl' (fun ls' hl2 => kk H locs ls' hP hS hl2)
theorem j_fstore (C0 : Cx D ca ad p s m args meth c cc nL ow) {lv' : List (Nat × Value)} {i : Nat} {x : UInt32} (hdg : decode cc pc = .ok (.fstore i, 2)) (hn : i < nL) (hl' : (i, Value.float x) :: lv.filter (fun q => !(q.1 == i) && !(q.1 + 1 == i && q.2.category == 2)) = lv') (kk : J D ca ad p l e R s m args below meth c k n Q nL G (pc + 2) lv' st) : J D ca ad p l e R s m args below meth c k n Q nL G pc lv (.float x :: st) := fun H locs ls hP hS hl => lv_fstore C0.1 C0.2.1 hdg hl hn hl' (fun ls' hl2 => kk H locs ls' hP hS hl2)
theorem j_aload_nN (C0 : Cx D ca ad p s m args meth c cc nL ow) {q : Fin 4} {i : Nat} (hdg : decode cc pc = .ok (.aload_n q, 1)) (hi : (q : Nat) = i) (pl : Nat) (hv : lv[pl]? = some (i, .null)) (kk : J D ca ad p l e R s m args below meth c k n Q nL G (pc + 1) lv (.null :: st)) : J D ca ad p l e R s m args below meth c k n Q nL G pc lv st := fun H locs ls hP hS hl => lv_aload_nN C0.1 C0.2.1 hdg hi (lv_at hl pl hv) (kk H locs ls hP hS hl)
theorem j_aloadN (C0 : Cx D ca ad p s m args meth c cc nL ow) {i : Nat} (hdg : decode cc pc = .ok (.aload i, 2)) (pl : Nat) (hv : lv[pl]? = some (i, .null)) (kk : J D ca ad p l e R s m args below meth c k n Q nL G (pc + 2) lv (.null :: st)) : J D ca ad p l e R s m args below meth c k n Q nL G pc lv st := fun H locs ls hP hS hl => lv_aloadN C0.1 C0.2.1 hdg (lv_at hl pl hv) (kk H locs ls hP hS hl)
theorem j_astore_nN (C0 : Cx D ca ad p s m args meth c cc nL ow) {lv' : List (Nat × Value)} {q : Fin 4} {i : Nat} (hdg : decode cc pc = .ok (.astore_n q, 1)) (hi : (q : Nat) = i) (hn : i < nL) (hl' : (i, Value.null) :: lv.filter (fun q => !(q.1 == i) && !(q.1 + 1 == i && q.2.category == 2)) = lv') (kk : J D ca ad p l e R s m args below meth c k n Q nL G (pc + 1) lv' st) : J D ca ad p l e R s m args below meth c k n Q nL G pc lv (.null :: st) := fun H locs ls hP hS hl => lv_astore_nN C0.1 C0.2.1 hdg hi hl hn hl' (fun ls' hl2 => kk H locs ls' hP hS hl2)
theorem j_astoreN (C0 : Cx D ca ad p s m args meth c cc nL ow) {lv' : List (Nat × Value)} {i : Nat} (hdg : decode cc pc = .ok (.astore i, 2)) (hn : i < nL) (hl' : (i, Value.null) :: lv.filter (fun q => !(q.1 == i) && !(q.1 + 1 == i && q.2.category == 2)) = lv') (kk : J D ca ad p l e R s m args below meth c k n Q nL G (pc + 2) lv' st) : J D ca ad p l e R s m args below meth c k n Q nL G pc lv (.null :: st) := fun H locs ls hP hS hl => lv_astoreN C0.1 C0.2.1 hdg hl hn hl' (fun ls' hl2 => kk H locs ls' hP hS hl2)
theorem j_iinc (C0 : Cx D ca ad p s m args meth c cc nL ow) {lv' : List (Nat × Value)} {i : Nat} {a : Int} {x v : Int32} (hdg : decode cc pc = .ok (.iinc i a, 3)) (pl : Nat) (hk : lv[pl]? = some (i, .int x)) (hv : x + Int32.ofInt a = v) (hn : i < nL) (hl' : (i, Value.int v) :: lv.filter (fun q => !(q.1 == i) && !(q.1 + 1 == i && q.2.category == 2)) = lv') (kk : J D ca ad p l e R s m args below meth c k n Q nL G (pc + 3) lv' st) : J D ca ad p l e R s m args below meth c k n Q nL G pc lv st := fun H locs ls hP hS hl => lv_iinc C0.1 C0.2.1 hdg hl hk hv hn hl' (fun ls' hl2 => kk H locs ls' hP hS hl2)
theorem j_iadd (C0 : Cx D ca ad p s m args meth c cc nL ow) {x y : Int32} (hdg : decode cc pc = .ok (.iadd, 1)) (kk : J D ca ad p l e R s m args below meth c k n Q nL G (pc + 1) lv (.int (x + y) :: st)) : J D ca ad p l e R s m args below meth c k n Q nL G pc lv (.int y :: .int x :: st) := fun H locs ls hP hS hl => lv_iadd C0.1 C0.2.1 hdg (kk H locs ls hP hS hl)
theorem j_isub (C0 : Cx D ca ad p s m args meth c cc nL ow) {x y : Int32} (hdg : decode cc pc = .ok (.isub, 1)) (kk : J D ca ad p l e R s m args below meth c k n Q nL G (pc + 1) lv (.int (x - y) :: st)) : J D ca ad p l e R s m args below meth c k n Q nL G pc lv (.int y :: .int x :: st) := fun H locs ls hP hS hl => lv_isub C0.1 C0.2.1 hdg (kk H locs ls hP hS hl)
theorem j_imul (C0 : Cx D ca ad p s m args meth c cc nL ow) {x y : Int32} (hdg : decode cc pc = .ok (.imul, 1)) (kk : J D ca ad p l e R s m args below meth c k n Q nL G (pc + 1) lv (.int (x * y) :: st)) : J D ca ad p l e R s m args below meth c k n Q nL G pc lv (.int y :: .int x :: st) := fun H locs ls hP hS hl => lv_imul C0.1 C0.2.1 hdg (kk H locs ls hP hS hl)
theorem j_iand (C0 : Cx D ca ad p s m args meth c cc nL ow) {x y : Int32} (hdg : decode cc pc = .ok (.iand, 1)) (kk : J D ca ad p l e R s m args below meth c k n Q nL G (pc + 1) lv (.int (x &&& y) :: st)) : J D ca ad p l e R s m args below meth c k n Q nL G pc lv (.int y :: .int x :: st) := fun H locs ls hP hS hl => lv_iand C0.1 C0.2.1 hdg (kk H locs ls hP hS hl)
theorem j_ior (C0 : Cx D ca ad p s m args meth c cc nL ow) {x y : Int32} (hdg : decode cc pc = .ok (.ior, 1)) (kk : J D ca ad p l e R s m args below meth c k n Q nL G (pc + 1) lv (.int (x ||| y) :: st)) : J D ca ad p l e R s m args below meth c k n Q nL G pc lv (.int y :: .int x :: st) := fun H locs ls hP hS hl => lv_ior C0.1 C0.2.1 hdg (kk H locs ls hP hS hl)
theorem j_ixor (C0 : Cx D ca ad p s m args meth c cc nL ow) {x y : Int32} (hdg : decode cc pc = .ok (.ixor, 1)) (kk : J D ca ad p l e R s m args below meth c k n Q nL G (pc + 1) lv (.int (x ^^^ y) :: st)) : J D ca ad p l e R s m args below meth c k n Q nL G pc lv (.int y :: .int x :: st) := fun H locs ls hP hS hl => lv_ixor C0.1 C0.2.1 hdg (kk H locs ls hP hS hl)
theorem j_ishl (C0 : Cx D ca ad p s m args meth c cc nL ow) {x y : Int32} (hdg : decode cc pc = .ok (.ishl, 1)) (kk : J D ca ad p l e R s m args below meth c k n Q nL G (pc + 1) lv (.int (x <<< (y &&& 31)) :: st)) : J D ca ad p l e R s m args below meth c k n Q nL G pc lv (.int y :: .int x :: st) := fun H locs ls hP hS hl => lv_ishl C0.1 C0.2.1 hdg (kk H locs ls hP hS hl)
theorem j_ineg (C0 : Cx D ca ad p s m args meth c cc nL ow) {x : Int32} (hdg : decode cc pc = .ok (.ineg, 1)) (kk : J D ca ad p l e R s m args below meth c k n Q nL G (pc + 1) lv (.int (-x) :: st)) : J D ca ad p l e R s m args below meth c k n Q nL G pc lv (.int x :: st) := fun H locs ls hP hS hl => lv_ineg C0.1 C0.2.1 hdg (kk H locs ls hP hS hl)
theorem j_idiv (C0 : Cx D ca ad p s m args meth c cc nL ow) {x y : Int32} (hdg : decode cc pc = .ok (.idiv, 1)) (hne : nz y = true) (kk : J D ca ad p l e R s m args below meth c k n Q nL G (pc + 1) lv (.int (x / y) :: st)) : J D ca ad p l e R s m args below meth c k n Q nL G pc lv (.int y :: .int x :: st) := fun H locs ls hP hS hl => lv_idiv C0.1 C0.2.1 hdg (nz_ne hne) (kk H locs ls hP hS hl)
theorem j_irem (C0 : Cx D ca ad p s m args meth c cc nL ow) {x y : Int32} (hdg : decode cc pc = .ok (.irem, 1)) (hne : nz y = true) (kk : J D ca ad p l e R s m args below meth c k n Q nL G (pc + 1) lv (.int (x - x / y * y) :: st)) : J D ca ad p l e R s m args below meth c k n Q nL G pc lv (.int y :: .int x :: st) := fun H locs ls hP hS hl => lv_irem C0.1 C0.2.1 hdg (nz_ne hne) (kk H locs ls hP hS hl)
theorem j_i2c (C0 : Cx D ca ad p s m args meth c cc nL ow) {x v : Int32} (hdg : decode cc pc = .ok (.i2c, 1)) (hv : (x.toUInt32 % 65536).toInt32 = v) (kk : J D ca ad p l e R s m args below meth c k n Q nL G (pc + 1) lv (.int v :: st)) : J D ca ad p l e R s m args below meth c k n Q nL G pc lv (.int x :: st) := fun H locs ls hP hS hl => lv_i2c C0.1 C0.2.1 hdg hv (kk H locs ls hP hS hl)
theorem j_dup (C0 : Cx D ca ad p s m args meth c cc nL ow) {va : Value} (hdg : decode cc pc = .ok (.dup, 1)) (hva : va.category = 1) (kk : J D ca ad p l e R s m args below meth c k n Q nL G (pc + 1) lv (va :: va :: st)) : J D ca ad p l e R s m args below meth c k n Q nL G pc lv (va :: st) := fun H locs ls hP hS hl => lv_dup C0.1 C0.2.1 hdg hva (kk H locs ls hP hS hl)
theorem j_pop (C0 : Cx D ca ad p s m args meth c cc nL ow) {va : Value} (hdg : decode cc pc = .ok (.pop, 1)) (hva : va.category = 1) (kk : J D ca ad p l e R s m args below meth c k n Q nL G (pc + 1) lv st) : J D ca ad p l e R s m args below meth c k n Q nL G pc lv (va :: st) := fun H locs ls hP hS hl => lv_pop C0.1 C0.2.1 hdg hva (kk H locs ls hP hS hl)
theorem j_dup2 (C0 : Cx D ca ad p s m args meth c cc nL ow) {va vb : Value} (hdg : decode cc pc = .ok (.dup2, 1)) (hva : va.category = 1) (hvb : vb.category = 1) (kk : J D ca ad p l e R s m args below meth c k n Q nL G (pc + 1) lv (va :: vb :: va :: vb :: st)) : J D ca ad p l e R s m args below meth c k n Q nL G pc lv (va :: vb :: st) := fun H locs ls hP hS hl => lv_dup2_11 C0.1 C0.2.1 hdg hva hvb (kk H locs ls hP hS hl)
theorem j_goto (C0 : Cx D ca ad p s m args meth c cc nL ow) {off : Int} {tgt : Nat} (hdg : decode cc pc = .ok (.goto off, 3)) (ht : (pc : Int) + off = (tgt : Int)) (kk : J D ca ad p l e R s m args below meth c k n Q nL G tgt lv st) : J D ca ad p l e R s m args below meth c k n Q nL G pc lv st := fun H locs ls hP hS hl => lv_goto C0.1 C0.2.1 hdg ht (kk H locs ls hP hS hl)
theorem j_null (C0 : Cx D ca ad p s m args meth c cc nL ow) (hdg : decode cc pc = .ok (.aconst_null, 1)) (kk : J D ca ad p l e R s m args below meth c k n Q nL G (pc + 1) lv (.null :: st)) : J D ca ad p l e R s m args below meth c k n Q nL G pc lv st := fun H locs ls hP hS hl => lv_null C0.1 C0.2.1 hdg (kk H locs ls hP hS hl)
theorem j_if_eq (C0 : Cx D ca ad p s m args meth c cc nL ow) {x : Int32} {off : Int} {tgt : Nat} (hdg : decode cc pc = .ok (.ifCond .eq off, 3)) (ht : (pc : Int) + off = (tgt : Int)) (kt : x = 0 → J D ca ad p l e R s m args below meth c k n Q nL G tgt lv st) (kf : ¬ x = 0 → J D ca ad p l e R s m args below meth c k n Q nL G (pc + 3) lv st) : J D ca ad p l e R s m args below meth c k n Q nL G pc lv (.int x :: st) := fun H locs ls hP hS hl => lv_if_eq C0.1 C0.2.1 hdg ht (fun h => kt h H locs ls hP hS hl) (fun h => kf h H locs ls hP hS hl)
theorem j_icmp_eq (C0 : Cx D ca ad p s m args meth c cc nL ow) {x y : Int32} {off : Int} {tgt : Nat} (hdg : decode cc pc = .ok (.if_icmp .eq off, 3)) (ht : (pc : Int) + off = (tgt : Int)) (kt : x = y → J D ca ad p l e R s m args below meth c k n Q nL G tgt lv st) (kf : ¬ x = y → J D ca ad p l e R s m args below meth c k n Q nL G (pc + 3) lv st) : J D ca ad p l e R s m args below meth c k n Q nL G pc lv (.int y :: .int x :: st) := fun H locs ls hP hS hl => lv_icmp_eq C0.1 C0.2.1 hdg ht (fun h => kt h H locs ls hP hS hl) (fun h => kf h H locs ls hP hS hl)
theorem j_if_ne (C0 : Cx D ca ad p s m args meth c cc nL ow) {x : Int32} {off : Int} {tgt : Nat} (hdg : decode cc pc = .ok (.ifCond .ne off, 3)) (ht : (pc : Int) + off = (tgt : Int)) (kt : ¬ x = 0 → J D ca ad p l e R s m args below meth c k n Q nL G tgt lv st) (kf : x = 0 → J D ca ad p l e R s m args below meth c k n Q nL G (pc + 3) lv st) : J D ca ad p l e R s m args below meth c k n Q nL G pc lv (.int x :: st) := fun H locs ls hP hS hl => lv_if_ne C0.1 C0.2.1 hdg ht (fun h => kt h H locs ls hP hS hl) (fun h => kf h H locs ls hP hS hl)
theorem j_icmp_ne (C0 : Cx D ca ad p s m args meth c cc nL ow) {x y : Int32} {off : Int} {tgt : Nat} (hdg : decode cc pc = .ok (.if_icmp .ne off, 3)) (ht : (pc : Int) + off = (tgt : Int)) (kt : ¬ x = y → J D ca ad p l e R s m args below meth c k n Q nL G tgt lv st) (kf : x = y → J D ca ad p l e R s m args below meth c k n Q nL G (pc + 3) lv st) : J D ca ad p l e R s m args below meth c k n Q nL G pc lv (.int y :: .int x :: st) := fun H locs ls hP hS hl => lv_icmp_ne C0.1 C0.2.1 hdg ht (fun h => kt h H locs ls hP hS hl) (fun h => kf h H locs ls hP hS hl)
theorem j_if_lt (C0 : Cx D ca ad p s m args meth c cc nL ow) {x : Int32} {off : Int} {tgt : Nat} (hdg : decode cc pc = .ok (.ifCond .lt off, 3)) (ht : (pc : Int) + off = (tgt : Int)) (kt : x < 0 → J D ca ad p l e R s m args below meth c k n Q nL G tgt lv st) (kf : ¬ x < 0 → J D ca ad p l e R s m args below meth c k n Q nL G (pc + 3) lv st) : J D ca ad p l e R s m args below meth c k n Q nL G pc lv (.int x :: st) := fun H locs ls hP hS hl => lv_if_lt C0.1 C0.2.1 hdg ht (fun h => kt h H locs ls hP hS hl) (fun h => kf h H locs ls hP hS hl)
theorem j_icmp_lt (C0 : Cx D ca ad p s m args meth c cc nL ow) {x y : Int32} {off : Int} {tgt : Nat} (hdg : decode cc pc = .ok (.if_icmp .lt off, 3)) (ht : (pc : Int) + off = (tgt : Int)) (kt : x < y → J D ca ad p l e R s m args below meth c k n Q nL G tgt lv st) (kf : ¬ x < y → J D ca ad p l e R s m args below meth c k n Q nL G (pc + 3) lv st) : J D ca ad p l e R s m args below meth c k n Q nL G pc lv (.int y :: .int x :: st) := fun H locs ls hP hS hl => lv_icmp_lt C0.1 C0.2.1 hdg ht (fun h => kt h H locs ls hP hS hl) (fun h => kf h H locs ls hP hS hl)
theorem j_if_ge (C0 : Cx D ca ad p s m args meth c cc nL ow) {x : Int32} {off : Int} {tgt : Nat} (hdg : decode cc pc = .ok (.ifCond .ge off, 3)) (ht : (pc : Int) + off = (tgt : Int)) (kt : 0 ≤ x → J D ca ad p l e R s m args below meth c k n Q nL G tgt lv st) (kf : ¬ 0 ≤ x → J D ca ad p l e R s m args below meth c k n Q nL G (pc + 3) lv st) : J D ca ad p l e R s m args below meth c k n Q nL G pc lv (.int x :: st) := fun H locs ls hP hS hl => lv_if_ge C0.1 C0.2.1 hdg ht (fun h => kt h H locs ls hP hS hl) (fun h => kf h H locs ls hP hS hl)
theorem j_icmp_ge (C0 : Cx D ca ad p s m args meth c cc nL ow) {x y : Int32} {off : Int} {tgt : Nat} (hdg : decode cc pc = .ok (.if_icmp .ge off, 3)) (ht : (pc : Int) + off = (tgt : Int)) (kt : y ≤ x → J D ca ad p l e R s m args below meth c k n Q nL G tgt lv st) (kf : ¬ y ≤ x → J D ca ad p l e R s m args below meth c k n Q nL G (pc + 3) lv st) : J D ca ad p l e R s m args below meth c k n Q nL G pc lv (.int y :: .int x :: st) := fun H locs ls hP hS hl => lv_icmp_ge C0.1 C0.2.1 hdg ht (fun h => kt h H locs ls hP hS hl) (fun h => kf h H locs ls hP hS hl)
theorem j_if_gt (C0 : Cx D ca ad p s m args meth c cc nL ow) {x : Int32} {off : Int} {tgt : Nat} (hdg : decode cc pc = .ok (.ifCond .gt off, 3)) (ht : (pc : Int) + off = (tgt : Int)) (kt : 0 < x → J D ca ad p l e R s m args below meth c k n Q nL G tgt lv st) (kf : ¬ 0 < x → J D ca ad p l e R s m args below meth c k n Q nL G (pc + 3) lv st) : J D ca ad p l e R s m args below meth c k n Q nL G pc lv (.int x :: st) := fun H locs ls hP hS hl => lv_if_gt C0.1 C0.2.1 hdg ht (fun h => kt h H locs ls hP hS hl) (fun h => kf h H locs ls hP hS hl)
theorem j_icmp_gt (C0 : Cx D ca ad p s m args meth c cc nL ow) {x y : Int32} {off : Int} {tgt : Nat} (hdg : decode cc pc = .ok (.if_icmp .gt off, 3)) (ht : (pc : Int) + off = (tgt : Int)) (kt : y < x → J D ca ad p l e R s m args below meth c k n Q nL G tgt lv st) (kf : ¬ y < x → J D ca ad p l e R s m args below meth c k n Q nL G (pc + 3) lv st) : J D ca ad p l e R s m args below meth c k n Q nL G pc lv (.int y :: .int x :: st) := fun H locs ls hP hS hl => lv_icmp_gt C0.1 C0.2.1 hdg ht (fun h => kt h H locs ls hP hS hl) (fun h => kf h H locs ls hP hS hl)
theorem j_if_le (C0 : Cx D ca ad p s m args meth c cc nL ow) {x : Int32} {off : Int} {tgt : Nat} (hdg : decode cc pc = .ok (.ifCond .le off, 3)) (ht : (pc : Int) + off = (tgt : Int)) (kt : x ≤ 0 → J D ca ad p l e R s m args below meth c k n Q nL G tgt lv st) (kf : ¬ x ≤ 0 → J D ca ad p l e R s m args below meth c k n Q nL G (pc + 3) lv st) : J D ca ad p l e R s m args below meth c k n Q nL G pc lv (.int x :: st) := fun H locs ls hP hS hl => lv_if_le C0.1 C0.2.1 hdg ht (fun h => kt h H locs ls hP hS hl) (fun h => kf h H locs ls hP hS hl)
theorem j_icmp_le (C0 : Cx D ca ad p s m args meth c cc nL ow) {x y : Int32} {off : Int} {tgt : Nat} (hdg : decode cc pc = .ok (.if_icmp .le off, 3)) (ht : (pc : Int) + off = (tgt : Int)) (kt : x ≤ y → J D ca ad p l e R s m args below meth c k n Q nL G tgt lv st) (kf : ¬ x ≤ y → J D ca ad p l e R s m args below meth c k n Q nL G (pc + 3) lv st) : J D ca ad p l e R s m args below meth c k n Q nL G pc lv (.int y :: .int x :: st) := fun H locs ls hP hS hl => lv_icmp_le C0.1 C0.2.1 hdg ht (fun h => kt h H locs ls hP hS hl) (fun h => kf h H locs ls hP hS hl)
theorem j_ifnonnull (C0 : Cx D ca ad p s m args meth c cc nL ow) {x : Nat} {off : Int} {tgt : Nat} (hdg : decode cc pc = .ok (.ifnonnull off, 3)) (ht : (pc : Int) + off = (tgt : Int)) (kk : J D ca ad p l e R s m args below meth c k n Q nL G tgt lv st) : J D ca ad p l e R s m args below meth c k n Q nL G pc lv (.ref x :: st) := fun H locs ls hP hS hl => lv_ifnonnull C0.1 C0.2.1 hdg ht (kk H locs ls hP hS hl)
theorem j_ifnull (C0 : Cx D ca ad p s m args meth c cc nL ow) {x : Nat} {off : Int} (hdg : decode cc pc = .ok (.ifnull off, 3)) (kk : J D ca ad p l e R s m args below meth c k n Q nL G (pc + 3) lv st) : J D ca ad p l e R s m args below meth c k n Q nL G pc lv (.ref x :: st) := fun H locs ls hP hS hl => lv_ifnull C0.1 C0.2.1 hdg (kk H locs ls hP hS hl)
theorem j_ifnullN (C0 : Cx D ca ad p s m args meth c cc nL ow) {off : Int} {tgt : Nat} (hdg : decode cc pc = .ok (.ifnull off, 3)) (ht : (pc : Int) + off = (tgt : Int)) (kk : J D ca ad p l e R s m args below meth c k n Q nL G tgt lv st) : J D ca ad p l e R s m args below meth c k n Q nL G pc lv (.null :: st) := fun H locs ls hP hS hl => lv_ifnullN C0.1 C0.2.1 hdg ht (kk H locs ls hP hS hl)
theorem j_ifnonnullN (C0 : Cx D ca ad p s m args meth c cc nL ow) {off : Int} (hdg : decode cc pc = .ok (.ifnonnull off, 3)) (kk : J D ca ad p l e R s m args below meth c k n Q nL G (pc + 3) lv st) : J D ca ad p l e R s m args below meth c k n Q nL G pc lv (.null :: st) := fun H locs ls hP hS hl => lv_ifnonnullN C0.1 C0.2.1 hdg (kk H locs ls hP hS hl)
theorem j_ldc (C0 : Cx D ca ad p s m args meth c cc nL ow) {v : Int32} {i : Nat} (hdg : decode cc pc = .ok (.ldc i, 2)) (hc : Cond.constant ow i v ∈ BG) (kk : J D ca ad p l e R s m args below meth c k n Q nL G (pc + 2) lv (.int v :: st)) : J D ca ad p l e R s m args below meth c k n Q nL G pc lv st := fun H locs ls hP hS hl => lv_ldc C0.1 C0.2.1 C0.2.2.2.1 (C0.2.2.2.2.1 _ hc) hdg (kk H locs ls hP hS hl)
theorem j_ldcf (C0 : Cx D ca ad p s m args meth c cc nL ow) {v : UInt32} {i : Nat} (hdg : decode cc pc = .ok (.ldc i, 2)) (hc : Cond.constantFloat ow i v ∈ BG) (kk : J D ca ad p l e R s m args below meth c k n Q nL G (pc + 2) lv (.float v :: st)) : J D ca ad p l e R s m args below meth c k n Q nL G pc lv st := fun H locs ls hP hS hl => lv_ldcf C0.1 C0.2.1 C0.2.2.2.1 (C0.2.2.2.2.1 _ hc) hdg (kk H locs ls hP hS hl)
theorem j_fconst0 (C0 : Cx D ca ad p s m args meth c cc nL ow) (hdg : decode cc pc = .ok (.fconst 0, 1)) (kk : J D ca ad p l e R s m args below meth c k n Q nL G (pc + 1) lv (.float FP.fconst0 :: st)) : J D ca ad p l e R s m args below meth c k n Q nL G pc lv st := fun H locs ls hP hS hl => lv_fconst0 C0.1 C0.2.1 hdg (kk H locs ls hP hS hl)
theorem j_fconst1 (C0 : Cx D ca ad p s m args meth c cc nL ow) (hdg : decode cc pc = .ok (.fconst 1, 1)) (kk : J D ca ad p l e R s m args below meth c k n Q nL G (pc + 1) lv (.float FP.fconst1 :: st)) : J D ca ad p l e R s m args below meth c k n Q nL G pc lv st := fun H locs ls hP hS hl => lv_fconst1 C0.1 C0.2.1 hdg (kk H locs ls hP hS hl)
theorem j_fconst2 (C0 : Cx D ca ad p s m args meth c cc nL ow) (hdg : decode cc pc = .ok (.fconst 2, 1)) (kk : J D ca ad p l e R s m args below meth c k n Q nL G (pc + 1) lv (.float FP.fconst2 :: st)) : J D ca ad p l e R s m args below meth c k n Q nL G pc lv st := fun H locs ls hP hS hl => lv_fconst2 C0.1 C0.2.1 hdg (kk H locs ls hP hS hl)
theorem j_fsub (C0 : Cx D ca ad p s m args meth c cc nL ow) {x y : UInt32} (hdg : decode cc pc = .ok (.fsub, 1)) (hne : nN (FP.fsub x y) = true) (kk : J D ca ad p l e R s m args below meth c k n Q nL G (pc + 1) lv (.float (FP.fsub x y) :: st)) : J D ca ad p l e R s m args below meth c k n Q nL G pc lv (.float y :: .float x :: st) := fun H locs ls hP hS hl => lv_fsub C0.1 C0.2.1 hdg (nN_ok hne) (kk H locs ls hP hS hl)
theorem j_fmul (C0 : Cx D ca ad p s m args meth c cc nL ow) {x y : UInt32} (hdg : decode cc pc = .ok (.fmul, 1)) (hne : nN (FP.fmul x y) = true) (kk : J D ca ad p l e R s m args below meth c k n Q nL G (pc + 1) lv (.float (FP.fmul x y) :: st)) : J D ca ad p l e R s m args below meth c k n Q nL G pc lv (.float y :: .float x :: st) := fun H locs ls hP hS hl => lv_fmul C0.1 C0.2.1 hdg (nN_ok hne) (kk H locs ls hP hS hl)
theorem j_fdiv (C0 : Cx D ca ad p s m args meth c cc nL ow) {x y : UInt32} (hdg : decode cc pc = .ok (.fdiv, 1)) (hne : nN (FP.fdiv x y) = true) (kk : J D ca ad p l e R s m args below meth c k n Q nL G (pc + 1) lv (.float (FP.fdiv x y) :: st)) : J D ca ad p l e R s m args below meth c k n Q nL G pc lv (.float y :: .float x :: st) := fun H locs ls hP hS hl => lv_fdiv C0.1 C0.2.1 hdg (nN_ok hne) (kk H locs ls hP hS hl)
theorem j_fcmp (C0 : Cx D ca ad p s m args meth c cc nL ow) {x y : UInt32} {op : CmpOp} (hdg : decode cc pc = .ok (.fcmp op, 1)) (kk : J D ca ad p l e R s m args below meth c k n Q nL G (pc + 1) lv (.int (Op.cmpValue (FP.fcmp x y) op) :: st)) : J D ca ad p l e R s m args below meth c k n Q nL G pc lv (.float y :: .float x :: st) := fun H locs ls hP hS hl => lv_fcmp C0.1 C0.2.1 hdg (kk H locs ls hP hS hl)
theorem j_i2f (C0 : Cx D ca ad p s m args meth c cc nL ow) {x : Int32} (hdg : decode cc pc = .ok (.i2f, 1)) (kk : J D ca ad p l e R s m args below meth c k n Q nL G (pc + 1) lv (.float (FP.i2f x) :: st)) : J D ca ad p l e R s m args below meth c k n Q nL G pc lv (.int x :: st) := fun H locs ls hP hS hl => lv_i2f C0.1 C0.2.1 hdg (kk H locs ls hP hS hl)
theorem j_f2i (C0 : Cx D ca ad p s m args meth c cc nL ow) {x : UInt32} (hdg : decode cc pc = .ok (.f2i, 1)) (kk : J D ca ad p l e R s m args below meth c k n Q nL G (pc + 1) lv (.int (FP.f2i x) :: st)) : J D ca ad p l e R s m args below meth c k n Q nL G pc lv (.float x :: st) := fun H locs ls hP hS hl => lv_f2i C0.1 C0.2.1 hdg (kk H locs ls hP hS hl)
theorem j_lookup (C0 : Cx D ca ad p s m args meth c cc nL ow) {dflt : Int} {ps : Array (Int × Int)} {len : Nat} {x : Int32} {off : Int} {tgt : Nat} (hdg : decode cc pc = .ok (.lookupswitch dflt ps, len)) (hp : (ps.toList.zip (ps.toList.drop 1)).all (fun (a, next) => a.1 < next.1) = true) (ho : Op.lookupswitch.offset ps.toList dflt x.toInt = off) (ht : (pc : Int) + off = (tgt : Int)) (kk : J D ca ad p l e R s m args below meth c k n Q nL G tgt lv st) : J D ca ad p l e R s m args below meth c k n Q nL G pc lv (.int x :: st) := fun H locs ls hP hS hl => lv_lookup C0.1 C0.2.1 hdg hp ho ht (kk H locs ls hP hS hl)
theorem j_tableOut (C0 : Cx D ca ad p s m args meth c cc nL ow) {dflt lo hi : Int} {offs : Array Int} {len : Nat} {x : Int32} {tgt : Nat} (hdg : decode cc pc = .ok (.tableswitch dflt lo hi offs, len)) (h : x.toInt < lo ∨ hi < x.toInt) (ht : (pc : Int) + dflt = (tgt : Int)) (kk : J D ca ad p l e R s m args below meth c k n Q nL G tgt lv st) : J D ca ad p l e R s m args below meth c k n Q nL G pc lv (.int x :: st) := fun H locs ls hP hS hl => lv_tableOut C0.1 C0.2.1 hdg h ht (kk H locs ls hP hS hl)
theorem j_tableIn (C0 : Cx D ca ad p s m args meth c cc nL ow) {dflt lo hi : Int} {offs : Array Int} {len : Nat} {x : Int32} {off : Int} {tgt : Nat} (hdg : decode cc pc = .ok (.tableswitch dflt lo hi offs, len)) (h1 : ¬ x.toInt < lo) (h2 : ¬ hi < x.toInt) (ho : offs[(x.toInt - lo).toNat]? = some off) (ht : (pc : Int) + off = (tgt : Int)) (kk : J D ca ad p l e R s m args below meth c k n Q nL G tgt lv st) : J D ca ad p l e R s m args below meth c k n Q nL G pc lv (.int x :: st) := fun H locs ls hP hS hl => lv_tableIn C0.1 C0.2.1 hdg h1 h2 ho ht (kk H locs ls hP hS hl)
theorem j_get (C0 : Cx D ca ad p s m args meth c cc nL ow) {idx ci kk0 : Nat} {r : vw_C} {id : I3} {v : Value} (fl : FLw ow idx ci kk0 r) (hid : id ∈ idL) (hc : ∃ fs, cell ca ad G id = .inr (ci, fs) ∧ fs[kk0]? = some v) (hdg : decode cc pc = .ok (.getfield idx, 3)) (kk : J D ca ad p l e R s m args below meth c k n Q nL G (pc + 3) lv (v :: st)) : J D ca ad p l e R s m args below meth c k n Q nL G pc lv (.ref (ad id) :: st) := by
  intro H locs ls hP hS hl
  obtain ⟨q, hq⟩ := ws_ix hid
  obtain ⟨fs, hfs, hv⟩ := hc
  obtain ⟨f1, f2, f3, f4, f5⟩ := fl
  have he := ws_at (ca := ca) (ad := ad) (G := G) hq
  rw [hfs] at he
  exact va_get C0.1 C0.2.1 C0.2.2.2.2.1 f2 C0.2.2.2.1 C0.2.2.2.2.2.1 hP q he f1 kk0 f3 (C0.2.2.2.2.1 _ f5) (fun x hx => by rw [f4] at hx; exact hx) hv hdg (kk H locs ls hP hS hl)
theorem j_getN (C0 : Cx D ca ad p s m args meth c cc nL ow) {idx ci kk0 : Nat} {r : vw_C} {host : String} {id : I3} {v : Value} (fl : FLn ow idx ci kk0 r host) (hid : id ∈ idL) (hc : ∃ fs, cell ca ad G id = .inr (ci, fs) ∧ fs[kk0]? = some v) (hdg : decode cc pc = .ok (.getfield idx, 3)) (kk : J D ca ad p l e R s m args below meth c k n Q nL G (pc + 3) lv (v :: st)) : J D ca ad p l e R s m args below meth c k n Q nL G pc lv (.ref (ad id) :: st) := by
  intro H locs ls hP hS hl
  obtain ⟨q, hq⟩ := ws_ix hid
  obtain ⟨fs, hfs, hv⟩ := hc
  obtain ⟨f1, f2, f3, f4, f5⟩ := fl
  have he := ws_at (ca := ca) (ad := ad) (G := G) hq
  rw [hfs] at he
  exact va_getN C0.1 C0.2.1 C0.2.2.2.2.1 f2 C0.2.2.2.1 C0.2.2.2.2.2.1 hP q he f1 kk0 f3 (va_Nw.use rfl (C0.2.2.2.2.2.2.2.1 _ f5)) (fun x hx => by rw [f4] at hx; exact hx) hv hdg (kk H locs ls hP hS hl)
theorem j_geti (C0 : Cx D ca ad p s m args meth c cc nL ow) {idx ci kk0 : Nat} {r : vw_C} {id : I3} {L : Lc} {x : Int32} (fl : FLw ow idx ci kk0 r) (sl : SL ca ad ci id kk0 L) (hid : id ∈ idL) (hx : gget G L = x) (hdg : decode cc pc = .ok (.getfield idx, 3)) (kk : J D ca ad p l e R s m args below meth c k n Q nL G (pc + 3) lv (.int x :: st)) : J D ca ad p l e R s m args below meth c k n Q nL G pc lv (.ref (ad id) :: st) := by
  obtain ⟨fs, h1, h2, -⟩ := sl G
  exact j_get C0 fl hid ⟨fs, h1, by rw [h2, hx]⟩ hdg kk
theorem j_getiN (C0 : Cx D ca ad p s m args meth c cc nL ow) {idx ci kk0 : Nat} {r : vw_C} {host : String} {id : I3} {L : Lc} {x : Int32} (fl : FLn ow idx ci kk0 r host) (sl : SL ca ad ci id kk0 L) (hid : id ∈ idL) (hx : gget G L = x) (hdg : decode cc pc = .ok (.getfield idx, 3)) (kk : J D ca ad p l e R s m args below meth c k n Q nL G (pc + 3) lv (.int x :: st)) : J D ca ad p l e R s m args below meth c k n Q nL G pc lv (.ref (ad id) :: st) := by
  obtain ⟨fs, h1, h2, -⟩ := sl G
  exact j_getN C0 fl hid ⟨fs, h1, by rw [h2, hx]⟩ hdg kk
theorem j_getr (C0 : Cx D ca ad p s m args meth c cc nL ow) {idx ci kk0 : Nat} {r : vw_C} {id id2 : I3} (fl : FLw ow idx ci kk0 r) (rl : RK ca ad ci id kk0 id2) (hid : id ∈ idL) (hdg : decode cc pc = .ok (.getfield idx, 3)) (kk : J D ca ad p l e R s m args below meth c k n Q nL G (pc + 3) lv (.ref (ad id2) :: st)) : J D ca ad p l e R s m args below meth c k n Q nL G pc lv (.ref (ad id) :: st) := j_get C0 fl hid (rl G) hdg kk
theorem j_puti (C0 : Cx D ca ad p s m args meth c cc nL ow) {idx ci kk0 : Nat} {r : vw_C} {ty : FieldType} {id : I3} {L : Lc} {x : Int32} {G' : GS} (fl : FLw ow idx ci kk0 r) (pl : PLw kk0 ty r) (sl : SL ca ad ci id kk0 L) (hid : id ∈ idL) (hn : narrow ty (.int x) = .int x) (hft : fits ty (.int x) = true) (hG : gset G L x = G') (hdg : decode cc pc = .ok (.putfield idx, 3)) (kk : J D ca ad p l e R s m args below meth c k n Q nL G' (pc + 3) lv st) : J D ca ad p l e R s m args below meth c k n Q nL G pc lv (.int x :: .ref (ad id) :: st) := by
  intro H locs ls hP hS hl
  subst hG
  obtain ⟨q, hq⟩ := ws_ix hid
  obtain ⟨fs, hfs, hv, hlen, hset⟩ := sl G
  obtain ⟨h1, h2⟩ := hset x
  obtain ⟨f1, f2, f3, f4, f5⟩ := fl
  obtain ⟨⟨ty0, p1⟩, p2, p3, p4⟩ := pl
  have he := ws_at (ca := ca) (ad := ad) (G := G) hq
  rw [hfs] at he
  refine va_put C0.1 C0.2.1 C0.2.2.2.2.1 f2 ty0 p1 p2 C0.2.2.2.1 C0.2.2.2.2.2.1 hP (ws_D C0.2.2.2.2.2.2.2.2.1 G) hS q he f1 kk0 f3 (C0.2.2.2.2.1 _ f5) (fun x hx => by rw [f4] at hx; exact hx) p3 p4 hn hft hlen hdg (fun H1 locs1 hP1 _ hS1 => ?_)
  rw [ws_set hq h1 h2] at hP1
  exact kk H1 locs1 ls hP1 hS1 hl
theorem j_iald (C0 : Cx D ca ad p s m args meth c cc nL ow) {t0 n0 a0 off : Nat} {b0 : Bool} {id : I3} {i x : Int32} (al : AL ca ad id t0 n0 b0 a0 off) (ht : (tysG ca)[t0]? = some (ca t0, .int)) (hid : id ∈ idL) (hin : inb i n0 = true) (hx : gget G (b0, a0, off + i.toNatClampNeg) = x) (hdg : decode cc pc = .ok (.iaload, 1)) (kk : J D ca ad p l e R s m args below meth c k n Q nL G (pc + 1) lv (.int x :: st)) : J D ca ad p l e R s m args below meth c k n Q nL G pc lv (.int i :: .ref (ad id) :: st) := by
  intro H locs ls hP hS hl
  obtain ⟨q, hq⟩ := ws_ix hid
  have he := ws_at (ca := ca) (ad := ad) (G := G) hq
  rw [al.2 G] at he
  refine va_iald C0.1 C0.2.1 C0.2.2.2.2.2.1 hP q t0 he ht (inb_vp hin) hdg ?_
  rw [tr_at _ (inb_lt hin), show grow G b0 a0 (off + i.toNatClampNeg) = x from hx]
  exact kk H locs ls hP hS hl
theorem j_cald (C0 : Cx D ca ad p s m args meth c cc nL ow) {t0 n0 a0 off : Nat} {b0 : Bool} {id : I3} {i x : Int32} (al : AL ca ad id t0 n0 b0 a0 off) (ht : (tysG ca)[t0]? = some (ca t0, .char)) (hid : id ∈ idL) (hin : inb i n0 = true) (hx : gget G (b0, a0, off + i.toNatClampNeg) = x) (hdg : decode cc pc = .ok (.caload, 1)) (kk : J D ca ad p l e R s m args below meth c k n Q nL G (pc + 1) lv (.int x :: st)) : J D ca ad p l e R s m args below meth c k n Q nL G pc lv (.int i :: .ref (ad id) :: st) := by
  intro H locs ls hP hS hl
  obtain ⟨q, hq⟩ := ws_ix hid
  have he := ws_at (ca := ca) (ad := ad) (G := G) hq
  rw [al.2 G] at he
  refine va_cald C0.1 C0.2.1 C0.2.2.2.2.2.1 hP q t0 he ht (inb_vp hin) hdg ?_
  rw [tr_at _ (inb_lt hin), show grow G b0 a0 (off + i.toNatClampNeg) = x from hx]
  exact kk H locs ls hP hS hl
theorem j_zald (C0 : Cx D ca ad p s m args meth c cc nL ow) {t0 n0 a0 off : Nat} {b0 : Bool} {id : I3} {i x : Int32} (al : AL ca ad id t0 n0 b0 a0 off) (ht : (tysG ca)[t0]? = some (ca t0, .boolean)) (hid : id ∈ idL) (hin : inb i n0 = true) (hx : gget G (b0, a0, off + i.toNatClampNeg) = x) (hdg : decode cc pc = .ok (.baload, 1)) (kk : J D ca ad p l e R s m args below meth c k n Q nL G (pc + 1) lv (.int x :: st)) : J D ca ad p l e R s m args below meth c k n Q nL G pc lv (.int i :: .ref (ad id) :: st) := by
  intro H locs ls hP hS hl
  obtain ⟨q, hq⟩ := ws_ix hid
  have he := ws_at (ca := ca) (ad := ad) (G := G) hq
  rw [al.2 G] at he
  refine va_zald C0.1 C0.2.1 C0.2.2.2.2.2.1 hP q t0 he ht (inb_vp hin) hdg ?_
  rw [tr_at _ (inb_lt hin), show grow G b0 a0 (off + i.toNatClampNeg) = x from hx]
  exact kk H locs ls hP hS hl
theorem j_iast (C0 : Cx D ca ad p s m args meth c cc nL ow) {t0 n0 a0 off : Nat} {b0 : Bool} {id : I3} {i x : Int32} {G' : GS} (al : AL ca ad id t0 n0 b0 a0 off) (ht : (tysG ca)[t0]? = some (ca t0, .int)) (hid : id ∈ idL) (hin : inb i n0 = true) (hG : gset G (b0, a0, off + i.toNatClampNeg) x = G') (hdg : decode cc pc = .ok (.iastore, 1)) (kk : J D ca ad p l e R s m args below meth c k n Q nL G' (pc + 1) lv st) : J D ca ad p l e R s m args below meth c k n Q nL G pc lv (.int x :: .int i :: .ref (ad id) :: st) := by
  intro H locs ls hP hS hl
  subst hG
  obtain ⟨q, hq⟩ := ws_ix hid
  have he := ws_at (ca := ca) (ad := ad) (G := G) hq
  rw [al.2 G] at he
  refine va_iast C0.1 C0.2.1 C0.2.2.2.2.2.1 hP (ws_D C0.2.2.2.2.2.2.2.2.1 G) hS q t0 he ht (inb_vp hin) hdg (fun H1 locs1 hP1 _ hS1 => ?_)
  rw [ws_set (G' := gset G (b0, a0, off + i.toNatClampNeg) x) hq (al_set al (inb_lt hin) G _) (frame_at (al.1 _ (inb_lt hin)) G _)] at hP1
  exact kk H1 locs1 ls hP1 hS1 hl
theorem j_cast (C0 : Cx D ca ad p s m args meth c cc nL ow) {t0 n0 a0 off : Nat} {b0 : Bool} {id : I3} {i x : Int32} {G' : GS} (al : AL ca ad id t0 n0 b0 a0 off) (ht : (tysG ca)[t0]? = some (ca t0, .char)) (hid : id ∈ idL) (hin : inb i n0 = true) (hG : gset G (b0, a0, off + i.toNatClampNeg) (vp_nar .char x) = G') (hdg : decode cc pc = .ok (.castore, 1)) (kk : J D ca ad p l e R s m args below meth c k n Q nL G' (pc + 1) lv st) : J D ca ad p l e R s m args below meth c k n Q nL G pc lv (.int x :: .int i :: .ref (ad id) :: st) := by
  intro H locs ls hP hS hl
  subst hG
  obtain ⟨q, hq⟩ := ws_ix hid
  have he := ws_at (ca := ca) (ad := ad) (G := G) hq
  rw [al.2 G] at he
  refine va_cast C0.1 C0.2.1 C0.2.2.2.2.2.1 hP (ws_D C0.2.2.2.2.2.2.2.2.1 G) hS q t0 he ht (inb_vp hin) hdg (fun H1 locs1 hP1 _ hS1 => ?_)
  rw [ws_set (G' := gset G (b0, a0, off + i.toNatClampNeg) (vp_nar .char x)) hq (al_set al (inb_lt hin) G _) (frame_at (al.1 _ (inb_lt hin)) G _)] at hP1
  exact kk H1 locs1 ls hP1 hS1 hl
theorem j_zast (C0 : Cx D ca ad p s m args meth c cc nL ow) {t0 n0 a0 off : Nat} {b0 : Bool} {id : I3} {i x : Int32} {G' : GS} (al : AL ca ad id t0 n0 b0 a0 off) (ht : (tysG ca)[t0]? = some (ca t0, .boolean)) (hid : id ∈ idL) (hin : inb i n0 = true) (hG : gset G (b0, a0, off + i.toNatClampNeg) (vp_nar .boolean x) = G') (hdg : decode cc pc = .ok (.bastore, 1)) (kk : J D ca ad p l e R s m args below meth c k n Q nL G' (pc + 1) lv st) : J D ca ad p l e R s m args below meth c k n Q nL G pc lv (.int x :: .int i :: .ref (ad id) :: st) := by
  intro H locs ls hP hS hl
  subst hG
  obtain ⟨q, hq⟩ := ws_ix hid
  have he := ws_at (ca := ca) (ad := ad) (G := G) hq
  rw [al.2 G] at he
  refine va_zast C0.1 C0.2.1 C0.2.2.2.2.2.1 hP (ws_D C0.2.2.2.2.2.2.2.2.1 G) hS q t0 he ht (inb_vp hin) hdg (fun H1 locs1 hP1 _ hS1 => ?_)
  rw [ws_set (G' := gset G (b0, a0, off + i.toNatClampNeg) (vp_nar .boolean x)) hq (al_set al (inb_lt hin) G _) (frame_at (al.1 _ (inb_lt hin)) G _)] at hP1
  exact kk H1 locs1 ls hP1 hS1 hl
theorem j_alen (C0 : Cx D ca ad p s m args meth c cc nL ow) {t0 n0 a0 off : Nat} {b0 : Bool} {id : I3} {v : Int32} {ty : FieldType} (al : AL ca ad id t0 n0 b0 a0 off) (ht : (tysG ca)[t0]? = some (ca t0, ty)) (hid : id ∈ idL) (hv : Int32.ofNat n0 = v) (hdg : decode cc pc = .ok (.arraylength, 1)) (kk : J D ca ad p l e R s m args below meth c k n Q nL G (pc + 1) lv (.int v :: st)) : J D ca ad p l e R s m args below meth c k n Q nL G pc lv (.ref (ad id) :: st) := by
  intro H locs ls hP hS hl
  obtain ⟨q, hq⟩ := ws_ix hid
  have he := ws_at (ca := ca) (ad := ad) (G := G) hq
  rw [al.2 G] at he
  exact va_alen C0.1 C0.2.1 C0.2.2.2.2.2.1 hP q t0 he ht hv hdg (kk H locs ls hP hS hl)
theorem j_alenq (C0 : Cx D ca ad p s m args meth c cc nL ow) {t0 n0 : Nat} {f : Nat → Nat} {id : I3} {v : Int32} {ty : FieldType} (al : cell ca ad G id = .inl (ca t0, n0, .inr (.inr (.inr (.inr (trR n0 f)))))) (ht : (tysG ca)[t0]? = some (ca t0, ty)) (hid : id ∈ idL) (hv : Int32.ofNat n0 = v) (hdg : decode cc pc = .ok (.arraylength, 1)) (kk : J D ca ad p l e R s m args below meth c k n Q nL G (pc + 1) lv (.int v :: st)) : J D ca ad p l e R s m args below meth c k n Q nL G pc lv (.ref (ad id) :: st) := by
  intro H locs ls hP hS hl
  obtain ⟨q, hq⟩ := ws_ix hid
  have he := ws_at (ca := ca) (ad := ad) (G := G) hq
  rw [al] at he
  exact va_alen C0.1 C0.2.1 C0.2.2.2.2.2.1 hP q t0 he ht hv hdg (kk H locs ls hP hS hl)
theorem j_aldq (C0 : Cx D ca ad p s m args meth c cc nL ow) {t0 n0 : Nat} {f : Nat → Nat} {id : I3} {i : Int32} {C : String} (al : cell ca ad G id = .inl (ca t0, n0, .inr (.inr (.inr (.inr (trR n0 f)))))) (ht : (tysG ca)[t0]? = some (ca t0, .object C)) (hid : id ∈ idL) (hin : inb i n0 = true) (hdg : decode cc pc = .ok (.aaload, 1)) (kk : J D ca ad p l e R s m args below meth c k n Q nL G (pc + 1) lv (.ref (f i.toNatClampNeg) :: st)) : J D ca ad p l e R s m args below meth c k n Q nL G pc lv (.int i :: .ref (ad id) :: st) := by
  intro H locs ls hP hS hl
  obtain ⟨q, hq⟩ := ws_ix hid
  have he := ws_at (ca := ca) (ad := ad) (G := G) hq
  rw [al] at he
  refine va_aldq C0.1 C0.2.1 C0.2.2.2.2.2.1 hP q t0 he ht (inb_vp hin) hdg ?_
  rw [show trR n0 f i.toNatClampNeg = some (f i.toNatClampNeg) from if_pos (inb_lt hin)]
  exact kk H locs ls hP hS hl
theorem j_gets (C0 : Cx D ca ad p s m args meth c cc nL ow) {idx t : Nat} (ht : t < 3) (hc : Cond.fieldLink ow idx RX5 (tabF t) "[I" ∈ BG) (hdg : decode cc pc = .ok (.getstatic idx, 3)) (kk : J D ca ad p l e R s m args below meth c k n Q nL G (pc + 3) lv (.ref (ad (17, t, 0)) :: st)) : J D ca ad p l e R s m args below meth c k n Q nL G pc lv st := fun H locs ls hP hS hl => va_gets C0.1 C0.2.1 (C0.2.2.2.2.2.2.1 t ht).1 hS C0.2.2.2.1 (C0.2.2.2.2.1 _ hc) (fun _ h => h) hdg (kk H locs ls hP hS hl)
theorem j_getsN (C0 : Cx D ca ad p s m args meth c cc nL ow) {idx t : Nat} {host : String} (ht : t < 3) (hc : Cond.fieldLinkNest ow idx RX5 (tabF t) "[I" host ∈ nestL) (hdg : decode cc pc = .ok (.getstatic idx, 3)) (kk : J D ca ad p l e R s m args below meth c k n Q nL G (pc + 3) lv (.ref (ad (17, t, 0)) :: st)) : J D ca ad p l e R s m args below meth c k n Q nL G pc lv st := fun H locs ls hP hS hl => va_getsN C0.1 C0.2.1 (C0.2.2.2.2.2.2.1 t ht).1 hS C0.2.2.2.1 (va_Nw.use rfl (C0.2.2.2.2.2.2.2.1 _ hc)) (fun _ h => h) hdg (kk H locs ls hP hS hl)
theorem j_ti (C0 : Cx D ca ad p s m args meth c cc nL ow) {t : Nat} {i : Int32} (ht : t < 3) (hin : inb i (tabN t) = true) (hdg : decode cc pc = .ok (.iaload, 1)) (kk : J D ca ad p l e R s m args below meth c k n Q nL G (pc + 1) lv (.int (tab t i.toNatClampNeg) :: st)) : J D ca ad p l e R s m args below meth c k n Q nL G pc lv (.int i :: .ref (ad (17, t, 0)) :: st) := fun H locs ls hP hS hl => va_ti C0.1 C0.2.1 (C0.2.2.2.2.2.2.1 t ht).2 hS (inb_vp hin) rfl hdg (kk H locs ls hP hS hl)
theorem j_tlen (C0 : Cx D ca ad p s m args meth c cc nL ow) {t : Nat} {v : Int32} (ht : t < 3) (hv : Int32.ofNat (tabN t) = v) (hdg : decode cc pc = .ok (.arraylength, 1)) (kk : J D ca ad p l e R s m args below meth c k n Q nL G (pc + 1) lv (.int v :: st)) : J D ca ad p l e R s m args below meth c k n Q nL G pc lv (.ref (ad (17, t, 0)) :: st) := fun H locs ls hP hS hl => va_tlen C0.1 C0.2.1 (C0.2.2.2.2.2.2.1 t ht).2 hS hv hdg (kk H locs ls hP hS hl)
end JS
end
section
/-! a method from its entry; its ends; calls -/
theorem met_J {l : Launch} {D : va_G} {ca : Nat → ClassId} {ad : I3 → Nat} {y : MethodName} {b : ByteArray} {maxL : Nat} {ret : Option FieldType} {fr lo : Nat} {av : List Value} {G : GS} {ro : Option Value} {G' : GS} {lv : List (Nat × Value)}
    (hi : adI ad) (hy : plainName y.cls = true) (hn : (lg_sl av).length ≤ maxL) (hlv : lv_args 0 av = lv)
    (body : ∀ (p : Program) (e : Env) (s : State) (m : MethodId) (below : List Frame) (meth : Method) (c : Code), Cx D ca ad p s m av.toArray meth c b maxL y.cls → meth.sig.returnType = ret →
      J D ca ad p l e ({ frames := fr, cells := 0, slots := 0, locals := lo }) s m av.toArray below meth c 0 0 (MQ below (post D ca ad ro G') av.toArray s 0 0 (adA ad)) maxL G 0 lv []) : MT l D ca ad y b maxL ret fr lo av G ro G' := by
  unfold MT
  refine Met.ofW (cc := b) (maxL := maxL) (ret := ret) hy rfl ?_
  intro p e s m args below meth c s₁ B hml hv
  obtain ⟨rfl, hP, hK, hZ, hN⟩ := hv
  have hts := atoms_spec (ws := .code y b maxL ret :: BG) B.pre
  rw [lg_entry_eq]
  refine body p e s m below meth c ⟨B.exec, B.bytes, hml, findClass_of_methodNamed B.named, fun w hw => hts w (List.mem_cons_of_mem _ hw), hK, hZ, hN, hi, B.notSynchronized⟩ B.returns s.heap [] _ hP va_S.rf ?_
  rw [← hlv]
  exact lv_entry av hn
theorem post_at {D : va_G} {ca : Nat → ClassId} {ad : I3 → Nat} {ro : Option Value} {G : GS} {s t : State} {H : Heap} {locs : List Loc} {p : Program} {m : MethodId} {args a : Array Value} {meth : Method} {c : Code} {cc : ByteArray} {nL : Nat} {ow : String} (C0 : Cx D ca ad p s m args meth c cc nL ow)
    (hP : va_P D vwCl (wsG ca ad G) H) (hS : va_S (adA ad) s.heap H locs) (ht : t.heap = H) (hW : s.WarmedH t.vm) : post D ca ad ro G a s (.returned ro) t :=
  ⟨rfl, ⟨by rw [ht]; exact hP, va_K.moved hW.alike C0.2.2.2.2.2.1, stA_to C0.2.2.2.2.2.2.1 hW hS ht, nw_warm hW C0.2.2.2.2.2.2.2.1⟩, hS.F ht⟩
section JC
variable {D : va_G} {ca : Nat → ClassId} {ad : I3 → Nat} {p : Program} {l : Launch} {e : Env} {R : Room} {s : State} {m : MethodId} {args : Array Value} {below : List Frame} {meth : Method} {c : Code} {cc : ByteArray} {nL : Nat} {ow : String} {k n : Nat} {Q : State → Prop} {G : GS} {pc : Nat} {lv : List (Nat × Value)} {st : List Value}
theorem j_iret (C0 : Cx D ca ad p s m args meth c cc nL ow) {G' : GS} {v r0 : Int32} (hr : meth.sig.returnType = some .int) (hdg : decode cc pc = .ok (.ireturn, 1)) (hv : v = r0) (hG : G = G') : J D ca ad p l e R s m args below meth c k n (MQ below (post D ca ad (some (.int r0)) G') args s k n (adA ad)) nL G pc lv [.int v] := by
  subst hv; subst hG
  intro H locs ls hP hS hl
  exact W.iret C0.1 C0.2.1 hr (fun t ht hW => post_at C0 hP hS ht hW) hS.2.2 hdg C0.2.2.2.2.2.2.2.2.2
theorem j_zret (C0 : Cx D ca ad p s m args meth c cc nL ow) {G' : GS} {v r0 : Int32} {ty : FieldType} (hr : meth.sig.returnType = some ty) (hn : narrow ty (.int v) = .int v) (hdg : decode cc pc = .ok (.ireturn, 1)) (hv : v = r0) (hG : G = G') : J D ca ad p l e R s m args below meth c k n (MQ below (post D ca ad (some (.int r0)) G') args s k n (adA ad)) nL G pc lv [.int v] := by
  subst hv; subst hG
  intro H locs ls hP hS hl
  exact W.zret C0.1 C0.2.1 hr hn (fun t ht hW => post_at C0 hP hS ht hW) hS.2.2 hdg C0.2.2.2.2.2.2.2.2.2
theorem j_vret (C0 : Cx D ca ad p s m args meth c cc nL ow) {G' : GS} (hr : meth.sig.returnType = none) (hdg : decode cc pc = .ok (.return_, 1)) (hG : G = G') : J D ca ad p l e R s m args below meth c k n (MQ below (post D ca ad none G') args s k n (adA ad)) nL G pc lv [] := by
  subst hG
  intro H locs ls hP hS hl
  exact W.vret C0.1 C0.2.1 hr (fun t ht hW => post_at C0 hP hS ht hW) hS.2.2 hdg C0.2.2.2.2.2.2.2.2.2
theorem j_aret (C0 : Cx D ca ad p s m args meth c cc nL ow) {G' : GS} {v r0 : Value} {C : String} (hr : meth.sig.returnType = some (.object C)) (hdg : decode cc pc = .ok (.areturn, 1)) (hv : v = r0) (hG : G = G') (hq : v = .null ∨ ∃ a, v = .ref a) : J D ca ad p l e R s m args below meth c k n (MQ below (post D ca ad (some r0) G') args s k n (adA ad)) nL G pc lv [v] := by
  subst hv; subst hG
  intro H locs ls hP hS hl
  exact W.aret C0.1 C0.2.1 hr (Or.inl ⟨C, rfl⟩) hq (fun t ht hW => post_at C0 hP hS ht hW) hS.2.2 hdg C0.2.2.2.2.2.2.2.2.2
/-- behind a call: the callee's answer on the stack, its picture -/
theorem j_back (C0 : Cx D ca ad p s m args meth c cc nL ow) {ro : Option Value} {G' : GS} {rest : List Value} {a : Array Value} {H : Heap} {locs : List Loc} {ls : Array Slot}
    (hr : va_Run p l e R s m args below meth c H locs k n 0 0 (F0 m pc ls st) rest (post D ca ad ro G' a) (adA ad)) (hS : va_S (adA ad) s.heap H locs) (hl : lv_has ls nL lv)
    (kk : J D ca ad p l e R s m args below meth c k n Q nL G' (pc + 3) lv (ro.toList ++ rest)) : W p l e R s m args below meth c H locs k n Q (F0 m pc ls st) := by
  intro T hT X
  obtain ⟨v, st₀, t, T', L, h0, X', hL, e1, e2, ⟨hv, hU, hz, hk⟩, stp⟩ := hr T hT X
  cases hv
  rw [h0] at hz hk
  obtain ⟨t2, a1, b1⟩ := kk T'.heap (locs ++ L) ls (by rw [e1]; exact hU.1)
    ⟨Nat.le_trans hS.1 (by rw [e1]; exact hz), fun q h1 h2 => by rw [e1, hk q (Nat.lt_of_lt_of_le h1 hS.1) h2]; exact hS.2.1 q h1 h2, fun q hq => by
      rcases List.mem_append.mp hq with h | h
      · exact hS.2.2 q h
      · exact hL q h⟩ hl T' rfl X'
  exact ⟨t2, stp t2 a1, b1⟩
theorem pre_at (C0 : Cx D ca ad p s m args meth c cc nL ow) {av : List Value} {U : State} {H : Heap} {locs : List Loc} (hP : va_P D vwCl (wsG ca ad G) H) (hS : va_S (adA ad) s.heap H locs) (hU : U.heap = H) (hW : s.WarmedH U.vm) : pre D ca ad av G av.toArray U :=
  ⟨rfl, by rw [hU]; exact hP, va_K.moved hW.alike C0.2.2.2.2.2.1, stA_to C0.2.2.2.2.2.2.1 hW hS hU, nw_warm hW C0.2.2.2.2.2.2.2.1⟩
theorem pre_blind {av : List Value} : FrameBlind (pre D ca ad av G) := fun a U g mk h => ⟨h.1, rU_calling g mk a h.2⟩
/-- a call's words -/
def KW (ow : String) (idx : Nat) (y : MethodName) (b : ByteArray) (maxL : Nat) (ret : Option FieldType) (na : Nat) : Prop := Cond.methodLink ow idx y ∈ BG ∧ Cond.initialized y.cls ∈ BG ∧ Cond.code y b maxL ret ∈ BG ∧ y.cls ≠ "java/lang/invoke/MethodHandle" ∧ y.cls ≠ "java/lang/invoke/VarHandle" ∧ (parseMethodDescriptor y.desc).map (fun d => d.parameters.length) = some na
def KN (ow : String) (idx : Nat) (y : MethodName) (host : String) (b : ByteArray) (maxL : Nat) (ret : Option FieldType) (na : Nat) : Prop := Cond.methodLinkNest ow idx y host ∈ nestL ∧ Cond.initialized y.cls ∈ BG ∧ Cond.code y b maxL ret ∈ BG ∧ y.cls ≠ "java/lang/invoke/MethodHandle" ∧ y.cls ≠ "java/lang/invoke/VarHandle" ∧ (parseMethodDescriptor y.desc).map (fun d => d.parameters.length) = some na
theorem code_good {y : MethodName} {b : ByteArray} {maxL : Nat} {ret : Option FieldType} (h : Cond.code y b maxL ret ∈ BG) : GoodIn BG (.code y b maxL ret :: BG) := bg_good (fun w hw => by
  rcases List.mem_cons.mp hw with rfl | h'
  · exact h
  · exact h')
theorem j_callV (C0 : Cx D ca ad p s m args meth c cc nL ow) {y : MethodName} {b : ByteArray} {maxL : Nat} {ret : Option FieldType} {fr lo na idx : Nat} {As rest : List Value} {G1 G' : GS} {ro : Option Value} {id : I3} (hM : MT l D ca ad y b maxL ret fr lo (.ref (ad id) :: As) G1 ro G') (kw : KW ow idx y b maxL ret na) (ki : Cond.instanceMethod y ∈ BG) (ks : Cond.selects y.cls y y ∈ BG) (hid : id ∈ idL) (oc : OC ca ad id y.cls) (hG : G1 = G) (hR : fr + 1 ≤ R.frames ∧ 8 + (maxL + 11) + lo ≤ R.locals) (hq : k ≤ R.cells ∧ n ≤ R.slots) (hA : As.length = na) (hst : st = As.reverse ++ .ref (ad id) :: rest) (hW : (rest.map fun v => v.category).sum ≤ 8) (hdg : decode cc pc = .ok (.invokevirtual idx, 3)) (kk : J D ca ad p l e R s m args below meth c k n Q nL G' (pc + 3) lv (ro.toList ++ rest)) : J D ca ad p l e R s m args below meth c k n Q nL G pc lv st := by
  subst hG; subst hst
  intro H locs ls hP hS hl
  obtain ⟨q, hq0⟩ := ws_ix hid
  have he := ws_at (ca := ca) (ad := ad) (G := G1) hq0
  obtain ⟨ci, fs, r, hc1, hc2, hc3⟩ := oc G1
  rw [hc1] at he
  have hts := C0.2.2.2.2.1
  have hrv := va_recv C0.2.2.2.2.2.1 hP hc2 he
  rw [hc3] at hrv
  refine j_back C0 (va_runV (n := na) (Ts := BG) (own := ow) (index := idx) (C := y.cls) (b := ad id) (As := As) (rest := rest) ⟨C0.1, C0.2.1, C0.2.2.1, C0.2.2.2.1, hts⟩ hM ⟨callB_of na hts (code_good kw.2.2.1) rfl rfl rfl (hts _ kw.2.1) (hts _ kw.1) kw.2.2.2 hR, hts _ ki, hts _ ks⟩ ⟨pre_blind, hrv, fun U hU hWm => pre_at C0 hP hS hU hWm⟩ rfl hA hl.1 rfl ?_ hdg hq) hS hl kk
  show 2 * 0 + _ ≤ 8
  omega
theorem j_callS (C0 : Cx D ca ad p s m args meth c cc nL ow) {y : MethodName} {b : ByteArray} {maxL : Nat} {ret : Option FieldType} {fr lo na idx : Nat} {As rest : List Value} {G1 G' : GS} {ro : Option Value} (hM : MT l D ca ad y b maxL ret fr lo As G1 ro G') (kw : KW ow idx y b maxL ret na) (ki : Cond.static y ∈ BG) (hG : G1 = G) (hR : fr + 1 ≤ R.frames ∧ 8 + (maxL + 11) + lo ≤ R.locals) (hq : k ≤ R.cells ∧ n ≤ R.slots) (hA : As.length = na) (hst : st = As.reverse ++ rest) (hW : (rest.map fun v => v.category).sum ≤ 8) (hdg : decode cc pc = .ok (.invokestatic idx, 3)) (kk : J D ca ad p l e R s m args below meth c k n Q nL G' (pc + 3) lv (ro.toList ++ rest)) : J D ca ad p l e R s m args below meth c k n Q nL G pc lv st := by
  subst hG; subst hst
  intro H locs ls hP hS hl
  have hts := C0.2.2.2.2.1
  refine j_back C0 (va_runS (n := na) (Ts := BG) (own := ow) (index := idx) (As := As) (rest := rest) ⟨C0.1, C0.2.1, C0.2.2.1, C0.2.2.2.1, hts⟩ hM ⟨callB_of na hts (code_good kw.2.2.1) rfl rfl rfl (hts _ kw.2.1) (hts _ kw.1) kw.2.2.2 hR, hts _ ki⟩ ⟨pre_blind, fun U hU hWm => pre_at C0 hP hS hU hWm⟩ rfl hA hl.1 rfl ?_ hdg hq) hS hl kk
  show 2 * 0 + _ ≤ 8
  omega
theorem j_callSN (C0 : Cx D ca ad p s m args meth c cc nL ow) {y : MethodName} {b : ByteArray} {maxL : Nat} {ret : Option FieldType} {fr lo na idx : Nat} {As rest : List Value} {G1 G' : GS} {ro : Option Value} {host : String} (hM : MT l D ca ad y b maxL ret fr lo As G1 ro G') (kw : KN ow idx y host b maxL ret na) (ki : Cond.static y ∈ BG) (hG : G1 = G) (hR : fr + 1 ≤ R.frames ∧ 8 + (maxL + 11) + lo ≤ R.locals) (hq : k ≤ R.cells ∧ n ≤ R.slots) (hA : As.length = na) (hst : st = As.reverse ++ rest) (hW : (rest.map fun v => v.category).sum ≤ 8) (hdg : decode cc pc = .ok (.invokestatic idx, 3)) (kk : J D ca ad p l e R s m args below meth c k n Q nL G' (pc + 3) lv (ro.toList ++ rest)) : J D ca ad p l e R s m args below meth c k n Q nL G pc lv st := by
  subst hG; subst hst
  intro H locs ls hP hS hl
  have hts := C0.2.2.2.2.1
  refine j_back C0 (va_runSN (n := na) (Ts := BG) (own := ow) (index := idx) (As := As) (rest := rest) ⟨C0.1, C0.2.1, C0.2.2.1, C0.2.2.2.1, hts⟩ hM ⟨va_cnB na hts (code_good kw.2.2.1) rfl rfl rfl (C0.2.2.2.2.2.2.2.1 _ kw.1) (hts _ kw.2.1) kw.2.2.2 hR, hts _ ki, trivial⟩ ⟨pre_blind, fun U hU hWm => pre_at C0 hP hS hU hWm⟩ rfl hA hl.1 rfl ?_ hdg hq) hS hl kk
  show 2 * 0 + _ ≤ 8
  omega
theorem j_f2i0 (C0 : Cx D ca ad p s m args meth c cc nL ow) {idx : Nat} {b : UInt32} (h1 : Cond.methodLink ow idx ⟨"java/lang/Float", "floatToRawIntBits", "(F)I"⟩ ∈ BG) (h2 : Cond.native ⟨"java/lang/Float", "floatToRawIntBits", "(F)I"⟩ ∈ BG) (h3 : Cond.static ⟨"java/lang/Float", "floatToRawIntBits", "(F)I"⟩ ∈ BG) (h4 : Cond.initialized "java/lang/Float" ∈ BG) (hR : 1 ≤ R.frames) (hW : (st.map fun v => v.category).sum + 15 ≤ R.locals) (hdg : decode cc pc = .ok (.invokestatic idx, 3)) (kk : J D ca ad p l e R s m args below meth c k n Q nL G (pc + 3) lv (.int b.toInt32 :: st)) : J D ca ad p l e R s m args below meth c k n Q nL G pc lv (.float b :: st) := fun H locs ls hP hS hl =>
  vn_f2i C0.1 C0.2.1 (C0.2.2.1.trans hl.1.symm) C0.2.2.2.1 (C0.2.2.2.2.1 _ h1) (C0.2.2.2.2.1 _ h2) (C0.2.2.2.2.1 _ h3) (C0.2.2.2.2.1 _ h4) hR hW hdg (kk H locs ls hP hS hl)
end JC
end
section
/-! what the tables say: fields, methods, constants; where each number stands -/
theorem bg_t {w : Cond} (i : Nat) (h : tables_1[i]? = some w) (hg : goodWord w = true) : w ∈ BG := bg_in (List.mem_append_right _ (List.mem_of_getElem? h)) hg
theorem bg_p {q : MethodName × Nat} (i : Nat) (h : lw_privs[i]? = some q) : Cond.selects q.1.cls q.1 q.1 ∈ BG := bg_in (List.mem_append_left _ (List.mem_map.mpr ⟨q, List.mem_of_getElem? h, rfl⟩)) rfl
theorem nst_t {w : Cond} (i : Nat) (h : tables_1[i]? = some w) (hg : isNest w = true) : w ∈ nestL := List.mem_filter.mpr ⟨List.mem_of_getElem? h, hg⟩
theorem bg_ps {ws : List Cond} (ps : List Nat) (h : ws = ps.filterMap (fun i => tables_1[i]?)) (hg : ws.all goodWord = true) : ∀ w ∈ ws, w ∈ BG := fun w hw => bg_in (List.mem_append_right _ (by
  rw [h] at hw
  obtain ⟨i, -, hi⟩ := List.mem_filterMap.mp hw
  exact List.mem_of_getElem? hi)) (List.all_eq_true.mp hg w hw)
theorem ub_0 : ∀ w ∈ u_ws RX0 TX0 4, w ∈ BG := bg_ps [70, 72, 74, 76] (by decide +kernel) (by decide +kernel)
theorem ub_1 : ∀ w ∈ u_ws RX1 TX1 16, w ∈ BG := bg_ps [112, 114, 116, 118, 120, 122, 124, 126, 128, 130, 132, 134, 136, 138, 140, 142] (by decide +kernel) (by decide +kernel)
theorem ub_2 : ∀ w ∈ u_ws RX2 TX2 6, w ∈ BG := bg_ps [44, 46, 48, 50, 52, 54] (by decide +kernel) (by decide +kernel)
theorem ub_3 : ∀ w ∈ u_ws RX3 TX3 13, w ∈ BG := bg_ps [170, 172, 174, 176, 178, 180, 182, 184, 186, 188, 190, 192, 194] (by decide +kernel) (by decide +kernel)
theorem ub_4 : ∀ w ∈ u_ws RX4 TX4 8, w ∈ BG := bg_ps [217, 219, 221, 223, 225, 227, 229, 231] (by decide +kernel) (by decide +kernel)
theorem ub_5 : ∀ w ∈ u_ws RX5 TX5 8, w ∈ BG := bg_ps [244, 246, 248, 250, 252, 254, 256, 258] (by decide +kernel) (by decide +kernel)
theorem ub_6 : ∀ w ∈ u_ws RX6 TX6 15, w ∈ BG := bg_ps [729, 731, 733, 735, 737, 739, 741, 743, 745, 747, 749, 751, 753, 755, 757] (by decide +kernel) (by decide +kernel)
theorem fl_X5_10 : FLw RX5 10 5 0 (RX5, TX5, 8) := ⟨rfl, ub_5, by decide, rfl, bg_t 236 (by decide +kernel) rfl⟩
theorem fl_X5_16 : FLw RX5 16 5 1 (RX5, TX5, 8) := ⟨rfl, ub_5, by decide, rfl, bg_t 237 (by decide +kernel) rfl⟩
theorem fl_X5_19 : FLw RX5 19 5 6 (RX5, TX5, 8) := ⟨rfl, ub_5, by decide, rfl, bg_t 242 (by decide +kernel) rfl⟩
theorem fl_X5_22 : FLw RX5 22 5 2 (RX5, TX5, 8) := ⟨rfl, ub_5, by decide, rfl, bg_t 238 (by decide +kernel) rfl⟩
theorem fl_X5_26 : FLw RX5 26 5 3 (RX5, TX5, 8) := ⟨rfl, ub_5, by decide, rfl, bg_t 239 (by decide +kernel) rfl⟩
theorem fl_X5_29 : FLw RX5 29 5 4 (RX5, TX5, 8) := ⟨rfl, ub_5, by decide, rfl, bg_t 240 (by decide +kernel) rfl⟩
theorem fl_X5_36 : FLw RX5 36 5 5 (RX5, TX5, 8) := ⟨rfl, ub_5, by decide, rfl, bg_t 241 (by decide +kernel) rfl⟩
theorem fl_X5_79 : FLw RX5 79 3 3 (RX3, TX3, 13) := ⟨rfl, ub_3, by decide, rfl, bg_t 151 (by decide +kernel) rfl⟩
theorem fl_X5_108 : FLw RX5 108 3 5 (RX3, TX3, 13) := ⟨rfl, ub_3, by decide, rfl, bg_t 155 (by decide +kernel) rfl⟩
theorem fl_X5_114 : FLw RX5 114 3 6 (RX3, TX3, 13) := ⟨rfl, ub_3, by decide, rfl, bg_t 157 (by decide +kernel) rfl⟩
theorem fl_X5_117 : FLw RX5 117 3 7 (RX3, TX3, 13) := ⟨rfl, ub_3, by decide, rfl, bg_t 159 (by decide +kernel) rfl⟩
theorem fl_X5_123 : FLw RX5 123 3 8 (RX3, TX3, 13) := ⟨rfl, ub_3, by decide, rfl, bg_t 161 (by decide +kernel) rfl⟩
theorem fl_X5_126 : FLw RX5 126 3 10 (RX3, TX3, 13) := ⟨rfl, ub_3, by decide, rfl, bg_t 165 (by decide +kernel) rfl⟩
theorem fl_X5_129 : FLw RX5 129 3 11 (RX3, TX3, 13) := ⟨rfl, ub_3, by decide, rfl, bg_t 167 (by decide +kernel) rfl⟩
theorem fl_X5_132 : FLw RX5 132 3 12 (RX3, TX3, 13) := ⟨rfl, ub_3, by decide, rfl, bg_t 169 (by decide +kernel) rfl⟩
theorem fl_X5_135 : FLw RX5 135 3 2 (RX3, TX3, 13) := ⟨rfl, ub_3, by decide, rfl, bg_t 149 (by decide +kernel) rfl⟩
theorem fl_X5_163 : FLw RX5 163 1 2 (RX1, TX1, 16) := ⟨rfl, ub_1, by decide, rfl, bg_t 91 (by decide +kernel) rfl⟩
theorem fl_X5_181 : FLw RX5 181 3 4 (RX3, TX3, 13) := ⟨rfl, ub_3, by decide, rfl, bg_t 153 (by decide +kernel) rfl⟩
theorem fl_X5_190 : FLw RX5 190 0 2 (RX0, TX0, 4) := ⟨rfl, ub_0, by decide, rfl, bg_t 66 (by decide +kernel) rfl⟩
theorem fl_X5_193 : FLw RX5 193 0 3 (RX0, TX0, 4) := ⟨rfl, ub_0, by decide, rfl, bg_t 68 (by decide +kernel) rfl⟩
theorem fl_X5_199 : FLw RX5 199 3 9 (RX3, TX3, 13) := ⟨rfl, ub_3, by decide, rfl, bg_t 163 (by decide +kernel) rfl⟩
theorem fl_X5_205 : FLw RX5 205 5 7 (RX5, TX5, 8) := ⟨rfl, ub_5, by decide, rfl, bg_t 243 (by decide +kernel) rfl⟩
theorem fl_X5_208 : FLw RX5 208 4 2 (RX4, TX4, 8) := ⟨rfl, ub_4, by decide, rfl, bg_t 207 (by decide +kernel) rfl⟩
theorem fl_X5_211 : FLw RX5 211 3 1 (RX3, TX3, 13) := ⟨rfl, ub_3, by decide, rfl, bg_t 147 (by decide +kernel) rfl⟩
theorem fl_X5_227 : FLw RX5 227 4 6 (RX4, TX4, 8) := ⟨rfl, ub_4, by decide, rfl, bg_t 214 (by decide +kernel) rfl⟩
theorem fl_X5_230 : FLw RX5 230 4 4 (RX4, TX4, 8) := ⟨rfl, ub_4, by decide, rfl, bg_t 210 (by decide +kernel) rfl⟩
theorem fl_X5_233 : FLw RX5 233 4 7 (RX4, TX4, 8) := ⟨rfl, ub_4, by decide, rfl, bg_t 216 (by decide +kernel) rfl⟩
theorem fl_X5_252 : FLw RX5 252 4 5 (RX4, TX4, 8) := ⟨rfl, ub_4, by decide, rfl, bg_t 212 (by decide +kernel) rfl⟩
theorem fl_X0_9 : FLw RX0 9 0 0 (RX0, TX0, 4) := ⟨rfl, ub_0, by decide, rfl, bg_t 63 (by decide +kernel) rfl⟩
theorem fl_X0_15 : FLw RX0 15 0 1 (RX0, TX0, 4) := ⟨rfl, ub_0, by decide, rfl, bg_t 64 (by decide +kernel) rfl⟩
theorem fl_X0_22 : FLw RX0 22 0 2 (RX0, TX0, 4) := ⟨rfl, ub_0, by decide, rfl, bg_t 65 (by decide +kernel) rfl⟩
theorem fl_X0_26 : FLw RX0 26 0 3 (RX0, TX0, 4) := ⟨rfl, ub_0, by decide, rfl, bg_t 67 (by decide +kernel) rfl⟩
theorem fl_X1_9 : FLw RX1 9 1 0 (RX1, TX1, 16) := ⟨rfl, ub_1, by decide, rfl, bg_t 85 (by decide +kernel) rfl⟩
theorem fl_X1_15 : FLw RX1 15 1 1 (RX1, TX1, 16) := ⟨rfl, ub_1, by decide, rfl, bg_t 87 (by decide +kernel) rfl⟩
theorem fl_X1_18 : FLw RX1 18 1 2 (RX1, TX1, 16) := ⟨rfl, ub_1, by decide, rfl, bg_t 89 (by decide +kernel) rfl⟩
theorem fl_X1_21 : FLw RX1 21 1 3 (RX1, TX1, 16) := ⟨rfl, ub_1, by decide, rfl, bg_t 92 (by decide +kernel) rfl⟩
theorem fl_X1_24 : FLw RX1 24 1 4 (RX1, TX1, 16) := ⟨rfl, ub_1, by decide, rfl, bg_t 94 (by decide +kernel) rfl⟩
theorem fl_X1_27 : FLw RX1 27 1 5 (RX1, TX1, 16) := ⟨rfl, ub_1, by decide, rfl, bg_t 96 (by decide +kernel) rfl⟩
theorem fl_X1_30 : FLw RX1 30 1 6 (RX1, TX1, 16) := ⟨rfl, ub_1, by decide, rfl, bg_t 98 (by decide +kernel) rfl⟩
theorem fl_X1_33 : FLw RX1 33 1 7 (RX1, TX1, 16) := ⟨rfl, ub_1, by decide, rfl, bg_t 100 (by decide +kernel) rfl⟩
theorem fl_X1_36 : FLw RX1 36 1 8 (RX1, TX1, 16) := ⟨rfl, ub_1, by decide, rfl, bg_t 101 (by decide +kernel) rfl⟩
theorem fl_X1_39 : FLw RX1 39 1 9 (RX1, TX1, 16) := ⟨rfl, ub_1, by decide, rfl, bg_t 102 (by decide +kernel) rfl⟩
theorem fl_X1_42 : FLw RX1 42 1 10 (RX1, TX1, 16) := ⟨rfl, ub_1, by decide, rfl, bg_t 103 (by decide +kernel) rfl⟩
theorem fl_X1_45 : FLw RX1 45 1 11 (RX1, TX1, 16) := ⟨rfl, ub_1, by decide, rfl, bg_t 105 (by decide +kernel) rfl⟩
theorem fl_X1_48 : FLw RX1 48 1 12 (RX1, TX1, 16) := ⟨rfl, ub_1, by decide, rfl, bg_t 107 (by decide +kernel) rfl⟩
theorem fl_X1_51 : FLw RX1 51 1 13 (RX1, TX1, 16) := ⟨rfl, ub_1, by decide, rfl, bg_t 109 (by decide +kernel) rfl⟩
theorem fl_X1_54 : FLw RX1 54 1 14 (RX1, TX1, 16) := ⟨rfl, ub_1, by decide, rfl, bg_t 110 (by decide +kernel) rfl⟩
theorem fl_X1_57 : FLw RX1 57 1 15 (RX1, TX1, 16) := ⟨rfl, ub_1, by decide, rfl, bg_t 111 (by decide +kernel) rfl⟩
theorem fl_X2_7 : FLw RX2 7 2 0 (RX2, TX2, 6) := ⟨rfl, ub_2, by decide, rfl, bg_t 32 (by decide +kernel) rfl⟩
theorem fl_X2_13 : FLw RX2 13 2 1 (RX2, TX2, 6) := ⟨rfl, ub_2, by decide, rfl, bg_t 34 (by decide +kernel) rfl⟩
theorem fl_X2_16 : FLw RX2 16 2 2 (RX2, TX2, 6) := ⟨rfl, ub_2, by decide, rfl, bg_t 36 (by decide +kernel) rfl⟩
theorem fl_X2_19 : FLw RX2 19 2 3 (RX2, TX2, 6) := ⟨rfl, ub_2, by decide, rfl, bg_t 38 (by decide +kernel) rfl⟩
theorem fl_X2_22 : FLw RX2 22 2 4 (RX2, TX2, 6) := ⟨rfl, ub_2, by decide, rfl, bg_t 40 (by decide +kernel) rfl⟩
theorem fl_X2_25 : FLw RX2 25 2 5 (RX2, TX2, 6) := ⟨rfl, ub_2, by decide, rfl, bg_t 42 (by decide +kernel) rfl⟩
theorem fl_X3_11 : FLw RX3 11 3 0 (RX3, TX3, 13) := ⟨rfl, ub_3, by decide, rfl, bg_t 145 (by decide +kernel) rfl⟩
theorem fl_X3_20 : FLw RX3 20 3 1 (RX3, TX3, 13) := ⟨rfl, ub_3, by decide, rfl, bg_t 146 (by decide +kernel) rfl⟩
theorem fl_X3_27 : FLw RX3 27 3 2 (RX3, TX3, 13) := ⟨rfl, ub_3, by decide, rfl, bg_t 148 (by decide +kernel) rfl⟩
theorem fl_X3_31 : FLw RX3 31 3 5 (RX3, TX3, 13) := ⟨rfl, ub_3, by decide, rfl, bg_t 154 (by decide +kernel) rfl⟩
theorem fl_X3_48 : FLw RX3 48 3 3 (RX3, TX3, 13) := ⟨rfl, ub_3, by decide, rfl, bg_t 150 (by decide +kernel) rfl⟩
theorem fl_X3_51 : FLw RX3 51 3 4 (RX3, TX3, 13) := ⟨rfl, ub_3, by decide, rfl, bg_t 152 (by decide +kernel) rfl⟩
theorem fl_X3_54 : FLw RX3 54 3 6 (RX3, TX3, 13) := ⟨rfl, ub_3, by decide, rfl, bg_t 156 (by decide +kernel) rfl⟩
theorem fl_X3_57 : FLw RX3 57 3 7 (RX3, TX3, 13) := ⟨rfl, ub_3, by decide, rfl, bg_t 158 (by decide +kernel) rfl⟩
theorem fl_X3_60 : FLw RX3 60 3 8 (RX3, TX3, 13) := ⟨rfl, ub_3, by decide, rfl, bg_t 160 (by decide +kernel) rfl⟩
theorem fl_X3_63 : FLw RX3 63 3 9 (RX3, TX3, 13) := ⟨rfl, ub_3, by decide, rfl, bg_t 162 (by decide +kernel) rfl⟩
theorem fl_X3_66 : FLw RX3 66 3 10 (RX3, TX3, 13) := ⟨rfl, ub_3, by decide, rfl, bg_t 164 (by decide +kernel) rfl⟩
theorem fl_X3_69 : FLw RX3 69 3 11 (RX3, TX3, 13) := ⟨rfl, ub_3, by decide, rfl, bg_t 166 (by decide +kernel) rfl⟩
theorem fl_X3_72 : FLw RX3 72 3 12 (RX3, TX3, 13) := ⟨rfl, ub_3, by decide, rfl, bg_t 168 (by decide +kernel) rfl⟩
theorem fl_X3_89 : FLw RX3 89 1 1 (RX1, TX1, 16) := ⟨rfl, ub_1, by decide, rfl, bg_t 88 (by decide +kernel) rfl⟩
theorem fl_X3_93 : FLw RX3 93 1 4 (RX1, TX1, 16) := ⟨rfl, ub_1, by decide, rfl, bg_t 95 (by decide +kernel) rfl⟩
theorem fl_X3_112 : FLw RX3 112 1 12 (RX1, TX1, 16) := ⟨rfl, ub_1, by decide, rfl, bg_t 108 (by decide +kernel) rfl⟩
theorem fl_X3_118 : FLw RX3 118 1 2 (RX1, TX1, 16) := ⟨rfl, ub_1, by decide, rfl, bg_t 90 (by decide +kernel) rfl⟩
theorem fl_X3_121 : FLw RX3 121 1 3 (RX1, TX1, 16) := ⟨rfl, ub_1, by decide, rfl, bg_t 93 (by decide +kernel) rfl⟩
theorem fl_X3_164 : FLw RX3 164 1 6 (RX1, TX1, 16) := ⟨rfl, ub_1, by decide, rfl, bg_t 99 (by decide +kernel) rfl⟩
theorem fl_X3_179 : FLw RX3 179 2 2 (RX2, TX2, 6) := ⟨rfl, ub_2, by decide, rfl, bg_t 37 (by decide +kernel) rfl⟩
theorem fl_X3_185 : FLw RX3 185 2 1 (RX2, TX2, 6) := ⟨rfl, ub_2, by decide, rfl, bg_t 35 (by decide +kernel) rfl⟩
theorem fl_X3_188 : FLw RX3 188 1 10 (RX1, TX1, 16) := ⟨rfl, ub_1, by decide, rfl, bg_t 104 (by decide +kernel) rfl⟩
theorem fl_X3_191 : FLw RX3 191 1 11 (RX1, TX1, 16) := ⟨rfl, ub_1, by decide, rfl, bg_t 106 (by decide +kernel) rfl⟩
theorem fl_X3_194 : FLw RX3 194 1 0 (RX1, TX1, 16) := ⟨rfl, ub_1, by decide, rfl, bg_t 86 (by decide +kernel) rfl⟩
theorem fl_X3_197 : FLw RX3 197 1 5 (RX1, TX1, 16) := ⟨rfl, ub_1, by decide, rfl, bg_t 97 (by decide +kernel) rfl⟩
theorem fl_X3_200 : FLw RX3 200 2 0 (RX2, TX2, 6) := ⟨rfl, ub_2, by decide, rfl, bg_t 33 (by decide +kernel) rfl⟩
theorem fl_X3_209 : FLw RX3 209 2 3 (RX2, TX2, 6) := ⟨rfl, ub_2, by decide, rfl, bg_t 39 (by decide +kernel) rfl⟩
theorem fl_X3_227 : FLw RX3 227 2 4 (RX2, TX2, 6) := ⟨rfl, ub_2, by decide, rfl, bg_t 41 (by decide +kernel) rfl⟩
theorem fl_X3_239 : FLw RX3 239 0 3 (RX0, TX0, 4) := ⟨rfl, ub_0, by decide, rfl, bg_t 69 (by decide +kernel) rfl⟩
theorem fl_X3_242 : FLw RX3 242 2 5 (RX2, TX2, 6) := ⟨rfl, ub_2, by decide, rfl, bg_t 43 (by decide +kernel) rfl⟩
theorem fl_X4_9 : FLw RX4 9 4 0 (RX4, TX4, 8) := ⟨rfl, ub_4, by decide, rfl, bg_t 204 (by decide +kernel) rfl⟩
theorem fl_X4_15 : FLw RX4 15 4 1 (RX4, TX4, 8) := ⟨rfl, ub_4, by decide, rfl, bg_t 205 (by decide +kernel) rfl⟩
theorem fl_X4_19 : FLw RX4 19 4 2 (RX4, TX4, 8) := ⟨rfl, ub_4, by decide, rfl, bg_t 206 (by decide +kernel) rfl⟩
theorem fl_X4_24 : FLw RX4 24 4 3 (RX4, TX4, 8) := ⟨rfl, ub_4, by decide, rfl, bg_t 208 (by decide +kernel) rfl⟩
theorem fl_X4_27 : FLw RX4 27 4 6 (RX4, TX4, 8) := ⟨rfl, ub_4, by decide, rfl, bg_t 213 (by decide +kernel) rfl⟩
theorem fl_X4_30 : FLw RX4 30 4 7 (RX4, TX4, 8) := ⟨rfl, ub_4, by decide, rfl, bg_t 215 (by decide +kernel) rfl⟩
theorem fl_X4_37 : FLw RX4 37 4 4 (RX4, TX4, 8) := ⟨rfl, ub_4, by decide, rfl, bg_t 209 (by decide +kernel) rfl⟩
theorem fl_X4_52 : FLw RX4 52 4 5 (RX4, TX4, 8) := ⟨rfl, ub_4, by decide, rfl, bg_t 211 (by decide +kernel) rfl⟩
theorem fl_X6_7 : FLw RX6 7 6 0 (RX6, TX6, 15) := ⟨rfl, ub_6, by decide, rfl, bg_t 714 (by decide +kernel) rfl⟩
theorem fl_X6_13 : FLw RX6 13 6 1 (RX6, TX6, 15) := ⟨rfl, ub_6, by decide, rfl, bg_t 715 (by decide +kernel) rfl⟩
theorem fl_X6_16 : FLw RX6 16 6 2 (RX6, TX6, 15) := ⟨rfl, ub_6, by decide, rfl, bg_t 716 (by decide +kernel) rfl⟩
theorem fl_X6_19 : FLw RX6 19 6 4 (RX6, TX6, 15) := ⟨rfl, ub_6, by decide, rfl, bg_t 718 (by decide +kernel) rfl⟩
theorem fl_X6_22 : FLw RX6 22 6 5 (RX6, TX6, 15) := ⟨rfl, ub_6, by decide, rfl, bg_t 719 (by decide +kernel) rfl⟩
theorem fl_X6_26 : FLw RX6 26 6 6 (RX6, TX6, 15) := ⟨rfl, ub_6, by decide, rfl, bg_t 720 (by decide +kernel) rfl⟩
theorem fl_X6_29 : FLw RX6 29 6 7 (RX6, TX6, 15) := ⟨rfl, ub_6, by decide, rfl, bg_t 721 (by decide +kernel) rfl⟩
theorem fl_X6_32 : FLw RX6 32 6 10 (RX6, TX6, 15) := ⟨rfl, ub_6, by decide, rfl, bg_t 724 (by decide +kernel) rfl⟩
theorem fl_X6_44 : FLw RX6 44 6 3 (RX6, TX6, 15) := ⟨rfl, ub_6, by decide, rfl, bg_t 717 (by decide +kernel) rfl⟩
theorem fl_X6_208 : FLw RX6 208 6 8 (RX6, TX6, 15) := ⟨rfl, ub_6, by decide, rfl, bg_t 722 (by decide +kernel) rfl⟩
theorem fl_X6_214 : FLw RX6 214 6 9 (RX6, TX6, 15) := ⟨rfl, ub_6, by decide, rfl, bg_t 723 (by decide +kernel) rfl⟩
theorem fl_X6_229 : FLw RX6 229 6 14 (RX6, TX6, 15) := ⟨rfl, ub_6, by decide, rfl, bg_t 728 (by decide +kernel) rfl⟩
theorem fl_X6_232 : FLw RX6 232 6 11 (RX6, TX6, 15) := ⟨rfl, ub_6, by decide, rfl, bg_t 725 (by decide +kernel) rfl⟩
theorem fl_X6_241 : FLw RX6 241 6 12 (RX6, TX6, 15) := ⟨rfl, ub_6, by decide, rfl, bg_t 726 (by decide +kernel) rfl⟩
theorem fl_X6_244 : FLw RX6 244 6 13 (RX6, TX6, 15) := ⟨rfl, ub_6, by decide, rfl, bg_t 727 (by decide +kernel) rfl⟩
theorem pw_0_2 : PLw 2 .int (RX0, TX0, 4) := ⟨⟨tyX0, tyX0_ok⟩, nmX0, rfl, by decide +kernel⟩
theorem pw_0_3 : PLw 3 .int (RX0, TX0, 4) := ⟨⟨tyX0, tyX0_ok⟩, nmX0, rfl, by decide +kernel⟩
theorem pw_1_1 : PLw 1 .int (RX1, TX1, 16) := ⟨⟨tyX1, tyX1_ok⟩, nmX1, rfl, by decide +kernel⟩
theorem pw_1_2 : PLw 2 .int (RX1, TX1, 16) := ⟨⟨tyX1, tyX1_ok⟩, nmX1, rfl, by decide +kernel⟩
theorem pw_1_3 : PLw 3 .int (RX1, TX1, 16) := ⟨⟨tyX1, tyX1_ok⟩, nmX1, rfl, by decide +kernel⟩
theorem pw_1_4 : PLw 4 .int (RX1, TX1, 16) := ⟨⟨tyX1, tyX1_ok⟩, nmX1, rfl, by decide +kernel⟩
theorem pw_1_5 : PLw 5 .int (RX1, TX1, 16) := ⟨⟨tyX1, tyX1_ok⟩, nmX1, rfl, by decide +kernel⟩
theorem pw_1_6 : PLw 6 .int (RX1, TX1, 16) := ⟨⟨tyX1, tyX1_ok⟩, nmX1, rfl, by decide +kernel⟩
theorem pw_1_7 : PLw 7 .int (RX1, TX1, 16) := ⟨⟨tyX1, tyX1_ok⟩, nmX1, rfl, by decide +kernel⟩
theorem pw_1_8 : PLw 8 .int (RX1, TX1, 16) := ⟨⟨tyX1, tyX1_ok⟩, nmX1, rfl, by decide +kernel⟩
theorem pw_1_9 : PLw 9 .int (RX1, TX1, 16) := ⟨⟨tyX1, tyX1_ok⟩, nmX1, rfl, by decide +kernel⟩
theorem pw_1_10 : PLw 10 .int (RX1, TX1, 16) := ⟨⟨tyX1, tyX1_ok⟩, nmX1, rfl, by decide +kernel⟩
theorem pw_1_11 : PLw 11 .int (RX1, TX1, 16) := ⟨⟨tyX1, tyX1_ok⟩, nmX1, rfl, by decide +kernel⟩
theorem pw_1_12 : PLw 12 .int (RX1, TX1, 16) := ⟨⟨tyX1, tyX1_ok⟩, nmX1, rfl, by decide +kernel⟩
theorem pw_1_13 : PLw 13 .int (RX1, TX1, 16) := ⟨⟨tyX1, tyX1_ok⟩, nmX1, rfl, by decide +kernel⟩
theorem pw_1_14 : PLw 14 .int (RX1, TX1, 16) := ⟨⟨tyX1, tyX1_ok⟩, nmX1, rfl, by decide +kernel⟩
theorem pw_1_15 : PLw 15 .int (RX1, TX1, 16) := ⟨⟨tyX1, tyX1_ok⟩, nmX1, rfl, by decide +kernel⟩
theorem pw_2_0 : PLw 0 .int (RX2, TX2, 6) := ⟨⟨tyX2, tyX2_ok⟩, nmX2, rfl, by decide +kernel⟩
theorem pw_2_1 : PLw 1 .int (RX2, TX2, 6) := ⟨⟨tyX2, tyX2_ok⟩, nmX2, rfl, by decide +kernel⟩
theorem pw_2_2 : PLw 2 .int (RX2, TX2, 6) := ⟨⟨tyX2, tyX2_ok⟩, nmX2, rfl, by decide +kernel⟩
theorem pw_2_3 : PLw 3 .int (RX2, TX2, 6) := ⟨⟨tyX2, tyX2_ok⟩, nmX2, rfl, by decide +kernel⟩
theorem pw_2_4 : PLw 4 .int (RX2, TX2, 6) := ⟨⟨tyX2, tyX2_ok⟩, nmX2, rfl, by decide +kernel⟩
theorem pw_2_5 : PLw 5 .int (RX2, TX2, 6) := ⟨⟨tyX2, tyX2_ok⟩, nmX2, rfl, by decide +kernel⟩
theorem pw_3_3 : PLw 3 .int (RX3, TX3, 13) := ⟨⟨tyX3, tyX3_ok⟩, nmX3, rfl, by decide +kernel⟩
theorem pw_3_4 : PLw 4 .int (RX3, TX3, 13) := ⟨⟨tyX3, tyX3_ok⟩, nmX3, rfl, by decide +kernel⟩
theorem pw_3_5 : PLw 5 .int (RX3, TX3, 13) := ⟨⟨tyX3, tyX3_ok⟩, nmX3, rfl, by decide +kernel⟩
theorem pw_3_6 : PLw 6 .int (RX3, TX3, 13) := ⟨⟨tyX3, tyX3_ok⟩, nmX3, rfl, by decide +kernel⟩
theorem pw_3_7 : PLw 7 .int (RX3, TX3, 13) := ⟨⟨tyX3, tyX3_ok⟩, nmX3, rfl, by decide +kernel⟩
theorem pw_3_8 : PLw 8 .int (RX3, TX3, 13) := ⟨⟨tyX3, tyX3_ok⟩, nmX3, rfl, by decide +kernel⟩
theorem pw_3_9 : PLw 9 .int (RX3, TX3, 13) := ⟨⟨tyX3, tyX3_ok⟩, nmX3, rfl, by decide +kernel⟩
theorem pw_3_10 : PLw 10 .int (RX3, TX3, 13) := ⟨⟨tyX3, tyX3_ok⟩, nmX3, rfl, by decide +kernel⟩
theorem pw_3_11 : PLw 11 .int (RX3, TX3, 13) := ⟨⟨tyX3, tyX3_ok⟩, nmX3, rfl, by decide +kernel⟩
theorem pw_3_12 : PLw 12 .int (RX3, TX3, 13) := ⟨⟨tyX3, tyX3_ok⟩, nmX3, rfl, by decide +kernel⟩
theorem pw_4_2 : PLw 2 .int (RX4, TX4, 8) := ⟨⟨tyX4, tyX4_ok⟩, nmX4, rfl, by decide +kernel⟩
theorem pw_4_3 : PLw 3 .int (RX4, TX4, 8) := ⟨⟨tyX4, tyX4_ok⟩, nmX4, rfl, by decide +kernel⟩
theorem pw_4_4 : PLw 4 .int (RX4, TX4, 8) := ⟨⟨tyX4, tyX4_ok⟩, nmX4, rfl, by decide +kernel⟩
theorem pw_4_5 : PLw 5 .char (RX4, TX4, 8) := ⟨⟨tyX4, tyX4_ok⟩, nmX4, rfl, by decide +kernel⟩
theorem pw_4_6 : PLw 6 .int (RX4, TX4, 8) := ⟨⟨tyX4, tyX4_ok⟩, nmX4, rfl, by decide +kernel⟩
theorem pw_4_7 : PLw 7 .int (RX4, TX4, 8) := ⟨⟨tyX4, tyX4_ok⟩, nmX4, rfl, by decide +kernel⟩
theorem pw_5_7 : PLw 7 .int (RX5, TX5, 8) := ⟨⟨tyX5, tyX5_ok⟩, nmX5, rfl, by decide +kernel⟩
theorem pw_6_3 : PLw 3 .int (RX6, TX6, 15) := ⟨⟨tyX6, tyX6_ok⟩, nmX6, rfl, by decide +kernel⟩
theorem pw_6_8 : PLw 8 .int (RX6, TX6, 15) := ⟨⟨tyX6, tyX6_ok⟩, nmX6, rfl, by decide +kernel⟩
theorem pw_6_9 : PLw 9 .int (RX6, TX6, 15) := ⟨⟨tyX6, tyX6_ok⟩, nmX6, rfl, by decide +kernel⟩
theorem pw_6_11 : PLw 11 .int (RX6, TX6, 15) := ⟨⟨tyX6, tyX6_ok⟩, nmX6, rfl, by decide +kernel⟩
theorem pw_6_12 : PLw 12 .int (RX6, TX6, 15) := ⟨⟨tyX6, tyX6_ok⟩, nmX6, rfl, by decide +kernel⟩
theorem pw_6_13 : PLw 13 .int (RX6, TX6, 15) := ⟨⟨tyX6, tyX6_ok⟩, nmX6, rfl, by decide +kernel⟩
theorem pw_6_14 : PLw 14 .int (RX6, TX6, 15) := ⟨⟨tyX6, tyX6_ok⟩, nmX6, rfl, by decide +kernel⟩
theorem fg_X5_260 : Cond.fieldLink RX5 260 RX5 (tabF 2) "[I" ∈ BG := bg_t 341 (by decide +kernel) rfl
theorem fg_X2_28 : Cond.fieldLinkNest RX2 28 RX5 (tabF 0) "[I" RX5 ∈ nestL := nst_t 493 (by decide +kernel) rfl
theorem fg_X2_38 : Cond.fieldLinkNest RX2 38 RX5 (tabF 1) "[I" RX5 ∈ nestL := nst_t 496 (by decide +kernel) rfl
theorem fg_X3_104 : Cond.fieldLinkNest RX3 104 RX5 (tabF 2) "[I" RX5 ∈ nestL := nst_t 347 (by decide +kernel) rfl
theorem cw_X5_78 : Cond.constant RX5 78 (-1000001) ∈ BG := bg_t 311 (by decide +kernel) rfl
theorem cw_X5_83 : Cond.constant RX5 83 (-1000002) ∈ BG := bg_t 518 (by decide +kernel) rfl
theorem cw_X5_96 : Cond.constant RX5 96 (-1000004) ∈ BG := bg_t 312 (by decide +kernel) rfl
theorem cw_X3_75 : Cond.constant RX3 75 (-1000001) ∈ BG := bg_t 288 (by decide +kernel) rfl
theorem cw_X3_76 : Cond.constant RX3 76 (-1000003) ∈ BG := bg_t 289 (by decide +kernel) rfl
theorem cw_X3_92 : Cond.constant RX3 92 (-1000002) ∈ BG := bg_t 329 (by decide +kernel) rfl
theorem cw_X3_131 : Cond.constant RX3 131 (99999) ∈ BG := bg_t 411 (by decide +kernel) rfl
theorem cw_X4_23 : Cond.constant RX4 23 (-1000003) ∈ BG := bg_t 650 (by decide +kernel) rfl
theorem cw_X6_35 : Cond.constant RX6 35 (-1000001) ∈ BG := bg_t 775 (by decide +kernel) rfl
theorem cw_X6_124 : Cond.constant RX6 124 (-1000003) ∈ BG := bg_t 776 (by decide +kernel) rfl
theorem cw_X6_128 : Cond.constant RX6 128 (-1000002) ∈ BG := bg_t 816 (by decide +kernel) rfl
theorem cw_X6_135 : Cond.constant RX6 135 (99999) ∈ BG := bg_t 887 (by decide +kernel) rfl
theorem cw_X6_174 : Cond.constant RX6 174 (-1000004) ∈ BG := bg_t 971 (by decide +kernel) rfl
theorem cw_Jxf58ca_77 : Cond.constant RJxf58ca 77 (2143289344) ∈ BG := bg_t 1041 (by decide +kernel) rfl
theorem cw_X5_267 : Cond.constantFloat RX5 267 1258291200 ∈ BG := bg_t 623 (by decide +kernel) rfl
theorem bn_J9 : Cond.initialized RJ9 ∈ BG := bg_t 8 (by decide +kernel) rfl
theorem bn_Jxf58ca : Cond.initialized RJxf58ca ∈ BG := bg_t 9 (by decide +kernel) rfl
theorem bn_L : Cond.initialized RL ∈ BG := bg_t 0 (by decide +kernel) rfl
theorem bn_X0 : Cond.initialized RX0 ∈ BG := bg_t 4 (by decide +kernel) rfl
theorem bn_X1 : Cond.initialized RX1 ∈ BG := bg_t 5 (by decide +kernel) rfl
theorem bn_X2 : Cond.initialized RX2 ∈ BG := bg_t 3 (by decide +kernel) rfl
theorem bn_X3 : Cond.initialized RX3 ∈ BG := bg_t 2 (by decide +kernel) rfl
theorem bn_X4 : Cond.initialized RX4 ∈ BG := bg_t 6 (by decide +kernel) rfl
theorem bn_X5 : Cond.initialized RX5 ∈ BG := bg_t 1 (by decide +kernel) rfl
theorem bn_X6 : Cond.initialized RX6 ∈ BG := bg_t 7 (by decide +kernel) rfl
theorem bc_J9_abs_0f7a4 : Cond.code yJ9_abs_0f7a4 cJ9_abs_0f7a4 1 (some .int) ∈ BG := bg_t 481 (by decide +kernel) rfl
theorem bi_J9_abs_0f7a4 : Cond.static yJ9_abs_0f7a4 ∈ BG := bg_t 480 (by decide +kernel) rfl
theorem bc_J9_floorDiv_7cf53 : Cond.code yJ9_floorDiv_7cf53 cJ9_floorDiv_7cf53 3 (some .int) ∈ BG := bg_t 299 (by decide +kernel) rfl
theorem bi_J9_floorDiv_7cf53 : Cond.static yJ9_floorDiv_7cf53 ∈ BG := bg_t 298 (by decide +kernel) rfl
theorem bc_J9_floorMod_7cf53 : Cond.code yJ9_floorMod_7cf53 cJ9_floorMod_7cf53 3 (some .int) ∈ BG := bg_t 467 (by decide +kernel) rfl
theorem bi_J9_floorMod_7cf53 : Cond.static yJ9_floorMod_7cf53 ∈ BG := bg_t 466 (by decide +kernel) rfl
theorem bc_J9_min_7cf53 : Cond.code yJ9_min_7cf53 cJ9_min_7cf53 2 (some .int) ∈ BG := bg_t 361 (by decide +kernel) rfl
theorem bi_J9_min_7cf53 : Cond.static yJ9_min_7cf53 ∈ BG := bg_t 360 (by decide +kernel) rfl
theorem bc_Jxf58ca_floatToIntBits_5c35a : Cond.code yJxf58ca_floatToIntBits_5c35a cJxf58ca_floatToIntBits_5c35a 1 (some .int) ∈ BG := bg_t 1034 (by decide +kernel) rfl
theorem bi_Jxf58ca_floatToIntBits_5c35a : Cond.static yJxf58ca_floatToIntBits_5c35a ∈ BG := bg_t 1033 (by decide +kernel) rfl
theorem bc_Jxf58ca_isNaN_12338 : Cond.code yJxf58ca_isNaN_12338 cJxf58ca_isNaN_12338 1 (some .boolean) ∈ BG := bg_t 1037 (by decide +kernel) rfl
theorem bi_Jxf58ca_isNaN_12338 : Cond.static yJxf58ca_isNaN_12338 ∈ BG := bg_t 1036 (by decide +kernel) rfl
theorem bc_X0_copyFrom : Cond.code yX0_copyFrom cX0_copyFrom 2 none ∈ BG := bg_t 280 (by decide +kernel) rfl
theorem bi_X0_copyFrom : Cond.instanceMethod yX0_copyFrom ∈ BG := bg_t 278 (by decide +kernel) rfl
theorem bx_X0_copyFrom : Cond.selects yX0_copyFrom.cls yX0_copyFrom yX0_copyFrom ∈ BG := bg_t 279 (by decide +kernel) rfl
theorem bc_X0_errorAt : Cond.code yX0_errorAt cX0_errorAt 3 (some .int) ∈ BG := bg_t 570 (by decide +kernel) rfl
theorem bi_X0_errorAt : Cond.instanceMethod yX0_errorAt ∈ BG := bg_t 568 (by decide +kernel) rfl
theorem bx_X0_errorAt : Cond.selects yX0_errorAt.cls yX0_errorAt yX0_errorAt ∈ BG := bg_t 569 (by decide +kernel) rfl
theorem bc_X0_has : Cond.code yX0_has cX0_has 3 (some .boolean) ∈ BG := bg_t 560 (by decide +kernel) rfl
theorem bi_X0_has : Cond.instanceMethod yX0_has ∈ BG := bg_t 558 (by decide +kernel) rfl
theorem bx_X0_has : Cond.selects yX0_has.cls yX0_has yX0_has ∈ BG := bg_t 559 (by decide +kernel) rfl
theorem bc_X0_init : Cond.code yX0_init cX0_init 1 none ∈ BG := bg_t 61 (by decide +kernel) rfl
theorem bi_X0_init : Cond.instanceMethod yX0_init ∈ BG := bg_t 60 (by decide +kernel) rfl
theorem bc_X0_open : Cond.code yX0_open cX0_open 2 none ∈ BG := bg_t 460 (by decide +kernel) rfl
theorem bi_X0_open : Cond.instanceMethod yX0_open ∈ BG := bg_t 458 (by decide +kernel) rfl
theorem bx_X0_open : Cond.selects yX0_open.cls yX0_open yX0_open ∈ BG := bg_t 459 (by decide +kernel) rfl
theorem bc_X0_place : Cond.code yX0_place cX0_place 2 (some .int) ∈ BG := bg_t 464 (by decide +kernel) rfl
theorem bi_X0_place : Cond.instanceMethod yX0_place ∈ BG := bg_t 463 (by decide +kernel) rfl
theorem bx_X0_place : Cond.selects yX0_place.cls yX0_place yX0_place ∈ BG := bg_p (q := (yX0_place, 4)) 10 (by decide +kernel)
theorem bc_X0_size : Cond.code yX0_size cX0_size 1 (some .int) ∈ BG := bg_t 564 (by decide +kernel) rfl
theorem bi_X0_size : Cond.instanceMethod yX0_size ∈ BG := bg_t 562 (by decide +kernel) rfl
theorem bx_X0_size : Cond.selects yX0_size.cls yX0_size yX0_size ∈ BG := bg_t 563 (by decide +kernel) rfl
theorem bc_X0_write : Cond.code yX0_write cX0_write 3 none ∈ BG := bg_t 474 (by decide +kernel) rfl
theorem bi_X0_write : Cond.instanceMethod yX0_write ∈ BG := bg_t 472 (by decide +kernel) rfl
theorem bx_X0_write : Cond.selects yX0_write.cls yX0_write yX0_write ∈ BG := bg_t 473 (by decide +kernel) rfl
theorem bc_X1_begin : Cond.code yX1_begin cX1_begin 5 none ∈ BG := bg_t 303 (by decide +kernel) rfl
theorem bi_X1_begin : Cond.instanceMethod yX1_begin ∈ BG := bg_t 301 (by decide +kernel) rfl
theorem bx_X1_begin : Cond.selects yX1_begin.cls yX1_begin yX1_begin ∈ BG := bg_t 302 (by decide +kernel) rfl
theorem bc_X1_copyFrom : Cond.code yX1_copyFrom cX1_copyFrom 2 none ∈ BG := bg_t 272 (by decide +kernel) rfl
theorem bi_X1_copyFrom : Cond.instanceMethod yX1_copyFrom ∈ BG := bg_t 270 (by decide +kernel) rfl
theorem bx_X1_copyFrom : Cond.selects yX1_copyFrom.cls yX1_copyFrom yX1_copyFrom ∈ BG := bg_t 271 (by decide +kernel) rfl
theorem bc_X1_dropsCounted : Cond.code yX1_dropsCounted cX1_dropsCounted 1 (some .int) ∈ BG := bg_t 385 (by decide +kernel) rfl
theorem bi_X1_dropsCounted : Cond.instanceMethod yX1_dropsCounted ∈ BG := bg_t 383 (by decide +kernel) rfl
theorem bx_X1_dropsCounted : Cond.selects yX1_dropsCounted.cls yX1_dropsCounted yX1_dropsCounted ∈ BG := bg_t 384 (by decide +kernel) rfl
theorem bc_X1_figure : Cond.code yX1_figure cX1_figure 2 (some .int) ∈ BG := bg_t 531 (by decide +kernel) rfl
theorem bi_X1_figure : Cond.instanceMethod yX1_figure ∈ BG := bg_t 529 (by decide +kernel) rfl
theorem bx_X1_figure : Cond.selects yX1_figure.cls yX1_figure yX1_figure ∈ BG := bg_t 530 (by decide +kernel) rfl
theorem bc_X1_has : Cond.code yX1_has cX1_has 2 (some .boolean) ∈ BG := bg_t 527 (by decide +kernel) rfl
theorem bi_X1_has : Cond.instanceMethod yX1_has ∈ BG := bg_t 525 (by decide +kernel) rfl
theorem bx_X1_has : Cond.selects yX1_has.cls yX1_has yX1_has ∈ BG := bg_t 526 (by decide +kernel) rfl
theorem bc_X1_hourTold : Cond.code yX1_hourTold cX1_hourTold 1 (some .int) ∈ BG := bg_t 401 (by decide +kernel) rfl
theorem bi_X1_hourTold : Cond.instanceMethod yX1_hourTold ∈ BG := bg_t 399 (by decide +kernel) rfl
theorem bx_X1_hourTold : Cond.selects yX1_hourTold.cls yX1_hourTold yX1_hourTold ∈ BG := bg_t 400 (by decide +kernel) rfl
theorem bc_X1_init : Cond.code yX1_init cX1_init 2 none ∈ BG := bg_t 83 (by decide +kernel) rfl
theorem bi_X1_init : Cond.instanceMethod yX1_init ∈ BG := bg_t 82 (by decide +kernel) rfl
theorem bc_X1_letThrough : Cond.code yX1_letThrough cX1_letThrough 2 (some .int) ∈ BG := bg_t 423 (by decide +kernel) rfl
theorem bi_X1_letThrough : Cond.instanceMethod yX1_letThrough ∈ BG := bg_t 421 (by decide +kernel) rfl
theorem bx_X1_letThrough : Cond.selects yX1_letThrough.cls yX1_letThrough yX1_letThrough ∈ BG := bg_t 422 (by decide +kernel) rfl
theorem bc_X1_nextDrip : Cond.code yX1_nextDrip cX1_nextDrip 1 (some .int) ∈ BG := bg_t 427 (by decide +kernel) rfl
theorem bi_X1_nextDrip : Cond.instanceMethod yX1_nextDrip ∈ BG := bg_t 425 (by decide +kernel) rfl
theorem bx_X1_nextDrip : Cond.selects yX1_nextDrip.cls yX1_nextDrip yX1_nextDrip ∈ BG := bg_t 426 (by decide +kernel) rfl
theorem bc_X1_trueTo : Cond.code yX1_trueTo cX1_trueTo 2 none ∈ BG := bg_t 381 (by decide +kernel) rfl
theorem bi_X1_trueTo : Cond.instanceMethod yX1_trueTo ∈ BG := bg_t 379 (by decide +kernel) rfl
theorem bx_X1_trueTo : Cond.selects yX1_trueTo.cls yX1_trueTo yX1_trueTo ∈ BG := bg_t 380 (by decide +kernel) rfl
theorem bc_X1_wearHole : Cond.code yX1_wearHole cX1_wearHole 4 none ∈ BG := bg_t 440 (by decide +kernel) rfl
theorem bi_X1_wearHole : Cond.instanceMethod yX1_wearHole ∈ BG := bg_t 438 (by decide +kernel) rfl
theorem bx_X1_wearHole : Cond.selects yX1_wearHole.cls yX1_wearHole yX1_wearHole ∈ BG := bg_t 439 (by decide +kernel) rfl
theorem bc_X2_change : Cond.code yX2_change cX2_change 3 none ∈ BG := bg_t 505 (by decide +kernel) rfl
theorem bi_X2_change : Cond.instanceMethod yX2_change ∈ BG := bg_t 503 (by decide +kernel) rfl
theorem bx_X2_change : Cond.selects yX2_change.cls yX2_change yX2_change ∈ BG := bg_t 504 (by decide +kernel) rfl
theorem bc_X2_copyFrom : Cond.code yX2_copyFrom cX2_copyFrom 2 none ∈ BG := bg_t 276 (by decide +kernel) rfl
theorem bi_X2_copyFrom : Cond.instanceMethod yX2_copyFrom ∈ BG := bg_t 274 (by decide +kernel) rfl
theorem bx_X2_copyFrom : Cond.selects yX2_copyFrom.cls yX2_copyFrom yX2_copyFrom ∈ BG := bg_t 275 (by decide +kernel) rfl
theorem bc_X2_init : Cond.code yX2_init cX2_init 1 none ∈ BG := bg_t 30 (by decide +kernel) rfl
theorem bi_X2_init : Cond.instanceMethod yX2_init ∈ BG := bg_t 29 (by decide +kernel) rfl
theorem bc_X2_isInRange : Cond.code yX2_isInRange cX2_isInRange 2 (some .boolean) ∈ BG := bg_t 492 (by decide +kernel) rfl
theorem bi_X2_isInRange : Cond.static yX2_isInRange ∈ BG := bg_t 491 (by decide +kernel) rfl
theorem bc_X2_valueOf : Cond.code yX2_valueOf cX2_valueOf 2 (some .int) ∈ BG := bg_t 501 (by decide +kernel) rfl
theorem bi_X2_valueOf : Cond.instanceMethod yX2_valueOf ∈ BG := bg_t 499 (by decide +kernel) rfl
theorem bx_X2_valueOf : Cond.selects yX2_valueOf.cls yX2_valueOf yX2_valueOf ∈ BG := bg_t 500 (by decide +kernel) rfl
theorem bc_X3_addClock : Cond.code yX3_addClock cX3_addClock 4 (some .int) ∈ BG := bg_t 287 (by decide +kernel) rfl
theorem bi_X3_addClock : Cond.instanceMethod yX3_addClock ∈ BG := bg_t 285 (by decide +kernel) rfl
theorem bx_X3_addClock : Cond.selects yX3_addClock.cls yX3_addClock yX3_addClock ∈ BG := bg_t 286 (by decide +kernel) rfl
theorem bc_X3_allWater : Cond.code yX3_allWater cX3_allWater 1 (some .int) ∈ BG := bg_t 551 (by decide +kernel) rfl
theorem bi_X3_allWater : Cond.instanceMethod yX3_allWater ∈ BG := bg_t 549 (by decide +kernel) rfl
theorem bx_X3_allWater : Cond.selects yX3_allWater.cls yX3_allWater yX3_allWater ∈ BG := bg_t 550 (by decide +kernel) rfl
theorem bc_X3_changePitch : Cond.code yX3_changePitch cX3_changePitch 5 (some .int) ∈ BG := bg_t 377 (by decide +kernel) rfl
theorem bi_X3_changePitch : Cond.instanceMethod yX3_changePitch ∈ BG := bg_t 375 (by decide +kernel) rfl
theorem bx_X3_changePitch : Cond.selects yX3_changePitch.cls yX3_changePitch yX3_changePitch ∈ BG := bg_t 376 (by decide +kernel) rfl
theorem bc_X3_changeSetting : Cond.code yX3_changeSetting cX3_changeSetting 4 (some .int) ∈ BG := bg_t 489 (by decide +kernel) rfl
theorem bi_X3_changeSetting : Cond.instanceMethod yX3_changeSetting ∈ BG := bg_t 487 (by decide +kernel) rfl
theorem bx_X3_changeSetting : Cond.selects yX3_changeSetting.cls yX3_changeSetting yX3_changeSetting ∈ BG := bg_t 488 (by decide +kernel) rfl
theorem bc_X3_clockAt : Cond.code yX3_clockAt cX3_clockAt 2 (some (.object "LeakingClocks$Clock")) ∈ BG := bg_t 328 (by decide +kernel) rfl
theorem bi_X3_clockAt : Cond.instanceMethod yX3_clockAt ∈ BG := bg_t 326 (by decide +kernel) rfl
theorem bx_X3_clockAt : Cond.selects yX3_clockAt.cls yX3_clockAt yX3_clockAt ∈ BG := bg_t 327 (by decide +kernel) rfl
theorem bc_X3_clocksEmpty : Cond.code yX3_clocksEmpty cX3_clocksEmpty 3 (some .int) ∈ BG := bg_t 635 (by decide +kernel) rfl
theorem bi_X3_clocksEmpty : Cond.instanceMethod yX3_clocksEmpty ∈ BG := bg_t 633 (by decide +kernel) rfl
theorem bx_X3_clocksEmpty : Cond.selects yX3_clocksEmpty.cls yX3_clocksEmpty yX3_clocksEmpty ∈ BG := bg_t 634 (by decide +kernel) rfl
theorem bc_X3_clocksOff : Cond.code yX3_clocksOff cX3_clocksOff 3 (some .int) ∈ BG := bg_t 631 (by decide +kernel) rfl
theorem bi_X3_clocksOff : Cond.instanceMethod yX3_clocksOff ∈ BG := bg_t 629 (by decide +kernel) rfl
theorem bx_X3_clocksOff : Cond.selects yX3_clocksOff.cls yX3_clocksOff yX3_clocksOff ∈ BG := bg_t 630 (by decide +kernel) rfl
theorem bc_X3_copyFrom : Cond.code yX3_copyFrom cX3_copyFrom 3 none ∈ BG := bg_t 268 (by decide +kernel) rfl
theorem bi_X3_copyFrom : Cond.instanceMethod yX3_copyFrom ∈ BG := bg_t 266 (by decide +kernel) rfl
theorem bx_X3_copyFrom : Cond.selects yX3_copyFrom.cls yX3_copyFrom yX3_copyFrom ∈ BG := bg_t 267 (by decide +kernel) rfl
theorem bc_X3_drip : Cond.code yX3_drip cX3_drip 4 (some .int) ∈ BG := bg_t 415 (by decide +kernel) rfl
theorem bi_X3_drip : Cond.instanceMethod yX3_drip ∈ BG := bg_t 413 (by decide +kernel) rfl
theorem bx_X3_drip : Cond.selects yX3_drip.cls yX3_drip yX3_drip ∈ BG := bg_t 414 (by decide +kernel) rfl
theorem bc_X3_dripOf : Cond.code yX3_dripOf cX3_dripOf 4 (some .int) ∈ BG := bg_t 419 (by decide +kernel) rfl
theorem bi_X3_dripOf : Cond.instanceMethod yX3_dripOf ∈ BG := bg_t 418 (by decide +kernel) rfl
theorem bx_X3_dripOf : Cond.selects yX3_dripOf.cls yX3_dripOf yX3_dripOf ∈ BG := bg_p (q := (yX3_dripOf, 13)) 4 (by decide +kernel)
theorem bc_X3_enterUpper : Cond.code yX3_enterUpper cX3_enterUpper 4 (some .int) ∈ BG := bg_t 358 (by decide +kernel) rfl
theorem bi_X3_enterUpper : Cond.instanceMethod yX3_enterUpper ∈ BG := bg_t 357 (by decide +kernel) rfl
theorem bx_X3_enterUpper : Cond.selects yX3_enterUpper.cls yX3_enterUpper yX3_enterUpper ∈ BG := bg_p (q := (yX3_enterUpper, 13)) 3 (by decide +kernel)
theorem bc_X3_errorOf : Cond.code yX3_errorOf cX3_errorOf 2 (some .int) ∈ BG := bg_t 397 (by decide +kernel) rfl
theorem bi_X3_errorOf : Cond.instanceMethod yX3_errorOf ∈ BG := bg_t 395 (by decide +kernel) rfl
theorem bx_X3_errorOf : Cond.selects yX3_errorOf.cls yX3_errorOf yX3_errorOf ∈ BG := bg_t 396 (by decide +kernel) rfl
theorem bc_X3_errorsTogether : Cond.code yX3_errorsTogether cX3_errorsTogether 3 (some .int) ∈ BG := bg_t 619 (by decide +kernel) rfl
theorem bi_X3_errorsTogether : Cond.instanceMethod yX3_errorsTogether ∈ BG := bg_t 617 (by decide +kernel) rfl
theorem bx_X3_errorsTogether : Cond.selects yX3_errorsTogether.cls yX3_errorsTogether yX3_errorsTogether ∈ BG := bg_t 618 (by decide +kernel) rfl
theorem bc_X3_goOn : Cond.code yX3_goOn cX3_goOn 4 none ∈ BG := bg_t 432 (by decide +kernel) rfl
theorem bi_X3_goOn : Cond.instanceMethod yX3_goOn ∈ BG := bg_t 431 (by decide +kernel) rfl
theorem bx_X3_goOn : Cond.selects yX3_goOn.cls yX3_goOn yX3_goOn ∈ BG := bg_p (q := (yX3_goOn, 13)) 5 (by decide +kernel)
theorem bc_X3_init : Cond.code yX3_init cX3_init 2 none ∈ BG := bg_t 22 (by decide +kernel) rfl
theorem bi_X3_init : Cond.instanceMethod yX3_init ∈ BG := bg_t 21 (by decide +kernel) rfl
theorem bc_X3_isEmpty : Cond.code yX3_isEmpty cX3_isEmpty 3 (some .boolean) ∈ BG := bg_t 584 (by decide +kernel) rfl
theorem bi_X3_isEmpty : Cond.instanceMethod yX3_isEmpty ∈ BG := bg_t 582 (by decide +kernel) rfl
theorem bx_X3_isEmpty : Cond.selects yX3_isEmpty.cls yX3_isEmpty yX3_isEmpty ∈ BG := bg_t 583 (by decide +kernel) rfl
theorem bc_X3_isNoon : Cond.code yX3_isNoon cX3_isNoon 1 (some .boolean) ∈ BG := bg_t 444 (by decide +kernel) rfl
theorem bi_X3_isNoon : Cond.instanceMethod yX3_isNoon ∈ BG := bg_t 443 (by decide +kernel) rfl
theorem bx_X3_isNoon : Cond.selects yX3_isNoon.cls yX3_isNoon yX3_isNoon ∈ BG := bg_p (q := (yX3_isNoon, 13)) 7 (by decide +kernel)
theorem bc_X3_isOff : Cond.code yX3_isOff cX3_isOff 2 (some .boolean) ∈ BG := bg_t 478 (by decide +kernel) rfl
theorem bi_X3_isOff : Cond.instanceMethod yX3_isOff ∈ BG := bg_t 477 (by decide +kernel) rfl
theorem bx_X3_isOff : Cond.selects yX3_isOff.cls yX3_isOff yX3_isOff ∈ BG := bg_p (q := (yX3_isOff, 13)) 11 (by decide +kernel)
theorem bc_X3_leadOn : Cond.code yX3_leadOn cX3_leadOn 5 (some .int) ∈ BG := bg_t 324 (by decide +kernel) rfl
theorem bi_X3_leadOn : Cond.instanceMethod yX3_leadOn ∈ BG := bg_t 322 (by decide +kernel) rfl
theorem bx_X3_leadOn : Cond.selects yX3_leadOn.cls yX3_leadOn yX3_leadOn ∈ BG := bg_t 323 (by decide +kernel) rfl
theorem bc_X3_narrow : Cond.code yX3_narrow cX3_narrow 4 (some .int) ∈ BG := bg_t 369 (by decide +kernel) rfl
theorem bi_X3_narrow : Cond.instanceMethod yX3_narrow ∈ BG := bg_t 367 (by decide +kernel) rfl
theorem bx_X3_narrow : Cond.selects yX3_narrow.cls yX3_narrow yX3_narrow ∈ BG := bg_t 368 (by decide +kernel) rfl
theorem bc_X3_noonComes : Cond.code yX3_noonComes cX3_noonComes 4 none ∈ BG := bg_t 456 (by decide +kernel) rfl
theorem bi_X3_noonComes : Cond.instanceMethod yX3_noonComes ∈ BG := bg_t 455 (by decide +kernel) rfl
theorem bx_X3_noonComes : Cond.selects yX3_noonComes.cls yX3_noonComes yX3_noonComes ∈ BG := bg_p (q := (yX3_noonComes, 13)) 9 (by decide +kernel)
theorem bc_X3_noonTicks : Cond.code yX3_noonTicks cX3_noonTicks 1 (some .int) ∈ BG := bg_t 452 (by decide +kernel) rfl
theorem bi_X3_noonTicks : Cond.instanceMethod yX3_noonTicks ∈ BG := bg_t 451 (by decide +kernel) rfl
theorem bx_X3_noonTicks : Cond.selects yX3_noonTicks.cls yX3_noonTicks yX3_noonTicks ∈ BG := bg_p (q := (yX3_noonTicks, 13)) 8 (by decide +kernel)
theorem bc_X3_passTicks : Cond.code yX3_passTicks cX3_passTicks 4 (some .int) ∈ BG := bg_t 410 (by decide +kernel) rfl
theorem bi_X3_passTicks : Cond.instanceMethod yX3_passTicks ∈ BG := bg_t 408 (by decide +kernel) rfl
theorem bx_X3_passTicks : Cond.selects yX3_passTicks.cls yX3_passTicks yX3_passTicks ∈ BG := bg_t 409 (by decide +kernel) rfl
theorem bc_X3_pourJug : Cond.code yX3_pourJug cX3_pourJug 5 (some .int) ∈ BG := bg_t 337 (by decide +kernel) rfl
theorem bi_X3_pourJug : Cond.instanceMethod yX3_pourJug ∈ BG := bg_t 335 (by decide +kernel) rfl
theorem bx_X3_pourJug : Cond.selects yX3_pourJug.cls yX3_pourJug yX3_pourJug ∈ BG := bg_t 336 (by decide +kernel) rfl
theorem bc_X3_rankOf : Cond.code yX3_rankOf cX3_rankOf 6 (some .int) ∈ BG := bg_t 607 (by decide +kernel) rfl
theorem bi_X3_rankOf : Cond.instanceMethod yX3_rankOf ∈ BG := bg_t 605 (by decide +kernel) rfl
theorem bx_X3_rankOf : Cond.selects yX3_rankOf.cls yX3_rankOf yX3_rankOf ∈ BG := bg_t 606 (by decide +kernel) rfl
theorem bc_X3_roomAbove : Cond.code yX3_roomAbove cX3_roomAbove 2 (some .int) ∈ BG := bg_t 354 (by decide +kernel) rfl
theorem bi_X3_roomAbove : Cond.instanceMethod yX3_roomAbove ∈ BG := bg_t 353 (by decide +kernel) rfl
theorem bx_X3_roomAbove : Cond.selects yX3_roomAbove.cls yX3_roomAbove yX3_roomAbove ∈ BG := bg_p (q := (yX3_roomAbove, 13)) 2 (by decide +kernel)
theorem bc_X3_sizeOfError : Cond.code yX3_sizeOfError cX3_sizeOfError 3 (some .int) ∈ BG := bg_t 611 (by decide +kernel) rfl
theorem bi_X3_sizeOfError : Cond.instanceMethod yX3_sizeOfError ∈ BG := bg_t 610 (by decide +kernel) rfl
theorem bx_X3_sizeOfError : Cond.selects yX3_sizeOfError.cls yX3_sizeOfError yX3_sizeOfError ∈ BG := bg_p (q := (yX3_sizeOfError, 13)) 14 (by decide +kernel)
theorem bc_X3_strokeOf : Cond.code yX3_strokeOf cX3_strokeOf 3 (some .int) ∈ BG := bg_t 436 (by decide +kernel) rfl
theorem bi_X3_strokeOf : Cond.instanceMethod yX3_strokeOf ∈ BG := bg_t 435 (by decide +kernel) rfl
theorem bx_X3_strokeOf : Cond.selects yX3_strokeOf.cls yX3_strokeOf yX3_strokeOf ∈ BG := bg_p (q := (yX3_strokeOf, 13)) 6 (by decide +kernel)
theorem bc_X3_together : Cond.code yX3_together cX3_together 4 (some .int) ∈ BG := bg_t 546 (by decide +kernel) rfl
theorem bi_X3_together : Cond.instanceMethod yX3_together ∈ BG := bg_t 544 (by decide +kernel) rfl
theorem bx_X3_together : Cond.selects yX3_together.cls yX3_together yX3_together ∈ BG := bg_t 545 (by decide +kernel) rfl
theorem bc_X3_trueClock : Cond.code yX3_trueClock cX3_trueClock 4 (some .int) ∈ BG := bg_t 393 (by decide +kernel) rfl
theorem bi_X3_trueClock : Cond.instanceMethod yX3_trueClock ∈ BG := bg_t 391 (by decide +kernel) rfl
theorem bx_X3_trueClock : Cond.selects yX3_trueClock.cls yX3_trueClock yX3_trueClock ∈ BG := bg_t 392 (by decide +kernel) rfl
theorem bc_X3_trueHour : Cond.code yX3_trueHour cX3_trueHour 1 (some .int) ∈ BG := bg_t 293 (by decide +kernel) rfl
theorem bi_X3_trueHour : Cond.instanceMethod yX3_trueHour ∈ BG := bg_t 291 (by decide +kernel) rfl
theorem bx_X3_trueHour : Cond.selects yX3_trueHour.cls yX3_trueHour yX3_trueHour ∈ BG := bg_t 292 (by decide +kernel) rfl
theorem bc_X3_untilNoon : Cond.code yX3_untilNoon cX3_untilNoon 2 (some .int) ∈ BG := bg_t 448 (by decide +kernel) rfl
theorem bi_X3_untilNoon : Cond.instanceMethod yX3_untilNoon ∈ BG := bg_t 446 (by decide +kernel) rfl
theorem bx_X3_untilNoon : Cond.selects yX3_untilNoon.cls yX3_untilNoon yX3_untilNoon ∈ BG := bg_t 447 (by decide +kernel) rfl
theorem bc_X3_whyNotPoured : Cond.code yX3_whyNotPoured cX3_whyNotPoured 3 (some .int) ∈ BG := bg_t 346 (by decide +kernel) rfl
theorem bi_X3_whyNotPoured : Cond.instanceMethod yX3_whyNotPoured ∈ BG := bg_t 344 (by decide +kernel) rfl
theorem bx_X3_whyNotPoured : Cond.selects yX3_whyNotPoured.cls yX3_whyNotPoured yX3_whyNotPoured ∈ BG := bg_t 345 (by decide +kernel) rfl
theorem bc_X4_append : Cond.code yX4_append cX4_append 2 (some .int) ∈ BG := bg_t 649 (by decide +kernel) rfl
theorem bi_X4_append : Cond.instanceMethod yX4_append ∈ BG := bg_t 647 (by decide +kernel) rfl
theorem bx_X4_append : Cond.selects yX4_append.cls yX4_append yX4_append ∈ BG := bg_t 648 (by decide +kernel) rfl
theorem bc_X4_init : Cond.code yX4_init cX4_init 1 none ∈ BG := bg_t 202 (by decide +kernel) rfl
theorem bi_X4_init : Cond.instanceMethod yX4_init ∈ BG := bg_t 201 (by decide +kernel) rfl
theorem bc_X4_isDigit : Cond.code yX4_isDigit cX4_isDigit 1 (some .boolean) ∈ BG := bg_t 688 (by decide +kernel) rfl
theorem bi_X4_isDigit : Cond.static yX4_isDigit ∈ BG := bg_t 687 (by decide +kernel) rfl
theorem bc_X4_number : Cond.code yX4_number cX4_number 2 (some .int) ∈ BG := bg_t 701 (by decide +kernel) rfl
theorem bi_X4_number : Cond.instanceMethod yX4_number ∈ BG := bg_t 699 (by decide +kernel) rfl
theorem bx_X4_number : Cond.selects yX4_number.cls yX4_number yX4_number ∈ BG := bg_t 700 (by decide +kernel) rfl
theorem bc_X4_numbersOf : Cond.code yX4_numbersOf cX4_numbersOf 1 (some .int) ∈ BG := bg_t 681 (by decide +kernel) rfl
theorem bi_X4_numbersOf : Cond.static yX4_numbersOf ∈ BG := bg_t 680 (by decide +kernel) rfl
theorem bc_X4_readForm : Cond.code yX4_readForm cX4_readForm 3 (some .boolean) ∈ BG := bg_t 674 (by decide +kernel) rfl
theorem bi_X4_readForm : Cond.instanceMethod yX4_readForm ∈ BG := bg_t 673 (by decide +kernel) rfl
theorem bx_X4_readForm : Cond.selects yX4_readForm.cls yX4_readForm yX4_readForm ∈ BG := bg_p (q := (yX4_readForm, 8)) 16 (by decide +kernel)
theorem bc_X4_readNumber : Cond.code yX4_readNumber cX4_readNumber 4 (some .boolean) ∈ BG := bg_t 685 (by decide +kernel) rfl
theorem bi_X4_readNumber : Cond.instanceMethod yX4_readNumber ∈ BG := bg_t 684 (by decide +kernel) rfl
theorem bx_X4_readNumber : Cond.selects yX4_readNumber.cls yX4_readNumber yX4_readNumber ∈ BG := bg_p (q := (yX4_readNumber, 8)) 18 (by decide +kernel)
theorem bc_X4_readOrder : Cond.code yX4_readOrder cX4_readOrder 1 (some .boolean) ∈ BG := bg_t 670 (by decide +kernel) rfl
theorem bi_X4_readOrder : Cond.instanceMethod yX4_readOrder ∈ BG := bg_t 668 (by decide +kernel) rfl
theorem bx_X4_readOrder : Cond.selects yX4_readOrder.cls yX4_readOrder yX4_readOrder ∈ BG := bg_t 669 (by decide +kernel) rfl
theorem bc_X4_readSign : Cond.code yX4_readSign cX4_readSign 2 (some .boolean) ∈ BG := bg_t 693 (by decide +kernel) rfl
theorem bi_X4_readSign : Cond.instanceMethod yX4_readSign ∈ BG := bg_t 692 (by decide +kernel) rfl
theorem bx_X4_readSign : Cond.selects yX4_readSign.cls yX4_readSign yX4_readSign ∈ BG := bg_p (q := (yX4_readSign, 8)) 19 (by decide +kernel)
theorem bc_X4_rewind : Cond.code yX4_rewind cX4_rewind 1 none ∈ BG := bg_t 666 (by decide +kernel) rfl
theorem bi_X4_rewind : Cond.instanceMethod yX4_rewind ∈ BG := bg_t 664 (by decide +kernel) rfl
theorem bx_X4_rewind : Cond.selects yX4_rewind.cls yX4_rewind yX4_rewind ∈ BG := bg_t 665 (by decide +kernel) rfl
theorem bc_X4_signHere : Cond.code yX4_signHere cX4_signHere 1 (some .char) ∈ BG := bg_t 678 (by decide +kernel) rfl
theorem bi_X4_signHere : Cond.instanceMethod yX4_signHere ∈ BG := bg_t 677 (by decide +kernel) rfl
theorem bx_X4_signHere : Cond.selects yX4_signHere.cls yX4_signHere yX4_signHere ∈ BG := bg_p (q := (yX4_signHere, 8)) 17 (by decide +kernel)
theorem bc_X4_tellFault : Cond.code yX4_tellFault cX4_tellFault 3 none ∈ BG := bg_t 697 (by decide +kernel) rfl
theorem bi_X4_tellFault : Cond.instanceMethod yX4_tellFault ∈ BG := bg_t 695 (by decide +kernel) rfl
theorem bx_X4_tellFault : Cond.selects yX4_tellFault.cls yX4_tellFault yX4_tellFault ∈ BG := bg_t 696 (by decide +kernel) rfl
theorem bc_X5_back : Cond.code yX5_back cX5_back 2 (some .int) ∈ BG := bg_t 517 (by decide +kernel) rfl
theorem bi_X5_back : Cond.instanceMethod yX5_back ∈ BG := bg_t 515 (by decide +kernel) rfl
theorem bx_X5_back : Cond.selects yX5_back.cls yX5_back yX5_back ∈ BG := bg_t 516 (by decide +kernel) rfl
theorem bc_X5_bestWax : Cond.code yX5_bestWax cX5_bestWax 8 (some .int) ∈ BG := bg_t 598 (by decide +kernel) rfl
theorem bi_X5_bestWax : Cond.instanceMethod yX5_bestWax ∈ BG := bg_t 596 (by decide +kernel) rfl
theorem bx_X5_bestWax : Cond.selects yX5_bestWax.cls yX5_bestWax yX5_bestWax ∈ BG := bg_t 597 (by decide +kernel) rfl
theorem bc_X5_bitsOf : Cond.code yX5_bitsOf cX5_bitsOf 3 (some .int) ∈ BG := bg_t 622 (by decide +kernel) rfl
theorem bi_X5_bitsOf : Cond.static yX5_bitsOf ∈ BG := bg_t 621 (by decide +kernel) rfl
theorem bc_X5_changed : Cond.code yX5_changed cX5_changed 3 (some .int) ∈ BG := bg_t 307 (by decide +kernel) rfl
theorem bi_X5_changed : Cond.instanceMethod yX5_changed ∈ BG := bg_t 306 (by decide +kernel) rfl
theorem bx_X5_changed : Cond.selects yX5_changed.cls yX5_changed yX5_changed ∈ BG := bg_p (q := (yX5_changed, 8)) 0 (by decide +kernel)
theorem bc_X5_clearText : Cond.code yX5_clearText cX5_clearText 2 (some .int) ∈ BG := bg_t 654 (by decide +kernel) rfl
theorem bi_X5_clearText : Cond.instanceMethod yX5_clearText ∈ BG := bg_t 652 (by decide +kernel) rfl
theorem bx_X5_clearText : Cond.selects yX5_clearText.cls yX5_clearText yX5_clearText ∈ BG := bg_t 653 (by decide +kernel) rfl
theorem bc_X5_clock : Cond.code yX5_clock cX5_clock 4 (some .int) ∈ BG := bg_t 264 (by decide +kernel) rfl
theorem bi_X5_clock : Cond.instanceMethod yX5_clock ∈ BG := bg_t 262 (by decide +kernel) rfl
theorem bx_X5_clock : Cond.selects yX5_clock.cls yX5_clock yX5_clock ∈ BG := bg_t 263 (by decide +kernel) rfl
theorem bc_X5_clockOf : Cond.code yX5_clockOf cX5_clockOf 4 (some .int) ∈ BG := bg_t 522 (by decide +kernel) rfl
theorem bi_X5_clockOf : Cond.instanceMethod yX5_clockOf ∈ BG := bg_t 520 (by decide +kernel) rfl
theorem bx_X5_clockOf : Cond.selects yX5_clockOf.cls yX5_clockOf yX5_clockOf ∈ BG := bg_t 521 (by decide +kernel) rfl
theorem bc_X5_copy : Cond.code yX5_copy cX5_copy 3 none ∈ BG := bg_t 283 (by decide +kernel) rfl
theorem bi_X5_copy : Cond.static yX5_copy ∈ BG := bg_t 282 (by decide +kernel) rfl
theorem bc_X5_count : Cond.code yX5_count cX5_count 2 (some .int) ∈ BG := bg_t 627 (by decide +kernel) rfl
theorem bi_X5_count : Cond.instanceMethod yX5_count ∈ BG := bg_t 625 (by decide +kernel) rfl
theorem bx_X5_count : Cond.selects yX5_count.cls yX5_count yX5_count ∈ BG := bg_t 626 (by decide +kernel) rfl
theorem bc_X5_dropOldestState : Cond.code yX5_dropOldestState cX5_dropOldestState 3 none ∈ BG := bg_t 316 (by decide +kernel) rfl
theorem bi_X5_dropOldestState : Cond.instanceMethod yX5_dropOldestState ∈ BG := bg_t 315 (by decide +kernel) rfl
theorem bx_X5_dropOldestState : Cond.selects yX5_dropOldestState.cls yX5_dropOldestState yX5_dropOldestState ∈ BG := bg_p (q := (yX5_dropOldestState, 8)) 1 (by decide +kernel)
theorem bc_X5_element : Cond.code yX5_element cX5_element 2 (some .int) ∈ BG := bg_t 350 (by decide +kernel) rfl
theorem bi_X5_element : Cond.static yX5_element ∈ BG := bg_t 349 (by decide +kernel) rfl
theorem bc_X5_emptyIn : Cond.code yX5_emptyIn cX5_emptyIn 3 (some .int) ∈ BG := bg_t 580 (by decide +kernel) rfl
theorem bi_X5_emptyIn : Cond.instanceMethod yX5_emptyIn ∈ BG := bg_t 578 (by decide +kernel) rfl
theorem bx_X5_emptyIn : Cond.selects yX5_emptyIn.cls yX5_emptyIn yX5_emptyIn ∈ BG := bg_t 579 (by decide +kernel) rfl
theorem bc_X5_fault : Cond.code yX5_fault cX5_fault 2 (some .int) ∈ BG := bg_t 658 (by decide +kernel) rfl
theorem bi_X5_fault : Cond.instanceMethod yX5_fault ∈ BG := bg_t 656 (by decide +kernel) rfl
theorem bx_X5_fault : Cond.selects yX5_fault.cls yX5_fault yX5_fault ∈ BG := bg_t 657 (by decide +kernel) rfl
theorem bc_X5_hour : Cond.code yX5_hour cX5_hour 4 (some .int) ∈ BG := bg_t 535 (by decide +kernel) rfl
theorem bi_X5_hour : Cond.instanceMethod yX5_hour ∈ BG := bg_t 533 (by decide +kernel) rfl
theorem bx_X5_hour : Cond.selects yX5_hour.cls yX5_hour yX5_hour ∈ BG := bg_t 534 (by decide +kernel) rfl
theorem bc_X5_init : Cond.code yX5_init cX5_init 2 none ∈ BG := bg_t 14 (by decide +kernel) rfl
theorem bi_X5_init : Cond.instanceMethod yX5_init ∈ BG := bg_t 13 (by decide +kernel) rfl
theorem bc_X5_isErrorCode : Cond.code yX5_isErrorCode cX5_isErrorCode 1 (some .boolean) ∈ BG := bg_t 310 (by decide +kernel) rfl
theorem bi_X5_isErrorCode : Cond.static yX5_isErrorCode ∈ BG := bg_t 309 (by decide +kernel) rfl
theorem bc_X5_isImage : Cond.code yX5_isImage cX5_isImage 2 (some .boolean) ∈ BG := bg_t 513 (by decide +kernel) rfl
theorem bi_X5_isImage : Cond.instanceMethod yX5_isImage ∈ BG := bg_t 512 (by decide +kernel) rfl
theorem bx_X5_isImage : Cond.selects yX5_isImage.cls yX5_isImage yX5_isImage ∈ BG := bg_p (q := (yX5_isImage, 8)) 12 (by decide +kernel)
theorem bc_X5_isJug : Cond.code yX5_isJug cX5_isJug 1 (some .boolean) ∈ BG := bg_t 340 (by decide +kernel) rfl
theorem bi_X5_isJug : Cond.static yX5_isJug ∈ BG := bg_t 339 (by decide +kernel) rfl
theorem bc_X5_keep : Cond.code yX5_keep cX5_keep 2 (some .int) ∈ BG := bg_t 509 (by decide +kernel) rfl
theorem bi_X5_keep : Cond.instanceMethod yX5_keep ∈ BG := bg_t 507 (by decide +kernel) rfl
theorem bx_X5_keep : Cond.selects yX5_keep.cls yX5_keep yX5_keep ∈ BG := bg_t 508 (by decide +kernel) rfl
theorem bc_X5_lead : Cond.code yX5_lead cX5_lead 3 (some .int) ∈ BG := bg_t 320 (by decide +kernel) rfl
theorem bi_X5_lead : Cond.instanceMethod yX5_lead ∈ BG := bg_t 318 (by decide +kernel) rfl
theorem bx_X5_lead : Cond.selects yX5_lead.cls yX5_lead yX5_lead ∈ BG := bg_t 319 (by decide +kernel) rfl
theorem bc_X5_mean : Cond.code yX5_mean cX5_mean 1 (some .int) ∈ BG := bg_t 615 (by decide +kernel) rfl
theorem bi_X5_mean : Cond.instanceMethod yX5_mean ∈ BG := bg_t 613 (by decide +kernel) rfl
theorem bx_X5_mean : Cond.selects yX5_mean.cls yX5_mean yX5_mean ∈ BG := bg_t 614 (by decide +kernel) rfl
theorem bc_X5_noon : Cond.code yX5_noon cX5_noon 3 (some .int) ∈ BG := bg_t 556 (by decide +kernel) rfl
theorem bi_X5_noon : Cond.instanceMethod yX5_noon ∈ BG := bg_t 554 (by decide +kernel) rfl
theorem bx_X5_noon : Cond.selects yX5_noon.cls yX5_noon yX5_noon ∈ BG := bg_t 555 (by decide +kernel) rfl
theorem bc_X5_noonError : Cond.code yX5_noonError cX5_noonError 2 (some .int) ∈ BG := bg_t 589 (by decide +kernel) rfl
theorem bi_X5_noonError : Cond.instanceMethod yX5_noonError ∈ BG := bg_t 587 (by decide +kernel) rfl
theorem bx_X5_noonError : Cond.selects yX5_noonError.cls yX5_noonError yX5_noonError ∈ BG := bg_t 588 (by decide +kernel) rfl
theorem bc_X5_noonErrorWith : Cond.code yX5_noonErrorWith cX5_noonErrorWith 6 (some .int) ∈ BG := bg_t 593 (by decide +kernel) rfl
theorem bi_X5_noonErrorWith : Cond.instanceMethod yX5_noonErrorWith ∈ BG := bg_t 592 (by decide +kernel) rfl
theorem bx_X5_noonErrorWith : Cond.selects yX5_noonErrorWith.cls yX5_noonErrorWith yX5_noonErrorWith ∈ BG := bg_p (q := (yX5_noonErrorWith, 8)) 13 (by decide +kernel)
theorem bc_X5_pitch : Cond.code yX5_pitch cX5_pitch 3 (some .int) ∈ BG := bg_t 373 (by decide +kernel) rfl
theorem bi_X5_pitch : Cond.instanceMethod yX5_pitch ∈ BG := bg_t 371 (by decide +kernel) rfl
theorem bx_X5_pitch : Cond.selects yX5_pitch.cls yX5_pitch yX5_pitch ∈ BG := bg_t 372 (by decide +kernel) rfl
theorem bc_X5_play : Cond.code yX5_play cX5_play 2 (some .int) ∈ BG := bg_t 707 (by decide +kernel) rfl
theorem bi_X5_play : Cond.instanceMethod yX5_play ∈ BG := bg_t 705 (by decide +kernel) rfl
theorem bx_X5_play : Cond.selects yX5_play.cls yX5_play yX5_play ∈ BG := bg_t 706 (by decide +kernel) rfl
theorem bc_X5_pour : Cond.code yX5_pour cX5_pour 3 (some .int) ∈ BG := bg_t 333 (by decide +kernel) rfl
theorem bi_X5_pour : Cond.instanceMethod yX5_pour ∈ BG := bg_t 331 (by decide +kernel) rfl
theorem bx_X5_pour : Cond.selects yX5_pour.cls yX5_pour yX5_pour ∈ BG := bg_t 332 (by decide +kernel) rfl
theorem bc_X5_put : Cond.code yX5_put cX5_put 3 none ∈ BG := bg_t 470 (by decide +kernel) rfl
theorem bi_X5_put : Cond.static yX5_put ∈ BG := bg_t 469 (by decide +kernel) rfl
theorem bc_X5_quotient : Cond.code yX5_quotient cX5_quotient 2 (some .int) ∈ BG := bg_t 296 (by decide +kernel) rfl
theorem bi_X5_quotient : Cond.static yX5_quotient ∈ BG := bg_t 295 (by decide +kernel) rfl
theorem bc_X5_set : Cond.code yX5_set cX5_set 3 (some .int) ∈ BG := bg_t 485 (by decide +kernel) rfl
theorem bi_X5_set : Cond.instanceMethod yX5_set ∈ BG := bg_t 483 (by decide +kernel) rfl
theorem bx_X5_set : Cond.selects yX5_set.cls yX5_set yX5_set ∈ BG := bg_t 484 (by decide +kernel) rfl
theorem bc_X5_ticks : Cond.code yX5_ticks cX5_ticks 2 (some .int) ∈ BG := bg_t 406 (by decide +kernel) rfl
theorem bi_X5_ticks : Cond.instanceMethod yX5_ticks ∈ BG := bg_t 404 (by decide +kernel) rfl
theorem bx_X5_ticks : Cond.selects yX5_ticks.cls yX5_ticks yX5_ticks ∈ BG := bg_t 405 (by decide +kernel) rfl
theorem bc_X5_trueUp : Cond.code yX5_trueUp cX5_trueUp 2 (some .int) ∈ BG := bg_t 389 (by decide +kernel) rfl
theorem bi_X5_trueUp : Cond.instanceMethod yX5_trueUp ∈ BG := bg_t 387 (by decide +kernel) rfl
theorem bx_X5_trueUp : Cond.selects yX5_trueUp.cls yX5_trueUp yX5_trueUp ∈ BG := bg_t 388 (by decide +kernel) rfl
theorem bc_X5_tryOrders : Cond.code yX5_tryOrders cX5_tryOrders 5 (some .int) ∈ BG := bg_t 662 (by decide +kernel) rfl
theorem bi_X5_tryOrders : Cond.instanceMethod yX5_tryOrders ∈ BG := bg_t 661 (by decide +kernel) rfl
theorem bx_X5_tryOrders : Cond.selects yX5_tryOrders.cls yX5_tryOrders yX5_tryOrders ∈ BG := bg_p (q := (yX5_tryOrders, 8)) 15 (by decide +kernel)
theorem bc_X5_type : Cond.code yX5_type cX5_type 2 (some .int) ∈ BG := bg_t 645 (by decide +kernel) rfl
theorem bi_X5_type : Cond.instanceMethod yX5_type ∈ BG := bg_t 643 (by decide +kernel) rfl
theorem bx_X5_type : Cond.selects yX5_type.cls yX5_type yX5_type ∈ BG := bg_t 644 (by decide +kernel) rfl
theorem bc_X5_undo : Cond.code yX5_undo cX5_undo 1 (some .int) ∈ BG := bg_t 641 (by decide +kernel) rfl
theorem bi_X5_undo : Cond.instanceMethod yX5_undo ∈ BG := bg_t 639 (by decide +kernel) rfl
theorem bx_X5_undo : Cond.selects yX5_undo.cls yX5_undo yX5_undo ∈ BG := bg_t 640 (by decide +kernel) rfl
theorem bc_X5_water : Cond.code yX5_water cX5_water 2 (some .int) ∈ BG := bg_t 542 (by decide +kernel) rfl
theorem bi_X5_water : Cond.instanceMethod yX5_water ∈ BG := bg_t 540 (by decide +kernel) rfl
theorem bx_X5_water : Cond.selects yX5_water.cls yX5_water yX5_water ∈ BG := bg_t 541 (by decide +kernel) rfl
theorem bc_X5_wax : Cond.code yX5_wax cX5_wax 3 (some .int) ∈ BG := bg_t 365 (by decide +kernel) rfl
theorem bi_X5_wax : Cond.instanceMethod yX5_wax ∈ BG := bg_t 363 (by decide +kernel) rfl
theorem bx_X5_wax : Cond.selects yX5_wax.cls yX5_wax yX5_wax ∈ BG := bg_t 364 (by decide +kernel) rfl
theorem bc_X5_why : Cond.code yX5_why cX5_why 4 (some .int) ∈ BG := bg_t 574 (by decide +kernel) rfl
theorem bi_X5_why : Cond.instanceMethod yX5_why ∈ BG := bg_t 572 (by decide +kernel) rfl
theorem bx_X5_why : Cond.selects yX5_why.cls yX5_why yX5_why ∈ BG := bg_t 573 (by decide +kernel) rfl
theorem bc_X5_worst : Cond.code yX5_worst cX5_worst 3 (some .int) ∈ BG := bg_t 603 (by decide +kernel) rfl
theorem bi_X5_worst : Cond.instanceMethod yX5_worst ∈ BG := bg_t 601 (by decide +kernel) rfl
theorem bx_X5_worst : Cond.selects yX5_worst.cls yX5_worst yX5_worst ∈ BG := bg_t 602 (by decide +kernel) rfl
theorem bc_X6_add : Cond.code yX6_add cX6_add 4 none ∈ BG := bg_t 835 (by decide +kernel) rfl
theorem bi_X6_add : Cond.instanceMethod yX6_add ∈ BG := bg_t 834 (by decide +kernel) rfl
theorem bx_X6_add : Cond.selects yX6_add.cls yX6_add yX6_add ∈ BG := bg_p (q := (yX6_add, 15)) 32 (by decide +kernel)
theorem bc_X6_back : Cond.code yX6_back cX6_back 3 (some .int) ∈ BG := bg_t 958 (by decide +kernel) rfl
theorem bi_X6_back : Cond.instanceMethod yX6_back ∈ BG := bg_t 956 (by decide +kernel) rfl
theorem bx_X6_back : Cond.selects yX6_back.cls yX6_back yX6_back ∈ BG := bg_t 957 (by decide +kernel) rfl
theorem bc_X6_bestWax : Cond.code yX6_bestWax cX6_bestWax 4 (some .int) ∈ BG := bg_t 1015 (by decide +kernel) rfl
theorem bi_X6_bestWax : Cond.instanceMethod yX6_bestWax ∈ BG := bg_t 1013 (by decide +kernel) rfl
theorem bx_X6_bestWax : Cond.selects yX6_bestWax.cls yX6_bestWax yX6_bestWax ∈ BG := bg_t 1014 (by decide +kernel) rfl
theorem bc_X6_book : Cond.code yX6_book cX6_book 2 none ∈ BG := bg_t 931 (by decide +kernel) rfl
theorem bi_X6_book : Cond.instanceMethod yX6_book ∈ BG := bg_t 930 (by decide +kernel) rfl
theorem bx_X6_book : Cond.selects yX6_book.cls yX6_book yX6_book ∈ BG := bg_p (q := (yX6_book, 15)) 51 (by decide +kernel)
theorem bc_X6_clearText : Cond.code yX6_clearText cX6_clearText 2 (some .int) ∈ BG := bg_t 1065 (by decide +kernel) rfl
theorem bi_X6_clearText : Cond.instanceMethod yX6_clearText ∈ BG := bg_t 1063 (by decide +kernel) rfl
theorem bx_X6_clearText : Cond.selects yX6_clearText.cls yX6_clearText yX6_clearText ∈ BG := bg_t 1064 (by decide +kernel) rfl
theorem bc_X6_clock : Cond.code yX6_clock cX6_clock 4 (some .int) ∈ BG := bg_t 763 (by decide +kernel) rfl
theorem bi_X6_clock : Cond.instanceMethod yX6_clock ∈ BG := bg_t 761 (by decide +kernel) rfl
theorem bx_X6_clock : Cond.selects yX6_clock.cls yX6_clock yX6_clock ∈ BG := bg_t 762 (by decide +kernel) rfl
theorem bc_X6_clockNow : Cond.code yX6_clockNow cX6_clockNow 6 (some .int) ∈ BG := bg_t 771 (by decide +kernel) rfl
theorem bi_X6_clockNow : Cond.instanceMethod yX6_clockNow ∈ BG := bg_t 770 (by decide +kernel) rfl
theorem bx_X6_clockNow : Cond.selects yX6_clockNow.cls yX6_clockNow yX6_clockNow ∈ BG := bg_p (q := (yX6_clockNow, 15)) 21 (by decide +kernel)
theorem bc_X6_clockOf : Cond.code yX6_clockOf cX6_clockOf 3 (some .int) ∈ BG := bg_t 966 (by decide +kernel) rfl
theorem bi_X6_clockOf : Cond.instanceMethod yX6_clockOf ∈ BG := bg_t 964 (by decide +kernel) rfl
theorem bx_X6_clockOf : Cond.selects yX6_clockOf.cls yX6_clockOf yX6_clockOf ∈ BG := bg_t 965 (by decide +kernel) rfl
theorem bc_X6_clocksEmpty : Cond.code yX6_clocksEmpty cX6_clocksEmpty 3 (some .int) ∈ BG := bg_t 1057 (by decide +kernel) rfl
theorem bi_X6_clocksEmpty : Cond.instanceMethod yX6_clocksEmpty ∈ BG := bg_t 1056 (by decide +kernel) rfl
theorem bx_X6_clocksEmpty : Cond.selects yX6_clocksEmpty.cls yX6_clocksEmpty yX6_clocksEmpty ∈ BG := bg_p (q := (yX6_clocksEmpty, 15)) 64 (by decide +kernel)
theorem bc_X6_clocksOff : Cond.code yX6_clocksOff cX6_clocksOff 3 (some .int) ∈ BG := bg_t 1053 (by decide +kernel) rfl
theorem bi_X6_clocksOff : Cond.instanceMethod yX6_clocksOff ∈ BG := bg_t 1052 (by decide +kernel) rfl
theorem bx_X6_clocksOff : Cond.selects yX6_clocksOff.cls yX6_clocksOff yX6_clocksOff ∈ BG := bg_p (q := (yX6_clocksOff, 15)) 63 (by decide +kernel)
theorem bc_X6_count : Cond.code yX6_count cX6_count 2 (some .int) ∈ BG := bg_t 1045 (by decide +kernel) rfl
theorem bi_X6_count : Cond.instanceMethod yX6_count ∈ BG := bg_t 1043 (by decide +kernel) rfl
theorem bx_X6_count : Cond.selects yX6_count.cls yX6_count yX6_count ∈ BG := bg_t 1044 (by decide +kernel) rfl
theorem bc_X6_doOrder : Cond.code yX6_doOrder cX6_doOrder 2 (some .int) ∈ BG := bg_t 1096 (by decide +kernel) rfl
theorem bi_X6_doOrder : Cond.instanceMethod yX6_doOrder ∈ BG := bg_t 1095 (by decide +kernel) rfl
theorem bx_X6_doOrder : Cond.selects yX6_doOrder.cls yX6_doOrder yX6_doOrder ∈ BG := bg_p (q := (yX6_doOrder, 15)) 70 (by decide +kernel)
theorem bc_X6_doOrders : Cond.code yX6_doOrders cX6_doOrders 5 none ∈ BG := bg_t 1073 (by decide +kernel) rfl
theorem bi_X6_doOrders : Cond.instanceMethod yX6_doOrders ∈ BG := bg_t 1072 (by decide +kernel) rfl
theorem bx_X6_doOrders : Cond.selects yX6_doOrders.cls yX6_doOrders yX6_doOrders ∈ BG := bg_p (q := (yX6_doOrders, 15)) 65 (by decide +kernel)
theorem bc_X6_drip : Cond.code yX6_drip cX6_drip 3 (some .int) ∈ BG := bg_t 899 (by decide +kernel) rfl
theorem bi_X6_drip : Cond.instanceMethod yX6_drip ∈ BG := bg_t 898 (by decide +kernel) rfl
theorem bx_X6_drip : Cond.selects yX6_drip.cls yX6_drip yX6_drip ∈ BG := bg_p (q := (yX6_drip, 15)) 43 (by decide +kernel)
theorem bc_X6_dripOf : Cond.code yX6_dripOf cX6_dripOf 3 (some .int) ∈ BG := bg_t 903 (by decide +kernel) rfl
theorem bi_X6_dripOf : Cond.instanceMethod yX6_dripOf ∈ BG := bg_t 902 (by decide +kernel) rfl
theorem bx_X6_dripOf : Cond.selects yX6_dripOf.cls yX6_dripOf yX6_dripOf ∈ BG := bg_p (q := (yX6_dripOf, 15)) 44 (by decide +kernel)
theorem bc_X6_drops : Cond.code yX6_drops cX6_drops 3 (some .int) ∈ BG := bg_t 792 (by decide +kernel) rfl
theorem bi_X6_drops : Cond.instanceMethod yX6_drops ∈ BG := bg_t 791 (by decide +kernel) rfl
theorem bx_X6_drops : Cond.selects yX6_drops.cls yX6_drops yX6_drops ∈ BG := bg_p (q := (yX6_drops, 15)) 25 (by decide +kernel)
theorem bc_X6_emptyIn : Cond.code yX6_emptyIn cX6_emptyIn 4 (some .int) ∈ BG := bg_t 995 (by decide +kernel) rfl
theorem bi_X6_emptyIn : Cond.instanceMethod yX6_emptyIn ∈ BG := bg_t 993 (by decide +kernel) rfl
theorem bx_X6_emptyIn : Cond.selects yX6_emptyIn.cls yX6_emptyIn yX6_emptyIn ∈ BG := bg_t 994 (by decide +kernel) rfl
theorem bc_X6_error : Cond.code yX6_error cX6_error 2 (some .int) ∈ BG := bg_t 871 (by decide +kernel) rfl
theorem bi_X6_error : Cond.instanceMethod yX6_error ∈ BG := bg_t 870 (by decide +kernel) rfl
theorem bx_X6_error : Cond.selects yX6_error.cls yX6_error yX6_error ∈ BG := bg_p (q := (yX6_error, 15)) 38 (by decide +kernel)
theorem bc_X6_errorAtNoon : Cond.code yX6_errorAtNoon cX6_errorAtNoon 5 (some .int) ∈ BG := bg_t 1011 (by decide +kernel) rfl
theorem bi_X6_errorAtNoon : Cond.instanceMethod yX6_errorAtNoon ∈ BG := bg_t 1010 (by decide +kernel) rfl
theorem bx_X6_errorAtNoon : Cond.selects yX6_errorAtNoon.cls yX6_errorAtNoon yX6_errorAtNoon ∈ BG := bg_p (q := (yX6_errorAtNoon, 15)) 59 (by decide +kernel)
theorem bc_X6_fault : Cond.code yX6_fault cX6_fault 2 (some .int) ∈ BG := bg_t 1069 (by decide +kernel) rfl
theorem bi_X6_fault : Cond.instanceMethod yX6_fault ∈ BG := bg_t 1067 (by decide +kernel) rfl
theorem bx_X6_fault : Cond.selects yX6_fault.cls yX6_fault yX6_fault ∈ BG := bg_t 1068 (by decide +kernel) rfl
theorem bc_X6_fill : Cond.code yX6_fill cX6_fill 5 (some .int) ∈ BG := bg_t 839 (by decide +kernel) rfl
theorem bi_X6_fill : Cond.instanceMethod yX6_fill ∈ BG := bg_t 838 (by decide +kernel) rfl
theorem bx_X6_fill : Cond.selects yX6_fill.cls yX6_fill yX6_fill ∈ BG := bg_p (q := (yX6_fill, 15)) 33 (by decide +kernel)
theorem bc_X6_floor : Cond.code yX6_floor cX6_floor 3 (some .int) ∈ BG := bg_t 878 (by decide +kernel) rfl
theorem bi_X6_floor : Cond.static yX6_floor ∈ BG := bg_t 877 (by decide +kernel) rfl
theorem bc_X6_goOn : Cond.code yX6_goOn cX6_goOn 4 none ∈ BG := bg_t 907 (by decide +kernel) rfl
theorem bi_X6_goOn : Cond.instanceMethod yX6_goOn ∈ BG := bg_t 906 (by decide +kernel) rfl
theorem bx_X6_goOn : Cond.selects yX6_goOn.cls yX6_goOn yX6_goOn ∈ BG := bg_p (q := (yX6_goOn, 15)) 45 (by decide +kernel)
theorem bc_X6_hour : Cond.code yX6_hour cX6_hour 3 (some .int) ∈ BG := bg_t 975 (by decide +kernel) rfl
theorem bi_X6_hour : Cond.instanceMethod yX6_hour ∈ BG := bg_t 973 (by decide +kernel) rfl
theorem bx_X6_hour : Cond.selects yX6_hour.cls yX6_hour yX6_hour ∈ BG := bg_t 974 (by decide +kernel) rfl
theorem bc_X6_hourOf : Cond.code yX6_hourOf cX6_hourOf 2 (some .int) ∈ BG := bg_t 875 (by decide +kernel) rfl
theorem bi_X6_hourOf : Cond.instanceMethod yX6_hourOf ∈ BG := bg_t 874 (by decide +kernel) rfl
theorem bx_X6_hourOf : Cond.selects yX6_hourOf.cls yX6_hourOf yX6_hourOf ∈ BG := bg_p (q := (yX6_hourOf, 15)) 39 (by decide +kernel)
theorem bc_X6_in : Cond.code yX6_in cX6_in 3 (some .boolean) ∈ BG := bg_t 774 (by decide +kernel) rfl
theorem bi_X6_in : Cond.static yX6_in ∈ BG := bg_t 773 (by decide +kernel) rfl
theorem bc_X6_init : Cond.code yX6_init cX6_init 1 none ∈ BG := bg_t 712 (by decide +kernel) rfl
theorem bi_X6_init : Cond.instanceMethod yX6_init ∈ BG := bg_t 711 (by decide +kernel) rfl
theorem bc_X6_isAt : Cond.code yX6_isAt cX6_isAt 3 (some .boolean) ∈ BG := bg_t 1088 (by decide +kernel) rfl
theorem bi_X6_isAt : Cond.instanceMethod yX6_isAt ∈ BG := bg_t 1087 (by decide +kernel) rfl
theorem bx_X6_isAt : Cond.selects yX6_isAt.cls yX6_isAt yX6_isAt ∈ BG := bg_p (q := (yX6_isAt, 15)) 68 (by decide +kernel)
theorem bc_X6_isClock : Cond.code yX6_isClock cX6_isClock 2 (some .boolean) ∈ BG := bg_t 815 (by decide +kernel) rfl
theorem bi_X6_isClock : Cond.instanceMethod yX6_isClock ∈ BG := bg_t 814 (by decide +kernel) rfl
theorem bx_X6_isClock : Cond.selects yX6_isClock.cls yX6_isClock yX6_isClock ∈ BG := bg_p (q := (yX6_isClock, 15)) 29 (by decide +kernel)
theorem bc_X6_isError : Cond.code yX6_isError cX6_isError 1 (some .boolean) ∈ BG := bg_t 803 (by decide +kernel) rfl
theorem bi_X6_isError : Cond.static yX6_isError ∈ BG := bg_t 802 (by decide +kernel) rfl
theorem bc_X6_isNoon : Cond.code yX6_isNoon cX6_isNoon 1 (some .boolean) ∈ BG := bg_t 923 (by decide +kernel) rfl
theorem bi_X6_isNoon : Cond.instanceMethod yX6_isNoon ∈ BG := bg_t 922 (by decide +kernel) rfl
theorem bx_X6_isNoon : Cond.selects yX6_isNoon.cls yX6_isNoon yX6_isNoon ∈ BG := bg_p (q := (yX6_isNoon, 15)) 49 (by decide +kernel)
theorem bc_X6_isOff : Cond.code yX6_isOff cX6_isOff 2 (some .boolean) ∈ BG := bg_t 935 (by decide +kernel) rfl
theorem bi_X6_isOff : Cond.instanceMethod yX6_isOff ∈ BG := bg_t 934 (by decide +kernel) rfl
theorem bx_X6_isOff : Cond.selects yX6_isOff.cls yX6_isOff yX6_isOff ∈ BG := bg_p (q := (yX6_isOff, 15)) 52 (by decide +kernel)
theorem bc_X6_jug : Cond.code yX6_jug cX6_jug 1 (some .int) ∈ BG := bg_t 831 (by decide +kernel) rfl
theorem bi_X6_jug : Cond.static yX6_jug ∈ BG := bg_t 830 (by decide +kernel) rfl
theorem bc_X6_keep : Cond.code yX6_keep cX6_keep 3 (some .int) ∈ BG := bg_t 954 (by decide +kernel) rfl
theorem bi_X6_keep : Cond.instanceMethod yX6_keep ∈ BG := bg_t 952 (by decide +kernel) rfl
theorem bx_X6_keep : Cond.selects yX6_keep.cls yX6_keep yX6_keep ∈ BG := bg_t 953 (by decide +kernel) rfl
theorem bc_X6_lay : Cond.code yX6_lay cX6_lay 2 none ∈ BG := bg_t 784 (by decide +kernel) rfl
theorem bi_X6_lay : Cond.instanceMethod yX6_lay ∈ BG := bg_t 783 (by decide +kernel) rfl
theorem bx_X6_lay : Cond.selects yX6_lay.cls yX6_lay yX6_lay ∈ BG := bg_p (q := (yX6_lay, 15)) 23 (by decide +kernel)
theorem bc_X6_lead : Cond.code yX6_lead cX6_lead 3 (some .int) ∈ BG := bg_t 807 (by decide +kernel) rfl
theorem bi_X6_lead : Cond.instanceMethod yX6_lead ∈ BG := bg_t 805 (by decide +kernel) rfl
theorem bx_X6_lead : Cond.selects yX6_lead.cls yX6_lead yX6_lead ∈ BG := bg_t 806 (by decide +kernel) rfl
theorem bc_X6_leadNow : Cond.code yX6_leadNow cX6_leadNow 4 (some .int) ∈ BG := bg_t 811 (by decide +kernel) rfl
theorem bi_X6_leadNow : Cond.instanceMethod yX6_leadNow ∈ BG := bg_t 810 (by decide +kernel) rfl
theorem bx_X6_leadNow : Cond.selects yX6_leadNow.cls yX6_leadNow yX6_leadNow ∈ BG := bg_p (q := (yX6_leadNow, 15)) 28 (by decide +kernel)
theorem bc_X6_makeTrue : Cond.code yX6_makeTrue cX6_makeTrue 2 none ∈ BG := bg_t 859 (by decide +kernel) rfl
theorem bi_X6_makeTrue : Cond.instanceMethod yX6_makeTrue ∈ BG := bg_t 858 (by decide +kernel) rfl
theorem bx_X6_makeTrue : Cond.selects yX6_makeTrue.cls yX6_makeTrue yX6_makeTrue ∈ BG := bg_p (q := (yX6_makeTrue, 15)) 36 (by decide +kernel)
theorem bc_X6_maySet : Cond.code yX6_maySet cX6_maySet 2 (some .boolean) ∈ BG := bg_t 950 (by decide +kernel) rfl
theorem bi_X6_maySet : Cond.static yX6_maySet ∈ BG := bg_t 949 (by decide +kernel) rfl
theorem bc_X6_mean : Cond.code yX6_mean cX6_mean 3 (some .int) ∈ BG := bg_t 1031 (by decide +kernel) rfl
theorem bi_X6_mean : Cond.instanceMethod yX6_mean ∈ BG := bg_t 1029 (by decide +kernel) rfl
theorem bx_X6_mean : Cond.selects yX6_mean.cls yX6_mean yX6_mean ∈ BG := bg_t 1030 (by decide +kernel) rfl
theorem bc_X6_noon : Cond.code yX6_noon cX6_noon 3 none ∈ BG := bg_t 927 (by decide +kernel) rfl
theorem bi_X6_noon : Cond.instanceMethod yX6_noon ∈ BG := bg_t 926 (by decide +kernel) rfl
theorem bx_X6_noon : Cond.selects yX6_noon.cls yX6_noon yX6_noon ∈ BG := bg_p (q := (yX6_noon, 15)) 50 (by decide +kernel)
theorem bc_X6_noonError : Cond.code yX6_noonError cX6_noonError 2 (some .int) ∈ BG := bg_t 1007 (by decide +kernel) rfl
theorem bi_X6_noonError : Cond.instanceMethod yX6_noonError ∈ BG := bg_t 1005 (by decide +kernel) rfl
theorem bx_X6_noonError : Cond.selects yX6_noonError.cls yX6_noonError yX6_noonError ∈ BG := bg_t 1006 (by decide +kernel) rfl
theorem bc_X6_noon_ : Cond.code yX6_noon_ cX6_noon_ 3 (some .int) ∈ BG := bg_t 987 (by decide +kernel) rfl
theorem bi_X6_noon_ : Cond.instanceMethod yX6_noon_ ∈ BG := bg_t 985 (by decide +kernel) rfl
theorem bx_X6_noon_ : Cond.selects yX6_noon_.cls yX6_noon_ yX6_noon_ ∈ BG := bg_t 986 (by decide +kernel) rfl
theorem bc_X6_note : Cond.code yX6_note cX6_note 2 none ∈ BG := bg_t 767 (by decide +kernel) rfl
theorem bi_X6_note : Cond.instanceMethod yX6_note ∈ BG := bg_t 766 (by decide +kernel) rfl
theorem bx_X6_note : Cond.selects yX6_note.cls yX6_note yX6_note ∈ BG := bg_p (q := (yX6_note, 15)) 20 (by decide +kernel)
theorem bc_X6_number : Cond.code yX6_number cX6_number 2 (some .int) ∈ BG := bg_t 1049 (by decide +kernel) rfl
theorem bi_X6_number : Cond.instanceMethod yX6_number ∈ BG := bg_t 1048 (by decide +kernel) rfl
theorem bx_X6_number : Cond.selects yX6_number.cls yX6_number yX6_number ∈ BG := bg_p (q := (yX6_number, 15)) 62 (by decide +kernel)
theorem bc_X6_numbersOf : Cond.code yX6_numbersOf cX6_numbersOf 1 (some .int) ∈ BG := bg_t 1080 (by decide +kernel) rfl
theorem bi_X6_numbersOf : Cond.static yX6_numbersOf ∈ BG := bg_t 1079 (by decide +kernel) rfl
theorem bc_X6_of : Cond.code yX6_of cX6_of 3 (some .int) ∈ BG := bg_t 796 (by decide +kernel) rfl
theorem bi_X6_of : Cond.instanceMethod yX6_of ∈ BG := bg_t 795 (by decide +kernel) rfl
theorem bx_X6_of : Cond.selects yX6_of.cls yX6_of yX6_of ∈ BG := bg_p (q := (yX6_of, 15)) 26 (by decide +kernel)
theorem bc_X6_pass : Cond.code yX6_pass cX6_pass 3 (some .int) ∈ BG := bg_t 895 (by decide +kernel) rfl
theorem bi_X6_pass : Cond.instanceMethod yX6_pass ∈ BG := bg_t 894 (by decide +kernel) rfl
theorem bx_X6_pass : Cond.selects yX6_pass.cls yX6_pass yX6_pass ∈ BG := bg_p (q := (yX6_pass, 15)) 42 (by decide +kernel)
theorem bc_X6_pitch : Cond.code yX6_pitch cX6_pitch 3 (some .int) ∈ BG := bg_t 851 (by decide +kernel) rfl
theorem bi_X6_pitch : Cond.instanceMethod yX6_pitch ∈ BG := bg_t 849 (by decide +kernel) rfl
theorem bx_X6_pitch : Cond.selects yX6_pitch.cls yX6_pitch yX6_pitch ∈ BG := bg_t 850 (by decide +kernel) rfl
theorem bc_X6_pitchNow : Cond.code yX6_pitchNow cX6_pitchNow 4 (some .int) ∈ BG := bg_t 855 (by decide +kernel) rfl
theorem bi_X6_pitchNow : Cond.instanceMethod yX6_pitchNow ∈ BG := bg_t 854 (by decide +kernel) rfl
theorem bx_X6_pitchNow : Cond.selects yX6_pitchNow.cls yX6_pitchNow yX6_pitchNow ∈ BG := bg_p (q := (yX6_pitchNow, 15)) 35 (by decide +kernel)
theorem bc_X6_play : Cond.code yX6_play cX6_play 2 (some .int) ∈ BG := bg_t 1100 (by decide +kernel) rfl
theorem bi_X6_play : Cond.instanceMethod yX6_play ∈ BG := bg_t 1098 (by decide +kernel) rfl
theorem bx_X6_play : Cond.selects yX6_play.cls yX6_play yX6_play ∈ BG := bg_t 1099 (by decide +kernel) rfl
theorem bc_X6_pour : Cond.code yX6_pour cX6_pour 3 (some .int) ∈ BG := bg_t 820 (by decide +kernel) rfl
theorem bi_X6_pour : Cond.instanceMethod yX6_pour ∈ BG := bg_t 818 (by decide +kernel) rfl
theorem bx_X6_pour : Cond.selects yX6_pour.cls yX6_pour yX6_pour ∈ BG := bg_t 819 (by decide +kernel) rfl
theorem bc_X6_pourNow : Cond.code yX6_pourNow cX6_pourNow 3 (some .int) ∈ BG := bg_t 824 (by decide +kernel) rfl
theorem bi_X6_pourNow : Cond.instanceMethod yX6_pourNow ∈ BG := bg_t 823 (by decide +kernel) rfl
theorem bx_X6_pourNow : Cond.selects yX6_pourNow.cls yX6_pourNow yX6_pourNow ∈ BG := bg_p (q := (yX6_pourNow, 15)) 30 (by decide +kernel)
theorem bc_X6_property : Cond.code yX6_property cX6_property 4 (some .int) ∈ BG := bg_t 970 (by decide +kernel) rfl
theorem bi_X6_property : Cond.instanceMethod yX6_property ∈ BG := bg_t 969 (by decide +kernel) rfl
theorem bx_X6_property : Cond.selects yX6_property.cls yX6_property yX6_property ∈ BG := bg_p (q := (yX6_property, 15)) 55 (by decide +kernel)
theorem bc_X6_put : Cond.code yX6_put cX6_put 4 none ∈ BG := bg_t 780 (by decide +kernel) rfl
theorem bi_X6_put : Cond.instanceMethod yX6_put ∈ BG := bg_t 779 (by decide +kernel) rfl
theorem bx_X6_put : Cond.selects yX6_put.cls yX6_put yX6_put ∈ BG := bg_p (q := (yX6_put, 15)) 22 (by decide +kernel)
theorem bc_X6_putAside : Cond.code yX6_putAside cX6_putAside 2 none ∈ BG := bg_t 999 (by decide +kernel) rfl
theorem bi_X6_putAside : Cond.instanceMethod yX6_putAside ∈ BG := bg_t 998 (by decide +kernel) rfl
theorem bx_X6_putAside : Cond.selects yX6_putAside.cls yX6_putAside yX6_putAside ∈ BG := bg_p (q := (yX6_putAside, 15)) 57 (by decide +kernel)
theorem bc_X6_putBack : Cond.code yX6_putBack cX6_putBack 2 none ∈ BG := bg_t 1003 (by decide +kernel) rfl
theorem bi_X6_putBack : Cond.instanceMethod yX6_putBack ∈ BG := bg_t 1002 (by decide +kernel) rfl
theorem bx_X6_putBack : Cond.selects yX6_putBack.cls yX6_putBack yX6_putBack ∈ BG := bg_p (q := (yX6_putBack, 15)) 58 (by decide +kernel)
theorem bc_X6_rankOf : Cond.code yX6_rankOf cX6_rankOf 5 (some .int) ∈ BG := bg_t 1027 (by decide +kernel) rfl
theorem bi_X6_rankOf : Cond.instanceMethod yX6_rankOf ∈ BG := bg_t 1026 (by decide +kernel) rfl
theorem bx_X6_rankOf : Cond.selects yX6_rankOf.cls yX6_rankOf yX6_rankOf ∈ BG := bg_p (q := (yX6_rankOf, 15)) 61 (by decide +kernel)
theorem bc_X6_readNumber : Cond.code yX6_readNumber cX6_readNumber 3 (some .boolean) ∈ BG := bg_t 1084 (by decide +kernel) rfl
theorem bi_X6_readNumber : Cond.instanceMethod yX6_readNumber ∈ BG := bg_t 1083 (by decide +kernel) rfl
theorem bx_X6_readNumber : Cond.selects yX6_readNumber.cls yX6_readNumber yX6_readNumber ∈ BG := bg_p (q := (yX6_readNumber, 15)) 67 (by decide +kernel)
theorem bc_X6_readOrder : Cond.code yX6_readOrder cX6_readOrder 4 (some .boolean) ∈ BG := bg_t 1077 (by decide +kernel) rfl
theorem bi_X6_readOrder : Cond.instanceMethod yX6_readOrder ∈ BG := bg_t 1076 (by decide +kernel) rfl
theorem bx_X6_readOrder : Cond.selects yX6_readOrder.cls yX6_readOrder yX6_readOrder ∈ BG := bg_p (q := (yX6_readOrder, 15)) 66 (by decide +kernel)
theorem bc_X6_readSign : Cond.code yX6_readSign cX6_readSign 3 (some .boolean) ∈ BG := bg_t 1092 (by decide +kernel) rfl
theorem bi_X6_readSign : Cond.instanceMethod yX6_readSign ∈ BG := bg_t 1091 (by decide +kernel) rfl
theorem bx_X6_readSign : Cond.selects yX6_readSign.cls yX6_readSign yX6_readSign ∈ BG := bg_p (q := (yX6_readSign, 15)) 69 (by decide +kernel)
theorem bc_X6_reason : Cond.code yX6_reason cX6_reason 3 (some .int) ∈ BG := bg_t 828 (by decide +kernel) rfl
theorem bi_X6_reason : Cond.instanceMethod yX6_reason ∈ BG := bg_t 827 (by decide +kernel) rfl
theorem bx_X6_reason : Cond.selects yX6_reason.cls yX6_reason yX6_reason ∈ BG := bg_p (q := (yX6_reason, 15)) 31 (by decide +kernel)
theorem bc_X6_recorded : Cond.code yX6_recorded cX6_recorded 3 (some .int) ∈ BG := bg_t 800 (by decide +kernel) rfl
theorem bi_X6_recorded : Cond.instanceMethod yX6_recorded ∈ BG := bg_t 799 (by decide +kernel) rfl
theorem bx_X6_recorded : Cond.selects yX6_recorded.cls yX6_recorded yX6_recorded ∈ BG := bg_p (q := (yX6_recorded, 15)) 27 (by decide +kernel)
theorem bc_X6_rise : Cond.code yX6_rise cX6_rise 5 none ∈ BG := bg_t 911 (by decide +kernel) rfl
theorem bi_X6_rise : Cond.instanceMethod yX6_rise ∈ BG := bg_t 910 (by decide +kernel) rfl
theorem bx_X6_rise : Cond.selects yX6_rise.cls yX6_rise yX6_rise ∈ BG := bg_p (q := (yX6_rise, 15)) 46 (by decide +kernel)
theorem bc_X6_set : Cond.code yX6_set cX6_set 3 (some .int) ∈ BG := bg_t 943 (by decide +kernel) rfl
theorem bi_X6_set : Cond.instanceMethod yX6_set ∈ BG := bg_t 941 (by decide +kernel) rfl
theorem bx_X6_set : Cond.selects yX6_set.cls yX6_set yX6_set ∈ BG := bg_t 942 (by decide +kernel) rfl
theorem bc_X6_setNow : Cond.code yX6_setNow cX6_setNow 4 (some .int) ∈ BG := bg_t 947 (by decide +kernel) rfl
theorem bi_X6_setNow : Cond.instanceMethod yX6_setNow ∈ BG := bg_t 946 (by decide +kernel) rfl
theorem bx_X6_setNow : Cond.selects yX6_setNow.cls yX6_setNow yX6_setNow ∈ BG := bg_p (q := (yX6_setNow, 15)) 54 (by decide +kernel)
theorem bc_X6_size : Cond.code yX6_size cX6_size 2 (some .int) ∈ BG := bg_t 939 (by decide +kernel) rfl
theorem bi_X6_size : Cond.instanceMethod yX6_size ∈ BG := bg_t 938 (by decide +kernel) rfl
theorem bx_X6_size : Cond.selects yX6_size.cls yX6_size yX6_size ∈ BG := bg_p (q := (yX6_size, 15)) 53 (by decide +kernel)
theorem bc_X6_stroke : Cond.code yX6_stroke cX6_stroke 3 none ∈ BG := bg_t 915 (by decide +kernel) rfl
theorem bi_X6_stroke : Cond.instanceMethod yX6_stroke ∈ BG := bg_t 914 (by decide +kernel) rfl
theorem bx_X6_stroke : Cond.selects yX6_stroke.cls yX6_stroke yX6_stroke ∈ BG := bg_p (q := (yX6_stroke, 15)) 47 (by decide +kernel)
theorem bc_X6_sum : Cond.code yX6_sum cX6_sum 4 (some .int) ∈ BG := bg_t 983 (by decide +kernel) rfl
theorem bi_X6_sum : Cond.instanceMethod yX6_sum ∈ BG := bg_t 982 (by decide +kernel) rfl
theorem bx_X6_sum : Cond.selects yX6_sum.cls yX6_sum yX6_sum ∈ BG := bg_p (q := (yX6_sum, 15)) 56 (by decide +kernel)
theorem bc_X6_tick : Cond.code yX6_tick cX6_tick 2 (some .int) ∈ BG := bg_t 891 (by decide +kernel) rfl
theorem bi_X6_tick : Cond.instanceMethod yX6_tick ∈ BG := bg_t 890 (by decide +kernel) rfl
theorem bx_X6_tick : Cond.selects yX6_tick.cls yX6_tick yX6_tick ∈ BG := bg_p (q := (yX6_tick, 15)) 41 (by decide +kernel)
theorem bc_X6_ticks : Cond.code yX6_ticks cX6_ticks 2 (some .int) ∈ BG := bg_t 882 (by decide +kernel) rfl
theorem bi_X6_ticks : Cond.instanceMethod yX6_ticks ∈ BG := bg_t 880 (by decide +kernel) rfl
theorem bx_X6_ticks : Cond.selects yX6_ticks.cls yX6_ticks yX6_ticks ∈ BG := bg_t 881 (by decide +kernel) rfl
theorem bc_X6_ticksNow : Cond.code yX6_ticksNow cX6_ticksNow 4 (some .int) ∈ BG := bg_t 886 (by decide +kernel) rfl
theorem bi_X6_ticksNow : Cond.instanceMethod yX6_ticksNow ∈ BG := bg_t 885 (by decide +kernel) rfl
theorem bx_X6_ticksNow : Cond.selects yX6_ticksNow.cls yX6_ticksNow yX6_ticksNow ∈ BG := bg_p (q := (yX6_ticksNow, 15)) 40 (by decide +kernel)
theorem bc_X6_trueHour : Cond.code yX6_trueHour cX6_trueHour 1 (some .int) ∈ BG := bg_t 788 (by decide +kernel) rfl
theorem bi_X6_trueHour : Cond.instanceMethod yX6_trueHour ∈ BG := bg_t 787 (by decide +kernel) rfl
theorem bx_X6_trueHour : Cond.selects yX6_trueHour.cls yX6_trueHour yX6_trueHour ∈ BG := bg_p (q := (yX6_trueHour, 15)) 24 (by decide +kernel)
theorem bc_X6_trueNow : Cond.code yX6_trueNow cX6_trueNow 3 (some .int) ∈ BG := bg_t 867 (by decide +kernel) rfl
theorem bi_X6_trueNow : Cond.instanceMethod yX6_trueNow ∈ BG := bg_t 866 (by decide +kernel) rfl
theorem bx_X6_trueNow : Cond.selects yX6_trueNow.cls yX6_trueNow yX6_trueNow ∈ BG := bg_p (q := (yX6_trueNow, 15)) 37 (by decide +kernel)
theorem bc_X6_trueUp : Cond.code yX6_trueUp cX6_trueUp 2 (some .int) ∈ BG := bg_t 863 (by decide +kernel) rfl
theorem bi_X6_trueUp : Cond.instanceMethod yX6_trueUp ∈ BG := bg_t 861 (by decide +kernel) rfl
theorem bx_X6_trueUp : Cond.selects yX6_trueUp.cls yX6_trueUp yX6_trueUp ∈ BG := bg_t 862 (by decide +kernel) rfl
theorem bc_X6_type : Cond.code yX6_type cX6_type 2 (some .int) ∈ BG := bg_t 1061 (by decide +kernel) rfl
theorem bi_X6_type : Cond.instanceMethod yX6_type ∈ BG := bg_t 1059 (by decide +kernel) rfl
theorem bx_X6_type : Cond.selects yX6_type.cls yX6_type yX6_type ∈ BG := bg_t 1060 (by decide +kernel) rfl
theorem bc_X6_undo : Cond.code yX6_undo cX6_undo 2 (some .int) ∈ BG := bg_t 962 (by decide +kernel) rfl
theorem bi_X6_undo : Cond.instanceMethod yX6_undo ∈ BG := bg_t 960 (by decide +kernel) rfl
theorem bx_X6_undo : Cond.selects yX6_undo.cls yX6_undo yX6_undo ∈ BG := bg_t 961 (by decide +kernel) rfl
theorem bc_X6_water : Cond.code yX6_water cX6_water 2 (some .int) ∈ BG := bg_t 979 (by decide +kernel) rfl
theorem bi_X6_water : Cond.instanceMethod yX6_water ∈ BG := bg_t 977 (by decide +kernel) rfl
theorem bx_X6_water : Cond.selects yX6_water.cls yX6_water yX6_water ∈ BG := bg_t 978 (by decide +kernel) rfl
theorem bc_X6_wax : Cond.code yX6_wax cX6_wax 3 (some .int) ∈ BG := bg_t 843 (by decide +kernel) rfl
theorem bi_X6_wax : Cond.instanceMethod yX6_wax ∈ BG := bg_t 841 (by decide +kernel) rfl
theorem bx_X6_wax : Cond.selects yX6_wax.cls yX6_wax yX6_wax ∈ BG := bg_t 842 (by decide +kernel) rfl
theorem bc_X6_waxFor : Cond.code yX6_waxFor cX6_waxFor 6 (some .int) ∈ BG := bg_t 1019 (by decide +kernel) rfl
theorem bi_X6_waxFor : Cond.instanceMethod yX6_waxFor ∈ BG := bg_t 1018 (by decide +kernel) rfl
theorem bx_X6_waxFor : Cond.selects yX6_waxFor.cls yX6_waxFor yX6_waxFor ∈ BG := bg_p (q := (yX6_waxFor, 15)) 60 (by decide +kernel)
theorem bc_X6_waxNow : Cond.code yX6_waxNow cX6_waxNow 3 (some .int) ∈ BG := bg_t 847 (by decide +kernel) rfl
theorem bi_X6_waxNow : Cond.instanceMethod yX6_waxNow ∈ BG := bg_t 846 (by decide +kernel) rfl
theorem bx_X6_waxNow : Cond.selects yX6_waxNow.cls yX6_waxNow yX6_waxNow ∈ BG := bg_p (q := (yX6_waxNow, 15)) 34 (by decide +kernel)
theorem bc_X6_why : Cond.code yX6_why cX6_why 3 (some .int) ∈ BG := bg_t 991 (by decide +kernel) rfl
theorem bi_X6_why : Cond.instanceMethod yX6_why ∈ BG := bg_t 989 (by decide +kernel) rfl
theorem bx_X6_why : Cond.selects yX6_why.cls yX6_why yX6_why ∈ BG := bg_t 990 (by decide +kernel) rfl
theorem bc_X6_widen : Cond.code yX6_widen cX6_widen 3 none ∈ BG := bg_t 919 (by decide +kernel) rfl
theorem bi_X6_widen : Cond.instanceMethod yX6_widen ∈ BG := bg_t 918 (by decide +kernel) rfl
theorem bx_X6_widen : Cond.selects yX6_widen.cls yX6_widen yX6_widen ∈ BG := bg_p (q := (yX6_widen, 15)) 48 (by decide +kernel)
theorem bc_X6_worst : Cond.code yX6_worst cX6_worst 4 (some .int) ∈ BG := bg_t 1023 (by decide +kernel) rfl
theorem bi_X6_worst : Cond.instanceMethod yX6_worst ∈ BG := bg_t 1021 (by decide +kernel) rfl
theorem bx_X6_worst : Cond.selects yX6_worst.cls yX6_worst yX6_worst ∈ BG := bg_t 1022 (by decide +kernel) rfl
theorem kw_X5_9 : KW RX5 9 yX3_init cX3_init 2 none 0 := ⟨bg_t 20 (by decide +kernel) rfl, bn_X3, bc_X3_init, by decide +kernel, by decide +kernel, by decide +kernel⟩
theorem kw_X5_40 : KW RX5 40 yX3_copyFrom cX3_copyFrom 3 none 1 := ⟨bg_t 265 (by decide +kernel) rfl, bn_X3, bc_X3_copyFrom, by decide +kernel, by decide +kernel, by decide +kernel⟩
theorem kw_X5_44 : KW RX5 44 yX3_addClock cX3_addClock 4 (some .int) 3 := ⟨bg_t 284 (by decide +kernel) rfl, bn_X3, bc_X3_addClock, by decide +kernel, by decide +kernel, by decide +kernel⟩
theorem kw_X5_48 : KW RX5 48 yX5_changed cX5_changed 3 (some .int) 1 := ⟨bg_t 304 (by decide +kernel) rfl, bn_X5, bc_X5_changed, by decide +kernel, by decide +kernel, by decide +kernel⟩
theorem kw_X5_52 : KW RX5 52 yX3_leadOn cX3_leadOn 5 (some .int) 2 := ⟨bg_t 321 (by decide +kernel) rfl, bn_X3, bc_X3_leadOn, by decide +kernel, by decide +kernel, by decide +kernel⟩
theorem kw_X5_56 : KW RX5 56 yX3_pourJug cX3_pourJug 5 (some .int) 2 := ⟨bg_t 334 (by decide +kernel) rfl, bn_X3, bc_X3_pourJug, by decide +kernel, by decide +kernel, by decide +kernel⟩
theorem kw_X5_59 : KW RX5 59 yX3_narrow cX3_narrow 4 (some .int) 2 := ⟨bg_t 366 (by decide +kernel) rfl, bn_X3, bc_X3_narrow, by decide +kernel, by decide +kernel, by decide +kernel⟩
theorem kw_X5_62 : KW RX5 62 yX3_changePitch cX3_changePitch 5 (some .int) 2 := ⟨bg_t 374 (by decide +kernel) rfl, bn_X3, bc_X3_changePitch, by decide +kernel, by decide +kernel, by decide +kernel⟩
theorem kw_X5_65 : KW RX5 65 yX3_trueClock cX3_trueClock 4 (some .int) 1 := ⟨bg_t 390 (by decide +kernel) rfl, bn_X3, bc_X3_trueClock, by decide +kernel, by decide +kernel, by decide +kernel⟩
theorem kw_X5_68 : KW RX5 68 yX3_passTicks cX3_passTicks 4 (some .int) 1 := ⟨bg_t 407 (by decide +kernel) rfl, bn_X3, bc_X3_passTicks, by decide +kernel, by decide +kernel, by decide +kernel⟩
theorem kw_X5_71 : KW RX5 71 yX3_changeSetting cX3_changeSetting 4 (some .int) 2 := ⟨bg_t 486 (by decide +kernel) rfl, bn_X3, bc_X3_changeSetting, by decide +kernel, by decide +kernel, by decide +kernel⟩
theorem kw_X5_74 : KW RX5 74 yX5_isImage cX5_isImage 2 (some .boolean) 1 := ⟨bg_t 510 (by decide +kernel) rfl, bn_X5, bc_X5_isImage, by decide +kernel, by decide +kernel, by decide +kernel⟩
theorem kw_X5_84 : KW RX5 84 yX3_clockAt cX3_clockAt 2 (some (.object "LeakingClocks$Clock")) 1 := ⟨bg_t 523 (by decide +kernel) rfl, bn_X3, bc_X3_clockAt, by decide +kernel, by decide +kernel, by decide +kernel⟩
theorem kw_X5_88 : KW RX5 88 yX1_has cX1_has 2 (some .boolean) 1 := ⟨bg_t 524 (by decide +kernel) rfl, bn_X1, bc_X1_has, by decide +kernel, by decide +kernel, by decide +kernel⟩
theorem kw_X5_93 : KW RX5 93 yX1_figure cX1_figure 2 (some .int) 1 := ⟨bg_t 528 (by decide +kernel) rfl, bn_X1, bc_X1_figure, by decide +kernel, by decide +kernel, by decide +kernel⟩
theorem kw_X5_97 : KW RX5 97 yX1_hourTold cX1_hourTold 1 (some .int) 0 := ⟨bg_t 536 (by decide +kernel) rfl, bn_X1, bc_X1_hourTold, by decide +kernel, by decide +kernel, by decide +kernel⟩
theorem kw_X5_101 : KW RX5 101 yX3_errorOf cX3_errorOf 2 (some .int) 1 := ⟨bg_t 537 (by decide +kernel) rfl, bn_X3, bc_X3_errorOf, by decide +kernel, by decide +kernel, by decide +kernel⟩
theorem kw_X5_105 : KW RX5 105 yX3_trueHour cX3_trueHour 1 (some .int) 0 := ⟨bg_t 538 (by decide +kernel) rfl, bn_X3, bc_X3_trueHour, by decide +kernel, by decide +kernel, by decide +kernel⟩
theorem kw_X5_111 : KW RX5 111 yX3_together cX3_together 4 (some .int) 1 := ⟨bg_t 543 (by decide +kernel) rfl, bn_X3, bc_X3_together, by decide +kernel, by decide +kernel, by decide +kernel⟩
theorem kw_X5_120 : KW RX5 120 yX3_allWater cX3_allWater 1 (some .int) 0 := ⟨bg_t 548 (by decide +kernel) rfl, bn_X3, bc_X3_allWater, by decide +kernel, by decide +kernel, by decide +kernel⟩
theorem kw_X5_139 : KW RX5 139 yX0_has cX0_has 3 (some .boolean) 2 := ⟨bg_t 557 (by decide +kernel) rfl, bn_X0, bc_X0_has, by decide +kernel, by decide +kernel, by decide +kernel⟩
theorem kw_X5_144 : KW RX5 144 yX0_errorAt cX0_errorAt 3 (some .int) 2 := ⟨bg_t 567 (by decide +kernel) rfl, bn_X0, bc_X0_errorAt, by decide +kernel, by decide +kernel, by decide +kernel⟩
theorem kw_X5_147 : KW RX5 147 yX5_isJug cX5_isJug 1 (some .boolean) 1 := ⟨bg_t 575 (by decide +kernel) rfl, bn_X5, bc_X5_isJug, by decide +kernel, by decide +kernel, by decide +kernel⟩
theorem kw_X5_150 : KW RX5 150 yX3_whyNotPoured cX3_whyNotPoured 3 (some .int) 2 := ⟨bg_t 576 (by decide +kernel) rfl, bn_X3, bc_X3_whyNotPoured, by decide +kernel, by decide +kernel, by decide +kernel⟩
theorem kw_X5_154 : KW RX5 154 yX3_isEmpty cX3_isEmpty 3 (some .boolean) 1 := ⟨bg_t 581 (by decide +kernel) rfl, bn_X3, bc_X3_isEmpty, by decide +kernel, by decide +kernel, by decide +kernel⟩
theorem kw_X5_157 : KW RX5 157 yX3_drip cX3_drip 4 (some .int) 1 := ⟨bg_t 585 (by decide +kernel) rfl, bn_X3, bc_X3_drip, by decide +kernel, by decide +kernel, by decide +kernel⟩
theorem kw_X5_160 : KW RX5 160 yX5_noonErrorWith cX5_noonErrorWith 6 (some .int) 2 := ⟨bg_t 590 (by decide +kernel) rfl, bn_X5, bc_X5_noonErrorWith, by decide +kernel, by decide +kernel, by decide +kernel⟩
theorem kw_X5_166 : KW RX5 166 yJ9_abs_0f7a4 cJ9_abs_0f7a4 1 (some .int) 1 := ⟨bg_t 599 (by decide +kernel) rfl, bn_J9, bc_J9_abs_0f7a4, by decide +kernel, by decide +kernel, by decide +kernel⟩
theorem kw_X5_171 : KW RX5 171 yX3_rankOf cX3_rankOf 6 (some .int) 1 := ⟨bg_t 604 (by decide +kernel) rfl, bn_X3, bc_X3_rankOf, by decide +kernel, by decide +kernel, by decide +kernel⟩
theorem kw_X5_174 : KW RX5 174 yX3_errorsTogether cX3_errorsTogether 3 (some .int) 0 := ⟨bg_t 616 (by decide +kernel) rfl, bn_X3, bc_X3_errorsTogether, by decide +kernel, by decide +kernel, by decide +kernel⟩
theorem kw_X5_177 : KW RX5 177 yX5_bitsOf cX5_bitsOf 3 (some .int) 1 := ⟨bg_t 620 (by decide +kernel) rfl, bn_X5, bc_X5_bitsOf, by decide +kernel, by decide +kernel, by decide +kernel⟩
theorem kw_X5_184 : KW RX5 184 yX3_clocksOff cX3_clocksOff 3 (some .int) 0 := ⟨bg_t 628 (by decide +kernel) rfl, bn_X3, bc_X3_clocksOff, by decide +kernel, by decide +kernel, by decide +kernel⟩
theorem kw_X5_187 : KW RX5 187 yX3_clocksEmpty cX3_clocksEmpty 3 (some .int) 0 := ⟨bg_t 632 (by decide +kernel) rfl, bn_X3, bc_X3_clocksEmpty, by decide +kernel, by decide +kernel, by decide +kernel⟩
theorem kw_X5_196 : KW RX5 196 yX3_untilNoon cX3_untilNoon 2 (some .int) 0 := ⟨bg_t 594 (by decide +kernel) rfl, bn_X3, bc_X3_untilNoon, by decide +kernel, by decide +kernel, by decide +kernel⟩
theorem kw_X5_202 : KW RX5 202 yX0_size cX0_size 1 (some .int) 0 := ⟨bg_t 636 (by decide +kernel) rfl, bn_X0, bc_X0_size, by decide +kernel, by decide +kernel, by decide +kernel⟩
theorem kw_X5_215 : KW RX5 215 yX2_valueOf cX2_valueOf 2 (some .int) 1 := ⟨bg_t 637 (by decide +kernel) rfl, bn_X2, bc_X2_valueOf, by decide +kernel, by decide +kernel, by decide +kernel⟩
theorem kw_X5_220 : KW RX5 220 yX4_append cX4_append 2 (some .int) 1 := ⟨bg_t 646 (by decide +kernel) rfl, bn_X4, bc_X4_append, by decide +kernel, by decide +kernel, by decide +kernel⟩
theorem kw_X5_224 : KW RX5 224 yX5_tryOrders cX5_tryOrders 5 (some .int) 0 := ⟨bg_t 659 (by decide +kernel) rfl, bn_X5, bc_X5_tryOrders, by decide +kernel, by decide +kernel, by decide +kernel⟩
theorem kw_X5_236 : KW RX5 236 yX5_isErrorCode cX5_isErrorCode 1 (some .boolean) 1 := ⟨bg_t 308 (by decide +kernel) rfl, bn_X5, bc_X5_isErrorCode, by decide +kernel, by decide +kernel, by decide +kernel⟩
theorem kw_X5_239 : KW RX5 239 yX5_dropOldestState cX5_dropOldestState 3 none 0 := ⟨bg_t 313 (by decide +kernel) rfl, bn_X5, bc_X5_dropOldestState, by decide +kernel, by decide +kernel, by decide +kernel⟩
theorem kw_X5_242 : KW RX5 242 yX4_rewind cX4_rewind 1 none 0 := ⟨bg_t 663 (by decide +kernel) rfl, bn_X4, bc_X4_rewind, by decide +kernel, by decide +kernel, by decide +kernel⟩
theorem kw_X5_245 : KW RX5 245 yX4_readOrder cX4_readOrder 1 (some .boolean) 0 := ⟨bg_t 667 (by decide +kernel) rfl, bn_X4, bc_X4_readOrder, by decide +kernel, by decide +kernel, by decide +kernel⟩
theorem kw_X5_249 : KW RX5 249 yX4_number cX4_number 2 (some .int) 1 := ⟨bg_t 698 (by decide +kernel) rfl, bn_X4, bc_X4_number, by decide +kernel, by decide +kernel, by decide +kernel⟩
theorem kw_X5_256 : KW RX5 256 yX4_tellFault cX4_tellFault 3 none 2 := ⟨bg_t 703 (by decide +kernel) rfl, bn_X4, bc_X4_tellFault, by decide +kernel, by decide +kernel, by decide +kernel⟩
theorem kw_X5_264 : KW RX5 264 yJ9_floorDiv_7cf53 cJ9_floorDiv_7cf53 3 (some .int) 2 := ⟨bg_t 297 (by decide +kernel) rfl, bn_J9, bc_J9_floorDiv_7cf53, by decide +kernel, by decide +kernel, by decide +kernel⟩
theorem kw_X0_29 : KW RX0 29 yX0_place cX0_place 2 (some .int) 1 := ⟨bg_t 461 (by decide +kernel) rfl, bn_X0, bc_X0_place, by decide +kernel, by decide +kernel, by decide +kernel⟩
theorem kw_X0_37 : KW RX0 37 yJ9_min_7cf53 cJ9_min_7cf53 2 (some .int) 2 := ⟨bg_t 565 (by decide +kernel) rfl, bn_J9, bc_J9_min_7cf53, by decide +kernel, by decide +kernel, by decide +kernel⟩
theorem kw_X0_43 : KW RX0 43 yX0_size cX0_size 1 (some .int) 0 := ⟨bg_t 561 (by decide +kernel) rfl, bn_X0, bc_X0_size, by decide +kernel, by decide +kernel, by decide +kernel⟩
theorem kw_X0_51 : KW RX0 51 yJ9_floorMod_7cf53 cJ9_floorMod_7cf53 3 (some .int) 2 := ⟨bg_t 465 (by decide +kernel) rfl, bn_J9, bc_J9_floorMod_7cf53, by decide +kernel, by decide +kernel, by decide +kernel⟩
theorem kw_X1_60 : KW RX1 60 yX1_nextDrip cX1_nextDrip 1 (some .int) 0 := ⟨bg_t 424 (by decide +kernel) rfl, bn_X1, bc_X1_nextDrip, by decide +kernel, by decide +kernel, by decide +kernel⟩
theorem kw_X1_64 : KW RX1 64 yX1_dropsCounted cX1_dropsCounted 1 (some .int) 0 := ⟨bg_t 382 (by decide +kernel) rfl, bn_X1, bc_X1_dropsCounted, by decide +kernel, by decide +kernel, by decide +kernel⟩
theorem kw_X1_71 : KW RX1 71 yJ9_min_7cf53 cJ9_min_7cf53 2 (some .int) 2 := ⟨bg_t 428 (by decide +kernel) rfl, bn_J9, bc_J9_min_7cf53, by decide +kernel, by decide +kernel, by decide +kernel⟩
theorem kw_X3_35 : KW RX3 35 yX1_init cX1_init 2 none 1 := ⟨bg_t 81 (by decide +kernel) rfl, bn_X1, bc_X1_init, by decide +kernel, by decide +kernel, by decide +kernel⟩
theorem kw_X3_38 : KW RX3 38 yX1_copyFrom cX1_copyFrom 2 none 1 := ⟨bg_t 269 (by decide +kernel) rfl, bn_X1, bc_X1_copyFrom, by decide +kernel, by decide +kernel, by decide +kernel⟩
theorem kw_X3_42 : KW RX3 42 yX2_copyFrom cX2_copyFrom 2 none 1 := ⟨bg_t 273 (by decide +kernel) rfl, bn_X2, bc_X2_copyFrom, by decide +kernel, by decide +kernel, by decide +kernel⟩
theorem kw_X3_45 : KW RX3 45 yX0_copyFrom cX0_copyFrom 2 none 1 := ⟨bg_t 277 (by decide +kernel) rfl, bn_X0, bc_X0_copyFrom, by decide +kernel, by decide +kernel, by decide +kernel⟩
theorem kw_X3_77 : KW RX3 77 yX3_trueHour cX3_trueHour 1 (some .int) 0 := ⟨bg_t 290 (by decide +kernel) rfl, bn_X3, bc_X3_trueHour, by decide +kernel, by decide +kernel, by decide +kernel⟩
theorem kw_X3_81 : KW RX3 81 yX1_begin cX1_begin 5 none 4 := ⟨bg_t 300 (by decide +kernel) rfl, bn_X1, bc_X1_begin, by decide +kernel, by decide +kernel, by decide +kernel⟩
theorem kw_X3_85 : KW RX3 85 yX3_clockAt cX3_clockAt 2 (some (.object "LeakingClocks$Clock")) 1 := ⟨bg_t 325 (by decide +kernel) rfl, bn_X3, bc_X3_clockAt, by decide +kernel, by decide +kernel, by decide +kernel⟩
theorem kw_X3_100 : KW RX3 100 yX3_whyNotPoured cX3_whyNotPoured 3 (some .int) 2 := ⟨bg_t 343 (by decide +kernel) rfl, bn_X3, bc_X3_whyNotPoured, by decide +kernel, by decide +kernel, by decide +kernel⟩
theorem kw_X3_115 : KW RX3 115 yX3_enterUpper cX3_enterUpper 4 (some .int) 2 := ⟨bg_t 355 (by decide +kernel) rfl, bn_X3, bc_X3_enterUpper, by decide +kernel, by decide +kernel, by decide +kernel⟩
theorem kw_X3_124 : KW RX3 124 yX1_trueTo cX1_trueTo 2 none 1 := ⟨bg_t 378 (by decide +kernel) rfl, bn_X1, bc_X1_trueTo, by decide +kernel, by decide +kernel, by decide +kernel⟩
theorem kw_X3_127 : KW RX3 127 yX3_errorOf cX3_errorOf 2 (some .int) 1 := ⟨bg_t 394 (by decide +kernel) rfl, bn_X3, bc_X3_errorOf, by decide +kernel, by decide +kernel, by decide +kernel⟩
theorem kw_X3_132 : KW RX3 132 yX3_drip cX3_drip 4 (some .int) 1 := ⟨bg_t 412 (by decide +kernel) rfl, bn_X3, bc_X3_drip, by decide +kernel, by decide +kernel, by decide +kernel⟩
theorem kw_X3_136 : KW RX3 136 yX3_isNoon cX3_isNoon 1 (some .boolean) 0 := ⟨bg_t 441 (by decide +kernel) rfl, bn_X3, bc_X3_isNoon, by decide +kernel, by decide +kernel, by decide +kernel⟩
theorem kw_X3_140 : KW RX3 140 yX3_noonComes cX3_noonComes 4 none 0 := ⟨bg_t 453 (by decide +kernel) rfl, bn_X3, bc_X3_noonComes, by decide +kernel, by decide +kernel, by decide +kernel⟩
theorem kw_X3_143 : KW RX3 143 yX2_isInRange cX2_isInRange 2 (some .boolean) 2 := ⟨bg_t 490 (by decide +kernel) rfl, bn_X2, bc_X2_isInRange, by decide +kernel, by decide +kernel, by decide +kernel⟩
theorem kw_X3_147 : KW RX3 147 yX2_valueOf cX2_valueOf 2 (some .int) 1 := ⟨bg_t 498 (by decide +kernel) rfl, bn_X2, bc_X2_valueOf, by decide +kernel, by decide +kernel, by decide +kernel⟩
theorem kw_X3_150 : KW RX3 150 yX2_change cX2_change 3 none 2 := ⟨bg_t 502 (by decide +kernel) rfl, bn_X2, bc_X2_change, by decide +kernel, by decide +kernel, by decide +kernel⟩
theorem kw_X3_154 : KW RX3 154 yX3_dripOf cX3_dripOf 4 (some .int) 1 := ⟨bg_t 416 (by decide +kernel) rfl, bn_X3, bc_X3_dripOf, by decide +kernel, by decide +kernel, by decide +kernel⟩
theorem kw_X3_157 : KW RX3 157 yX1_letThrough cX1_letThrough 2 (some .int) 0 := ⟨bg_t 420 (by decide +kernel) rfl, bn_X1, bc_X1_letThrough, by decide +kernel, by decide +kernel, by decide +kernel⟩
theorem kw_X3_160 : KW RX3 160 yX3_goOn cX3_goOn 4 none 2 := ⟨bg_t 429 (by decide +kernel) rfl, bn_X3, bc_X3_goOn, by decide +kernel, by decide +kernel, by decide +kernel⟩
theorem kw_X3_167 : KW RX3 167 yX3_roomAbove cX3_roomAbove 2 (some .int) 1 := ⟨bg_t 351 (by decide +kernel) rfl, bn_X3, bc_X3_roomAbove, by decide +kernel, by decide +kernel, by decide +kernel⟩
theorem kw_X3_170 : KW RX3 170 yJ9_min_7cf53 cJ9_min_7cf53 2 (some .int) 2 := ⟨bg_t 359 (by decide +kernel) rfl, bn_J9, bc_J9_min_7cf53, by decide +kernel, by decide +kernel, by decide +kernel⟩
theorem kw_X3_176 : KW RX3 176 yX3_strokeOf cX3_strokeOf 3 (some .int) 1 := ⟨bg_t 433 (by decide +kernel) rfl, bn_X3, bc_X3_strokeOf, by decide +kernel, by decide +kernel, by decide +kernel⟩
theorem kw_X3_182 : KW RX3 182 yX1_wearHole cX1_wearHole 4 none 1 := ⟨bg_t 437 (by decide +kernel) rfl, bn_X1, bc_X1_wearHole, by decide +kernel, by decide +kernel, by decide +kernel⟩
theorem kw_X3_203 : KW RX3 203 yX1_figure cX1_figure 2 (some .int) 1 := ⟨bg_t 547 (by decide +kernel) rfl, bn_X1, bc_X1_figure, by decide +kernel, by decide +kernel, by decide +kernel⟩
theorem kw_X3_206 : KW RX3 206 yX3_together cX3_together 4 (some .int) 1 := ⟨bg_t 552 (by decide +kernel) rfl, bn_X3, bc_X3_together, by decide +kernel, by decide +kernel, by decide +kernel⟩
theorem kw_X3_215 : KW RX3 215 yX1_hourTold cX1_hourTold 1 (some .int) 0 := ⟨bg_t 398 (by decide +kernel) rfl, bn_X1, bc_X1_hourTold, by decide +kernel, by decide +kernel, by decide +kernel⟩
theorem kw_X3_218 : KW RX3 218 yX3_noonTicks cX3_noonTicks 1 (some .int) 0 := ⟨bg_t 449 (by decide +kernel) rfl, bn_X3, bc_X3_noonTicks, by decide +kernel, by decide +kernel, by decide +kernel⟩
theorem kw_X3_221 : KW RX3 221 yX3_untilNoon cX3_untilNoon 2 (some .int) 0 := ⟨bg_t 445 (by decide +kernel) rfl, bn_X3, bc_X3_untilNoon, by decide +kernel, by decide +kernel, by decide +kernel⟩
theorem kw_X3_224 : KW RX3 224 yJ9_abs_0f7a4 cJ9_abs_0f7a4 1 (some .int) 1 := ⟨bg_t 479 (by decide +kernel) rfl, bn_J9, bc_J9_abs_0f7a4, by decide +kernel, by decide +kernel, by decide +kernel⟩
theorem kw_X3_230 : KW RX3 230 yX0_open cX0_open 2 none 1 := ⟨bg_t 457 (by decide +kernel) rfl, bn_X0, bc_X0_open, by decide +kernel, by decide +kernel, by decide +kernel⟩
theorem kw_X3_233 : KW RX3 233 yX0_write cX0_write 3 none 2 := ⟨bg_t 471 (by decide +kernel) rfl, bn_X0, bc_X0_write, by decide +kernel, by decide +kernel, by decide +kernel⟩
theorem kw_X3_236 : KW RX3 236 yX3_isOff cX3_isOff 2 (some .boolean) 1 := ⟨bg_t 475 (by decide +kernel) rfl, bn_X3, bc_X3_isOff, by decide +kernel, by decide +kernel, by decide +kernel⟩
theorem kw_X3_245 : KW RX3 245 yX3_sizeOfError cX3_sizeOfError 3 (some .int) 1 := ⟨bg_t 608 (by decide +kernel) rfl, bn_X3, bc_X3_sizeOfError, by decide +kernel, by decide +kernel, by decide +kernel⟩
theorem kw_X4_40 : KW RX4 40 yX4_readForm cX4_readForm 3 (some .boolean) 0 := ⟨bg_t 671 (by decide +kernel) rfl, bn_X4, bc_X4_readForm, by decide +kernel, by decide +kernel, by decide +kernel⟩
theorem kw_X4_44 : KW RX4 44 yX4_tellFault cX4_tellFault 3 none 2 := ⟨bg_t 694 (by decide +kernel) rfl, bn_X4, bc_X4_tellFault, by decide +kernel, by decide +kernel, by decide +kernel⟩
theorem kw_X4_48 : KW RX4 48 yX4_signHere cX4_signHere 1 (some .char) 0 := ⟨bg_t 675 (by decide +kernel) rfl, bn_X4, bc_X4_signHere, by decide +kernel, by decide +kernel, by decide +kernel⟩
theorem kw_X4_56 : KW RX4 56 yX4_numbersOf cX4_numbersOf 1 (some .int) 1 := ⟨bg_t 679 (by decide +kernel) rfl, bn_X4, bc_X4_numbersOf, by decide +kernel, by decide +kernel, by decide +kernel⟩
theorem kw_X4_60 : KW RX4 60 yX4_readNumber cX4_readNumber 4 (some .boolean) 1 := ⟨bg_t 682 (by decide +kernel) rfl, bn_X4, bc_X4_readNumber, by decide +kernel, by decide +kernel, by decide +kernel⟩
theorem kw_X4_64 : KW RX4 64 yX4_readSign cX4_readSign 2 (some .boolean) 1 := ⟨bg_t 690 (by decide +kernel) rfl, bn_X4, bc_X4_readSign, by decide +kernel, by decide +kernel, by decide +kernel⟩
theorem kw_X4_68 : KW RX4 68 yX4_isDigit cX4_isDigit 1 (some .boolean) 1 := ⟨bg_t 686 (by decide +kernel) rfl, bn_X4, bc_X4_isDigit, by decide +kernel, by decide +kernel, by decide +kernel⟩
theorem kw_L_9 : KW RL 9 yX5_init cX5_init 2 none 0 := ⟨bg_t 12 (by decide +kernel) rfl, bn_X5, bc_X5_init, by decide +kernel, by decide +kernel, by decide +kernel⟩
theorem kw_L_12 : KW RL 12 yX6_init cX6_init 1 none 0 := ⟨bg_t 710 (by decide +kernel) rfl, bn_X6, bc_X6_init, by decide +kernel, by decide +kernel, by decide +kernel⟩
theorem kw_L_13 : KW RL 13 yX5_clock cX5_clock 4 (some .int) 3 := ⟨bg_t 261 (by decide +kernel) rfl, bn_X5, bc_X5_clock, by decide +kernel, by decide +kernel, by decide +kernel⟩
theorem kw_L_17 : KW RL 17 yX6_clock cX6_clock 4 (some .int) 3 := ⟨bg_t 760 (by decide +kernel) rfl, bn_X6, bc_X6_clock, by decide +kernel, by decide +kernel, by decide +kernel⟩
theorem kw_L_18 : KW RL 18 yX5_lead cX5_lead 3 (some .int) 2 := ⟨bg_t 317 (by decide +kernel) rfl, bn_X5, bc_X5_lead, by decide +kernel, by decide +kernel, by decide +kernel⟩
theorem kw_L_22 : KW RL 22 yX6_lead cX6_lead 3 (some .int) 2 := ⟨bg_t 804 (by decide +kernel) rfl, bn_X6, bc_X6_lead, by decide +kernel, by decide +kernel, by decide +kernel⟩
theorem kw_L_23 : KW RL 23 yX5_pour cX5_pour 3 (some .int) 2 := ⟨bg_t 330 (by decide +kernel) rfl, bn_X5, bc_X5_pour, by decide +kernel, by decide +kernel, by decide +kernel⟩
theorem kw_L_26 : KW RL 26 yX6_pour cX6_pour 3 (some .int) 2 := ⟨bg_t 817 (by decide +kernel) rfl, bn_X6, bc_X6_pour, by decide +kernel, by decide +kernel, by decide +kernel⟩
theorem kw_L_27 : KW RL 27 yX5_wax cX5_wax 3 (some .int) 2 := ⟨bg_t 362 (by decide +kernel) rfl, bn_X5, bc_X5_wax, by decide +kernel, by decide +kernel, by decide +kernel⟩
theorem kw_L_30 : KW RL 30 yX6_wax cX6_wax 3 (some .int) 2 := ⟨bg_t 840 (by decide +kernel) rfl, bn_X6, bc_X6_wax, by decide +kernel, by decide +kernel, by decide +kernel⟩
theorem kw_L_31 : KW RL 31 yX5_pitch cX5_pitch 3 (some .int) 2 := ⟨bg_t 370 (by decide +kernel) rfl, bn_X5, bc_X5_pitch, by decide +kernel, by decide +kernel, by decide +kernel⟩
theorem kw_L_34 : KW RL 34 yX6_pitch cX6_pitch 3 (some .int) 2 := ⟨bg_t 848 (by decide +kernel) rfl, bn_X6, bc_X6_pitch, by decide +kernel, by decide +kernel, by decide +kernel⟩
theorem kw_L_35 : KW RL 35 yX5_trueUp cX5_trueUp 2 (some .int) 1 := ⟨bg_t 386 (by decide +kernel) rfl, bn_X5, bc_X5_trueUp, by decide +kernel, by decide +kernel, by decide +kernel⟩
theorem kw_L_39 : KW RL 39 yX6_trueUp cX6_trueUp 2 (some .int) 1 := ⟨bg_t 860 (by decide +kernel) rfl, bn_X6, bc_X6_trueUp, by decide +kernel, by decide +kernel, by decide +kernel⟩
theorem kw_L_40 : KW RL 40 yX5_ticks cX5_ticks 2 (some .int) 1 := ⟨bg_t 403 (by decide +kernel) rfl, bn_X5, bc_X5_ticks, by decide +kernel, by decide +kernel, by decide +kernel⟩
theorem kw_L_43 : KW RL 43 yX6_ticks cX6_ticks 2 (some .int) 1 := ⟨bg_t 879 (by decide +kernel) rfl, bn_X6, bc_X6_ticks, by decide +kernel, by decide +kernel, by decide +kernel⟩
theorem kw_L_44 : KW RL 44 yX5_set cX5_set 3 (some .int) 2 := ⟨bg_t 482 (by decide +kernel) rfl, bn_X5, bc_X5_set, by decide +kernel, by decide +kernel, by decide +kernel⟩
theorem kw_L_47 : KW RL 47 yX6_set cX6_set 3 (some .int) 2 := ⟨bg_t 940 (by decide +kernel) rfl, bn_X6, bc_X6_set, by decide +kernel, by decide +kernel, by decide +kernel⟩
theorem kw_L_48 : KW RL 48 yX5_keep cX5_keep 2 (some .int) 1 := ⟨bg_t 506 (by decide +kernel) rfl, bn_X5, bc_X5_keep, by decide +kernel, by decide +kernel, by decide +kernel⟩
theorem kw_L_51 : KW RL 51 yX6_keep cX6_keep 3 (some .int) 1 := ⟨bg_t 951 (by decide +kernel) rfl, bn_X6, bc_X6_keep, by decide +kernel, by decide +kernel, by decide +kernel⟩
theorem kw_L_52 : KW RL 52 yX5_back cX5_back 2 (some .int) 1 := ⟨bg_t 514 (by decide +kernel) rfl, bn_X5, bc_X5_back, by decide +kernel, by decide +kernel, by decide +kernel⟩
theorem kw_L_55 : KW RL 55 yX6_back cX6_back 3 (some .int) 1 := ⟨bg_t 955 (by decide +kernel) rfl, bn_X6, bc_X6_back, by decide +kernel, by decide +kernel, by decide +kernel⟩
theorem kw_L_56 : KW RL 56 yX5_clockOf cX5_clockOf 4 (some .int) 2 := ⟨bg_t 519 (by decide +kernel) rfl, bn_X5, bc_X5_clockOf, by decide +kernel, by decide +kernel, by decide +kernel⟩
theorem kw_L_59 : KW RL 59 yX6_clockOf cX6_clockOf 3 (some .int) 2 := ⟨bg_t 963 (by decide +kernel) rfl, bn_X6, bc_X6_clockOf, by decide +kernel, by decide +kernel, by decide +kernel⟩
theorem kw_L_60 : KW RL 60 yX5_hour cX5_hour 4 (some .int) 2 := ⟨bg_t 532 (by decide +kernel) rfl, bn_X5, bc_X5_hour, by decide +kernel, by decide +kernel, by decide +kernel⟩
theorem kw_L_63 : KW RL 63 yX6_hour cX6_hour 3 (some .int) 2 := ⟨bg_t 972 (by decide +kernel) rfl, bn_X6, bc_X6_hour, by decide +kernel, by decide +kernel, by decide +kernel⟩
theorem kw_L_64 : KW RL 64 yX5_water cX5_water 2 (some .int) 1 := ⟨bg_t 539 (by decide +kernel) rfl, bn_X5, bc_X5_water, by decide +kernel, by decide +kernel, by decide +kernel⟩
theorem kw_L_67 : KW RL 67 yX6_water cX6_water 2 (some .int) 1 := ⟨bg_t 976 (by decide +kernel) rfl, bn_X6, bc_X6_water, by decide +kernel, by decide +kernel, by decide +kernel⟩
theorem kw_L_68 : KW RL 68 yX5_noon cX5_noon 3 (some .int) 2 := ⟨bg_t 553 (by decide +kernel) rfl, bn_X5, bc_X5_noon, by decide +kernel, by decide +kernel, by decide +kernel⟩
theorem kw_L_71 : KW RL 71 yX6_noon_ cX6_noon_ 3 (some .int) 2 := ⟨bg_t 984 (by decide +kernel) rfl, bn_X6, bc_X6_noon_, by decide +kernel, by decide +kernel, by decide +kernel⟩
theorem kw_L_72 : KW RL 72 yX5_why cX5_why 4 (some .int) 2 := ⟨bg_t 571 (by decide +kernel) rfl, bn_X5, bc_X5_why, by decide +kernel, by decide +kernel, by decide +kernel⟩
theorem kw_L_75 : KW RL 75 yX6_why cX6_why 3 (some .int) 2 := ⟨bg_t 988 (by decide +kernel) rfl, bn_X6, bc_X6_why, by decide +kernel, by decide +kernel, by decide +kernel⟩
theorem kw_L_76 : KW RL 76 yX5_emptyIn cX5_emptyIn 3 (some .int) 1 := ⟨bg_t 577 (by decide +kernel) rfl, bn_X5, bc_X5_emptyIn, by decide +kernel, by decide +kernel, by decide +kernel⟩
theorem kw_L_79 : KW RL 79 yX6_emptyIn cX6_emptyIn 4 (some .int) 1 := ⟨bg_t 992 (by decide +kernel) rfl, bn_X6, bc_X6_emptyIn, by decide +kernel, by decide +kernel, by decide +kernel⟩
theorem kw_L_80 : KW RL 80 yX5_noonError cX5_noonError 2 (some .int) 1 := ⟨bg_t 586 (by decide +kernel) rfl, bn_X5, bc_X5_noonError, by decide +kernel, by decide +kernel, by decide +kernel⟩
theorem kw_L_83 : KW RL 83 yX6_noonError cX6_noonError 2 (some .int) 1 := ⟨bg_t 1004 (by decide +kernel) rfl, bn_X6, bc_X6_noonError, by decide +kernel, by decide +kernel, by decide +kernel⟩
theorem kw_L_84 : KW RL 84 yX5_bestWax cX5_bestWax 8 (some .int) 2 := ⟨bg_t 595 (by decide +kernel) rfl, bn_X5, bc_X5_bestWax, by decide +kernel, by decide +kernel, by decide +kernel⟩
theorem kw_L_87 : KW RL 87 yX6_bestWax cX6_bestWax 4 (some .int) 2 := ⟨bg_t 1012 (by decide +kernel) rfl, bn_X6, bc_X6_bestWax, by decide +kernel, by decide +kernel, by decide +kernel⟩
theorem kw_L_88 : KW RL 88 yX5_worst cX5_worst 3 (some .int) 1 := ⟨bg_t 600 (by decide +kernel) rfl, bn_X5, bc_X5_worst, by decide +kernel, by decide +kernel, by decide +kernel⟩
theorem kw_L_91 : KW RL 91 yX6_worst cX6_worst 4 (some .int) 1 := ⟨bg_t 1020 (by decide +kernel) rfl, bn_X6, bc_X6_worst, by decide +kernel, by decide +kernel, by decide +kernel⟩
theorem kw_L_92 : KW RL 92 yX5_mean cX5_mean 1 (some .int) 0 := ⟨bg_t 612 (by decide +kernel) rfl, bn_X5, bc_X5_mean, by decide +kernel, by decide +kernel, by decide +kernel⟩
theorem kw_L_96 : KW RL 96 yX6_mean cX6_mean 3 (some .int) 0 := ⟨bg_t 1028 (by decide +kernel) rfl, bn_X6, bc_X6_mean, by decide +kernel, by decide +kernel, by decide +kernel⟩
theorem kw_L_97 : KW RL 97 yX5_count cX5_count 2 (some .int) 1 := ⟨bg_t 624 (by decide +kernel) rfl, bn_X5, bc_X5_count, by decide +kernel, by decide +kernel, by decide +kernel⟩
theorem kw_L_100 : KW RL 100 yX6_count cX6_count 2 (some .int) 1 := ⟨bg_t 1042 (by decide +kernel) rfl, bn_X6, bc_X6_count, by decide +kernel, by decide +kernel, by decide +kernel⟩
theorem kw_L_101 : KW RL 101 yX5_undo cX5_undo 1 (some .int) 0 := ⟨bg_t 638 (by decide +kernel) rfl, bn_X5, bc_X5_undo, by decide +kernel, by decide +kernel, by decide +kernel⟩
theorem kw_L_104 : KW RL 104 yX6_undo cX6_undo 2 (some .int) 0 := ⟨bg_t 959 (by decide +kernel) rfl, bn_X6, bc_X6_undo, by decide +kernel, by decide +kernel, by decide +kernel⟩
theorem kw_L_105 : KW RL 105 yX5_type cX5_type 2 (some .int) 1 := ⟨bg_t 642 (by decide +kernel) rfl, bn_X5, bc_X5_type, by decide +kernel, by decide +kernel, by decide +kernel⟩
theorem kw_L_108 : KW RL 108 yX6_type cX6_type 2 (some .int) 1 := ⟨bg_t 1058 (by decide +kernel) rfl, bn_X6, bc_X6_type, by decide +kernel, by decide +kernel, by decide +kernel⟩
theorem kw_L_109 : KW RL 109 yX5_clearText cX5_clearText 2 (some .int) 0 := ⟨bg_t 651 (by decide +kernel) rfl, bn_X5, bc_X5_clearText, by decide +kernel, by decide +kernel, by decide +kernel⟩
theorem kw_L_112 : KW RL 112 yX6_clearText cX6_clearText 2 (some .int) 0 := ⟨bg_t 1062 (by decide +kernel) rfl, bn_X6, bc_X6_clearText, by decide +kernel, by decide +kernel, by decide +kernel⟩
theorem kw_L_113 : KW RL 113 yX5_fault cX5_fault 2 (some .int) 1 := ⟨bg_t 655 (by decide +kernel) rfl, bn_X5, bc_X5_fault, by decide +kernel, by decide +kernel, by decide +kernel⟩
theorem kw_L_116 : KW RL 116 yX6_fault cX6_fault 2 (some .int) 1 := ⟨bg_t 1066 (by decide +kernel) rfl, bn_X6, bc_X6_fault, by decide +kernel, by decide +kernel, by decide +kernel⟩
theorem kw_L_117 : KW RL 117 yX5_play cX5_play 2 (some .int) 0 := ⟨bg_t 704 (by decide +kernel) rfl, bn_X5, bc_X5_play, by decide +kernel, by decide +kernel, by decide +kernel⟩
theorem kw_L_120 : KW RL 120 yX6_play cX6_play 2 (some .int) 0 := ⟨bg_t 1097 (by decide +kernel) rfl, bn_X6, bc_X6_play, by decide +kernel, by decide +kernel, by decide +kernel⟩
theorem kw_X6_36 : KW RX6 36 yX6_in cX6_in 3 (some .boolean) 3 := ⟨bg_t 772 (by decide +kernel) rfl, bn_X6, bc_X6_in, by decide +kernel, by decide +kernel, by decide +kernel⟩
theorem kw_X6_40 : KW RX6 40 yX6_isError cX6_isError 1 (some .boolean) 1 := ⟨bg_t 801 (by decide +kernel) rfl, bn_X6, bc_X6_isError, by decide +kernel, by decide +kernel, by decide +kernel⟩
theorem kw_X6_48 : KW RX6 48 yX6_of cX6_of 3 (some .int) 2 := ⟨bg_t 793 (by decide +kernel) rfl, bn_X6, bc_X6_of, by decide +kernel, by decide +kernel, by decide +kernel⟩
theorem kw_X6_52 : KW RX6 52 yX6_drops cX6_drops 3 (some .int) 1 := ⟨bg_t 789 (by decide +kernel) rfl, bn_X6, bc_X6_drops, by decide +kernel, by decide +kernel, by decide +kernel⟩
theorem kw_X6_56 : KW RX6 56 yX6_floor cX6_floor 3 (some .int) 2 := ⟨bg_t 876 (by decide +kernel) rfl, bn_X6, bc_X6_floor, by decide +kernel, by decide +kernel, by decide +kernel⟩
theorem kw_X6_59 : KW RX6 59 yX6_hourOf cX6_hourOf 2 (some .int) 1 := ⟨bg_t 872 (by decide +kernel) rfl, bn_X6, bc_X6_hourOf, by decide +kernel, by decide +kernel, by decide +kernel⟩
theorem kw_X6_62 : KW RX6 62 yX6_trueHour cX6_trueHour 1 (some .int) 0 := ⟨bg_t 785 (by decide +kernel) rfl, bn_X6, bc_X6_trueHour, by decide +kernel, by decide +kernel, by decide +kernel⟩
theorem kw_X6_66 : KW RX6 66 yX6_error cX6_error 2 (some .int) 1 := ⟨bg_t 868 (by decide +kernel) rfl, bn_X6, bc_X6_error, by decide +kernel, by decide +kernel, by decide +kernel⟩
theorem kw_X6_69 : KW RX6 69 yX6_size cX6_size 2 (some .int) 1 := ⟨bg_t 936 (by decide +kernel) rfl, bn_X6, bc_X6_size, by decide +kernel, by decide +kernel, by decide +kernel⟩
theorem kw_X6_72 : KW RX6 72 yX6_put cX6_put 4 none 3 := ⟨bg_t 777 (by decide +kernel) rfl, bn_X6, bc_X6_put, by decide +kernel, by decide +kernel, by decide +kernel⟩
theorem kw_X6_76 : KW RX6 76 yX6_lay cX6_lay 2 none 1 := ⟨bg_t 781 (by decide +kernel) rfl, bn_X6, bc_X6_lay, by decide +kernel, by decide +kernel, by decide +kernel⟩
theorem kw_X6_80 : KW RX6 80 yX6_add cX6_add 4 none 3 := ⟨bg_t 832 (by decide +kernel) rfl, bn_X6, bc_X6_add, by decide +kernel, by decide +kernel, by decide +kernel⟩
theorem kw_X6_83 : KW RX6 83 yX6_fill cX6_fill 5 (some .int) 2 := ⟨bg_t 836 (by decide +kernel) rfl, bn_X6, bc_X6_fill, by decide +kernel, by decide +kernel, by decide +kernel⟩
theorem kw_X6_86 : KW RX6 86 yX6_goOn cX6_goOn 4 none 2 := ⟨bg_t 904 (by decide +kernel) rfl, bn_X6, bc_X6_goOn, by decide +kernel, by decide +kernel, by decide +kernel⟩
theorem kw_X6_90 : KW RX6 90 yX6_dripOf cX6_dripOf 3 (some .int) 1 := ⟨bg_t 900 (by decide +kernel) rfl, bn_X6, bc_X6_dripOf, by decide +kernel, by decide +kernel, by decide +kernel⟩
theorem kw_X6_93 : KW RX6 93 yX6_rise cX6_rise 5 none 2 := ⟨bg_t 908 (by decide +kernel) rfl, bn_X6, bc_X6_rise, by decide +kernel, by decide +kernel, by decide +kernel⟩
theorem kw_X6_96 : KW RX6 96 yX6_stroke cX6_stroke 3 none 1 := ⟨bg_t 912 (by decide +kernel) rfl, bn_X6, bc_X6_stroke, by decide +kernel, by decide +kernel, by decide +kernel⟩
theorem kw_X6_99 : KW RX6 99 yX6_book cX6_book 2 none 0 := ⟨bg_t 928 (by decide +kernel) rfl, bn_X6, bc_X6_book, by decide +kernel, by decide +kernel, by decide +kernel⟩
theorem kw_X6_102 : KW RX6 102 yX6_isOff cX6_isOff 2 (some .boolean) 1 := ⟨bg_t 932 (by decide +kernel) rfl, bn_X6, bc_X6_isOff, by decide +kernel, by decide +kernel, by decide +kernel⟩
theorem kw_X6_105 : KW RX6 105 yX6_makeTrue cX6_makeTrue 2 none 1 := ⟨bg_t 856 (by decide +kernel) rfl, bn_X6, bc_X6_makeTrue, by decide +kernel, by decide +kernel, by decide +kernel⟩
theorem kw_X6_108 : KW RX6 108 yX6_drip cX6_drip 3 (some .int) 1 := ⟨bg_t 896 (by decide +kernel) rfl, bn_X6, bc_X6_drip, by decide +kernel, by decide +kernel, by decide +kernel⟩
theorem kw_X6_111 : KW RX6 111 yX6_widen cX6_widen 3 none 1 := ⟨bg_t 916 (by decide +kernel) rfl, bn_X6, bc_X6_widen, by decide +kernel, by decide +kernel, by decide +kernel⟩
theorem kw_X6_114 : KW RX6 114 yX6_pass cX6_pass 3 (some .int) 0 := ⟨bg_t 892 (by decide +kernel) rfl, bn_X6, bc_X6_pass, by decide +kernel, by decide +kernel, by decide +kernel⟩
theorem kw_X6_117 : KW RX6 117 yX6_isNoon cX6_isNoon 1 (some .boolean) 0 := ⟨bg_t 920 (by decide +kernel) rfl, bn_X6, bc_X6_isNoon, by decide +kernel, by decide +kernel, by decide +kernel⟩
theorem kw_X6_121 : KW RX6 121 yX6_noon cX6_noon 3 none 0 := ⟨bg_t 924 (by decide +kernel) rfl, bn_X6, bc_X6_noon, by decide +kernel, by decide +kernel, by decide +kernel⟩
theorem kw_X6_125 : KW RX6 125 yX6_isClock cX6_isClock 2 (some .boolean) 1 := ⟨bg_t 812 (by decide +kernel) rfl, bn_X6, bc_X6_isClock, by decide +kernel, by decide +kernel, by decide +kernel⟩
theorem kw_X6_129 : KW RX6 129 yX6_jug cX6_jug 1 (some .int) 1 := ⟨bg_t 829 (by decide +kernel) rfl, bn_X6, bc_X6_jug, by decide +kernel, by decide +kernel, by decide +kernel⟩
theorem kw_X6_132 : KW RX6 132 yX6_reason cX6_reason 3 (some .int) 2 := ⟨bg_t 825 (by decide +kernel) rfl, bn_X6, bc_X6_reason, by decide +kernel, by decide +kernel, by decide +kernel⟩
theorem kw_X6_136 : KW RX6 136 yX6_tick cX6_tick 2 (some .int) 0 := ⟨bg_t 888 (by decide +kernel) rfl, bn_X6, bc_X6_tick, by decide +kernel, by decide +kernel, by decide +kernel⟩
theorem kw_X6_139 : KW RX6 139 yX6_maySet cX6_maySet 2 (some .boolean) 2 := ⟨bg_t 948 (by decide +kernel) rfl, bn_X6, bc_X6_maySet, by decide +kernel, by decide +kernel, by decide +kernel⟩
theorem kw_X6_143 : KW RX6 143 yX6_note cX6_note 2 none 0 := ⟨bg_t 764 (by decide +kernel) rfl, bn_X6, bc_X6_note, by decide +kernel, by decide +kernel, by decide +kernel⟩
theorem kw_X6_146 : KW RX6 146 yX6_clockNow cX6_clockNow 6 (some .int) 3 := ⟨bg_t 768 (by decide +kernel) rfl, bn_X6, bc_X6_clockNow, by decide +kernel, by decide +kernel, by decide +kernel⟩
theorem kw_X6_150 : KW RX6 150 yX6_recorded cX6_recorded 3 (some .int) 1 := ⟨bg_t 797 (by decide +kernel) rfl, bn_X6, bc_X6_recorded, by decide +kernel, by decide +kernel, by decide +kernel⟩
theorem kw_X6_153 : KW RX6 153 yX6_leadNow cX6_leadNow 4 (some .int) 2 := ⟨bg_t 808 (by decide +kernel) rfl, bn_X6, bc_X6_leadNow, by decide +kernel, by decide +kernel, by decide +kernel⟩
theorem kw_X6_156 : KW RX6 156 yX6_pourNow cX6_pourNow 3 (some .int) 2 := ⟨bg_t 821 (by decide +kernel) rfl, bn_X6, bc_X6_pourNow, by decide +kernel, by decide +kernel, by decide +kernel⟩
theorem kw_X6_159 : KW RX6 159 yX6_waxNow cX6_waxNow 3 (some .int) 2 := ⟨bg_t 844 (by decide +kernel) rfl, bn_X6, bc_X6_waxNow, by decide +kernel, by decide +kernel, by decide +kernel⟩
theorem kw_X6_162 : KW RX6 162 yX6_pitchNow cX6_pitchNow 4 (some .int) 2 := ⟨bg_t 852 (by decide +kernel) rfl, bn_X6, bc_X6_pitchNow, by decide +kernel, by decide +kernel, by decide +kernel⟩
theorem kw_X6_165 : KW RX6 165 yX6_trueNow cX6_trueNow 3 (some .int) 1 := ⟨bg_t 864 (by decide +kernel) rfl, bn_X6, bc_X6_trueNow, by decide +kernel, by decide +kernel, by decide +kernel⟩
theorem kw_X6_168 : KW RX6 168 yX6_ticksNow cX6_ticksNow 4 (some .int) 1 := ⟨bg_t 883 (by decide +kernel) rfl, bn_X6, bc_X6_ticksNow, by decide +kernel, by decide +kernel, by decide +kernel⟩
theorem kw_X6_171 : KW RX6 171 yX6_setNow cX6_setNow 4 (some .int) 2 := ⟨bg_t 944 (by decide +kernel) rfl, bn_X6, bc_X6_setNow, by decide +kernel, by decide +kernel, by decide +kernel⟩
theorem kw_X6_175 : KW RX6 175 yX6_property cX6_property 4 (some .int) 2 := ⟨bg_t 967 (by decide +kernel) rfl, bn_X6, bc_X6_property, by decide +kernel, by decide +kernel, by decide +kernel⟩
theorem kw_X6_178 : KW RX6 178 yX6_sum cX6_sum 4 (some .int) 1 := ⟨bg_t 980 (by decide +kernel) rfl, bn_X6, bc_X6_sum, by decide +kernel, by decide +kernel, by decide +kernel⟩
theorem kw_X6_181 : KW RX6 181 yX6_putAside cX6_putAside 2 none 0 := ⟨bg_t 996 (by decide +kernel) rfl, bn_X6, bc_X6_putAside, by decide +kernel, by decide +kernel, by decide +kernel⟩
theorem kw_X6_184 : KW RX6 184 yX6_putBack cX6_putBack 2 none 0 := ⟨bg_t 1000 (by decide +kernel) rfl, bn_X6, bc_X6_putBack, by decide +kernel, by decide +kernel, by decide +kernel⟩
theorem kw_X6_187 : KW RX6 187 yX6_errorAtNoon cX6_errorAtNoon 5 (some .int) 2 := ⟨bg_t 1008 (by decide +kernel) rfl, bn_X6, bc_X6_errorAtNoon, by decide +kernel, by decide +kernel, by decide +kernel⟩
theorem kw_X6_190 : KW RX6 190 yX6_waxFor cX6_waxFor 6 (some .int) 1 := ⟨bg_t 1016 (by decide +kernel) rfl, bn_X6, bc_X6_waxFor, by decide +kernel, by decide +kernel, by decide +kernel⟩
theorem kw_X6_193 : KW RX6 193 yX6_rankOf cX6_rankOf 5 (some .int) 1 := ⟨bg_t 1024 (by decide +kernel) rfl, bn_X6, bc_X6_rankOf, by decide +kernel, by decide +kernel, by decide +kernel⟩
theorem kw_X6_196 : KW RX6 196 yJxf58ca_floatToIntBits_5c35a cJxf58ca_floatToIntBits_5c35a 1 (some .int) 1 := ⟨bg_t 1032 (by decide +kernel) rfl, bn_Jxf58ca, bc_Jxf58ca_floatToIntBits_5c35a, by decide +kernel, by decide +kernel, by decide +kernel⟩
theorem kw_X6_202 : KW RX6 202 yX6_clocksOff cX6_clocksOff 3 (some .int) 0 := ⟨bg_t 1050 (by decide +kernel) rfl, bn_X6, bc_X6_clocksOff, by decide +kernel, by decide +kernel, by decide +kernel⟩
theorem kw_X6_205 : KW RX6 205 yX6_clocksEmpty cX6_clocksEmpty 3 (some .int) 0 := ⟨bg_t 1054 (by decide +kernel) rfl, bn_X6, bc_X6_clocksEmpty, by decide +kernel, by decide +kernel, by decide +kernel⟩
theorem kw_X6_211 : KW RX6 211 yX6_number cX6_number 2 (some .int) 1 := ⟨bg_t 1046 (by decide +kernel) rfl, bn_X6, bc_X6_number, by decide +kernel, by decide +kernel, by decide +kernel⟩
theorem kw_X6_217 : KW RX6 217 yX6_isAt cX6_isAt 3 (some .boolean) 2 := ⟨bg_t 1085 (by decide +kernel) rfl, bn_X6, bc_X6_isAt, by decide +kernel, by decide +kernel, by decide +kernel⟩
theorem kw_X6_220 : KW RX6 220 yX6_numbersOf cX6_numbersOf 1 (some .int) 1 := ⟨bg_t 1078 (by decide +kernel) rfl, bn_X6, bc_X6_numbersOf, by decide +kernel, by decide +kernel, by decide +kernel⟩
theorem kw_X6_223 : KW RX6 223 yX6_readNumber cX6_readNumber 3 (some .boolean) 1 := ⟨bg_t 1081 (by decide +kernel) rfl, bn_X6, bc_X6_readNumber, by decide +kernel, by decide +kernel, by decide +kernel⟩
theorem kw_X6_226 : KW RX6 226 yX6_readSign cX6_readSign 3 (some .boolean) 1 := ⟨bg_t 1089 (by decide +kernel) rfl, bn_X6, bc_X6_readSign, by decide +kernel, by decide +kernel, by decide +kernel⟩
theorem kw_X6_235 : KW RX6 235 yX6_readOrder cX6_readOrder 4 (some .boolean) 0 := ⟨bg_t 1074 (by decide +kernel) rfl, bn_X6, bc_X6_readOrder, by decide +kernel, by decide +kernel, by decide +kernel⟩
theorem kw_X6_238 : KW RX6 238 yX6_doOrder cX6_doOrder 2 (some .int) 1 := ⟨bg_t 1093 (by decide +kernel) rfl, bn_X6, bc_X6_doOrder, by decide +kernel, by decide +kernel, by decide +kernel⟩
theorem kw_X6_247 : KW RX6 247 yX6_doOrders cX6_doOrders 5 none 0 := ⟨bg_t 1070 (by decide +kernel) rfl, bn_X6, bc_X6_doOrders, by decide +kernel, by decide +kernel, by decide +kernel⟩
theorem kw_Jxf58ca_59 : KW RJxf58ca 59 yJxf58ca_isNaN_12338 cJxf58ca_isNaN_12338 1 (some .boolean) 1 := ⟨bg_t 1035 (by decide +kernel) rfl, bn_Jxf58ca, bc_Jxf58ca_isNaN_12338, by decide +kernel, by decide +kernel, by decide +kernel⟩
theorem kw_X5_35 : KN RX5 35 yX4_init RX5 cX4_init 1 none 0 := ⟨nst_t 200 (by decide +kernel) rfl, bn_X4, bc_X4_init, by decide +kernel, by decide +kernel, by decide +kernel⟩
theorem kw_X0_18 : KN RX0 18 yX5_copy RX5 cX5_copy 3 none 2 := ⟨nst_t 281 (by decide +kernel) rfl, bn_X5, bc_X5_copy, by decide +kernel, by decide +kernel, by decide +kernel⟩
theorem kw_X0_33 : KN RX0 33 yX5_put RX5 cX5_put 3 none 3 := ⟨nst_t 468 (by decide +kernel) rfl, bn_X5, bc_X5_put, by decide +kernel, by decide +kernel, by decide +kernel⟩
theorem kw_X0_47 : KN RX0 47 yX5_element RX5 cX5_element 2 (some .int) 2 := ⟨nst_t 566 (by decide +kernel) rfl, bn_X5, bc_X5_element, by decide +kernel, by decide +kernel, by decide +kernel⟩
theorem kw_X1_67 : KN RX1 67 yX5_quotient RX5 cX5_quotient 2 (some .int) 2 := ⟨nst_t 402 (by decide +kernel) rfl, bn_X5, bc_X5_quotient, by decide +kernel, by decide +kernel, by decide +kernel⟩
theorem kw_X2_34 : KN RX2 34 yX5_element RX5 cX5_element 2 (some .int) 2 := ⟨nst_t 495 (by decide +kernel) rfl, bn_X5, bc_X5_element, by decide +kernel, by decide +kernel, by decide +kernel⟩
theorem kw_X3_19 : KN RX3 19 yX2_init RX5 cX2_init 1 none 0 := ⟨nst_t 28 (by decide +kernel) rfl, bn_X2, bc_X2_init, by decide +kernel, by decide +kernel, by decide +kernel⟩
theorem kw_X3_26 : KN RX3 26 yX0_init RX5 cX0_init 1 none 0 := ⟨nst_t 59 (by decide +kernel) rfl, bn_X0, bc_X0_init, by decide +kernel, by decide +kernel, by decide +kernel⟩
theorem kw_X3_96 : KN RX3 96 yX5_isJug RX5 cX5_isJug 1 (some .boolean) 1 := ⟨nst_t 338 (by decide +kernel) rfl, bn_X5, bc_X5_isJug, by decide +kernel, by decide +kernel, by decide +kernel⟩
theorem kw_X3_108 : KN RX3 108 yX5_element RX5 cX5_element 2 (some .int) 2 := ⟨nst_t 348 (by decide +kernel) rfl, bn_X5, bc_X5_element, by decide +kernel, by decide +kernel, by decide +kernel⟩
theorem kw_X3_212 : KN RX3 212 yX5_quotient RX5 cX5_quotient 2 (some .int) 2 := ⟨nst_t 294 (by decide +kernel) rfl, bn_X5, bc_X5_quotient, by decide +kernel, by decide +kernel, by decide +kernel⟩
theorem kw_X4_33 : KN RX4 33 yX5_element RX5 cX5_element 2 (some .int) 2 := ⟨nst_t 702 (by decide +kernel) rfl, bn_X5, bc_X5_element, by decide +kernel, by decide +kernel, by decide +kernel⟩
theorem kw_X4_71 : KN RX4 71 yX5_put RX5 cX5_put 3 none 3 := ⟨nst_t 689 (by decide +kernel) rfl, bn_X5, bc_X5_put, by decide +kernel, by decide +kernel, by decide +kernel⟩
end
section
/-! where each number stands -/
theorem sl_3_3 {ca : Nat → ClassId} {ad : I3 → Nat} {j : Nat} (hj : j < 9) : SL ca ad 3 (1, j, 0) 3 (false, j, 19) := sl_of (by simp [ownL, hj]) (fun G => ⟨_, rfl, rfl, Nat.le_of_ble_eq_true rfl, fun v => by simp [cell, gset, updA, upd]⟩)
theorem sl_3_4 {ca : Nat → ClassId} {ad : I3 → Nat} {j : Nat} (hj : j < 9) : SL ca ad 3 (1, j, 0) 4 (false, j, 6) := sl_of (by simp [ownL, hj]) (fun G => ⟨_, rfl, rfl, Nat.le_of_ble_eq_true rfl, fun v => by simp [cell, gset, updA, upd]⟩)
theorem sl_3_5 {ca : Nat → ClassId} {ad : I3 → Nat} {j : Nat} (hj : j < 9) : SL ca ad 3 (1, j, 0) 5 (false, j, 7) := sl_of (by simp [ownL, hj]) (fun G => ⟨_, rfl, rfl, Nat.le_of_ble_eq_true rfl, fun v => by simp [cell, gset, updA, upd]⟩)
theorem sl_3_6 {ca : Nat → ClassId} {ad : I3 → Nat} {j : Nat} (hj : j < 9) : SL ca ad 3 (1, j, 0) 6 (false, j, 8) := sl_of (by simp [ownL, hj]) (fun G => ⟨_, rfl, rfl, Nat.le_of_ble_eq_true rfl, fun v => by simp [cell, gset, updA, upd]⟩)
theorem sl_3_7 {ca : Nat → ClassId} {ad : I3 → Nat} {j : Nat} (hj : j < 9) : SL ca ad 3 (1, j, 0) 7 (false, j, 9) := sl_of (by simp [ownL, hj]) (fun G => ⟨_, rfl, rfl, Nat.le_of_ble_eq_true rfl, fun v => by simp [cell, gset, updA, upd]⟩)
theorem sl_3_8 {ca : Nat → ClassId} {ad : I3 → Nat} {j : Nat} (hj : j < 9) : SL ca ad 3 (1, j, 0) 8 (false, j, 10) := sl_of (by simp [ownL, hj]) (fun G => ⟨_, rfl, rfl, Nat.le_of_ble_eq_true rfl, fun v => by simp [cell, gset, updA, upd]⟩)
theorem sl_3_9 {ca : Nat → ClassId} {ad : I3 → Nat} {j : Nat} (hj : j < 9) : SL ca ad 3 (1, j, 0) 9 (false, j, 18) := sl_of (by simp [ownL, hj]) (fun G => ⟨_, rfl, rfl, Nat.le_of_ble_eq_true rfl, fun v => by simp [cell, gset, updA, upd]⟩)
theorem sl_3_10 {ca : Nat → ClassId} {ad : I3 → Nat} {j : Nat} (hj : j < 9) : SL ca ad 3 (1, j, 0) 10 (false, j, 11) := sl_of (by simp [ownL, hj]) (fun G => ⟨_, rfl, rfl, Nat.le_of_ble_eq_true rfl, fun v => by simp [cell, gset, updA, upd]⟩)
theorem sl_3_11 {ca : Nat → ClassId} {ad : I3 → Nat} {j : Nat} (hj : j < 9) : SL ca ad 3 (1, j, 0) 11 (false, j, 12) := sl_of (by simp [ownL, hj]) (fun G => ⟨_, rfl, rfl, Nat.le_of_ble_eq_true rfl, fun v => by simp [cell, gset, updA, upd]⟩)
theorem sl_3_12 {ca : Nat → ClassId} {ad : I3 → Nat} {j : Nat} (hj : j < 9) : SL ca ad 3 (1, j, 0) 12 (false, j, 13) := sl_of (by simp [ownL, hj]) (fun G => ⟨_, rfl, rfl, Nat.le_of_ble_eq_true rfl, fun v => by simp [cell, gset, updA, upd]⟩)
theorem sl_1_1 {ca : Nat → ClassId} {ad : I3 → Nat} {j q : Nat} (hj : j < 9) (hk : q < 5) : SL ca ad 1 (3, j, q) 1 (false, j, 20 + 15 * q + 0) := sl_of (by simp only [ownL]; rw [if_pos hj, if_neg (by omega), if_neg (by omega), if_neg (by omega), if_neg (by omega), if_pos (by omega)]; congr 2; omega) (fun G => ⟨_, rfl, rfl, Nat.le_of_ble_eq_true rfl, fun v => by simp [cell, gset, updA, upd]⟩)
theorem sl_1_2 {ca : Nat → ClassId} {ad : I3 → Nat} {j q : Nat} (hj : j < 9) (hk : q < 5) : SL ca ad 1 (3, j, q) 2 (false, j, 20 + 15 * q + 1) := sl_of (by simp only [ownL]; rw [if_pos hj, if_neg (by omega), if_neg (by omega), if_neg (by omega), if_neg (by omega), if_pos (by omega)]; congr 2; omega) (fun G => ⟨_, rfl, rfl, Nat.le_of_ble_eq_true rfl, fun v => by simp [cell, gset, updA, upd]⟩)
theorem sl_1_3 {ca : Nat → ClassId} {ad : I3 → Nat} {j q : Nat} (hj : j < 9) (hk : q < 5) : SL ca ad 1 (3, j, q) 3 (false, j, 20 + 15 * q + 2) := sl_of (by simp only [ownL]; rw [if_pos hj, if_neg (by omega), if_neg (by omega), if_neg (by omega), if_neg (by omega), if_pos (by omega)]; congr 2; omega) (fun G => ⟨_, rfl, rfl, Nat.le_of_ble_eq_true rfl, fun v => by simp [cell, gset, updA, upd]⟩)
theorem sl_1_4 {ca : Nat → ClassId} {ad : I3 → Nat} {j q : Nat} (hj : j < 9) (hk : q < 5) : SL ca ad 1 (3, j, q) 4 (false, j, 20 + 15 * q + 5) := sl_of (by simp only [ownL]; rw [if_pos hj, if_neg (by omega), if_neg (by omega), if_neg (by omega), if_neg (by omega), if_pos (by omega)]; congr 2; omega) (fun G => ⟨_, rfl, rfl, Nat.le_of_ble_eq_true rfl, fun v => by simp [cell, gset, updA, upd]⟩)
theorem sl_1_5 {ca : Nat → ClassId} {ad : I3 → Nat} {j q : Nat} (hj : j < 9) (hk : q < 5) : SL ca ad 1 (3, j, q) 5 (false, j, 20 + 15 * q + 3) := sl_of (by simp only [ownL]; rw [if_pos hj, if_neg (by omega), if_neg (by omega), if_neg (by omega), if_neg (by omega), if_pos (by omega)]; congr 2; omega) (fun G => ⟨_, rfl, rfl, Nat.le_of_ble_eq_true rfl, fun v => by simp [cell, gset, updA, upd]⟩)
theorem sl_1_6 {ca : Nat → ClassId} {ad : I3 → Nat} {j q : Nat} (hj : j < 9) (hk : q < 5) : SL ca ad 1 (3, j, q) 6 (false, j, 20 + 15 * q + 4) := sl_of (by simp only [ownL]; rw [if_pos hj, if_neg (by omega), if_neg (by omega), if_neg (by omega), if_neg (by omega), if_pos (by omega)]; congr 2; omega) (fun G => ⟨_, rfl, rfl, Nat.le_of_ble_eq_true rfl, fun v => by simp [cell, gset, updA, upd]⟩)
theorem sl_1_7 {ca : Nat → ClassId} {ad : I3 → Nat} {j q : Nat} (hj : j < 9) (hk : q < 5) : SL ca ad 1 (3, j, q) 7 (false, j, 20 + 15 * q + 6) := sl_of (by simp only [ownL]; rw [if_pos hj, if_neg (by omega), if_neg (by omega), if_neg (by omega), if_neg (by omega), if_pos (by omega)]; congr 2; omega) (fun G => ⟨_, rfl, rfl, Nat.le_of_ble_eq_true rfl, fun v => by simp [cell, gset, updA, upd]⟩)
theorem sl_1_8 {ca : Nat → ClassId} {ad : I3 → Nat} {j q : Nat} (hj : j < 9) (hk : q < 5) : SL ca ad 1 (3, j, q) 8 (false, j, 20 + 15 * q + 7) := sl_of (by simp only [ownL]; rw [if_pos hj, if_neg (by omega), if_neg (by omega), if_neg (by omega), if_neg (by omega), if_pos (by omega)]; congr 2; omega) (fun G => ⟨_, rfl, rfl, Nat.le_of_ble_eq_true rfl, fun v => by simp [cell, gset, updA, upd]⟩)
theorem sl_1_9 {ca : Nat → ClassId} {ad : I3 → Nat} {j q : Nat} (hj : j < 9) (hk : q < 5) : SL ca ad 1 (3, j, q) 9 (false, j, 20 + 15 * q + 12) := sl_of (by simp only [ownL]; rw [if_pos hj, if_neg (by omega), if_neg (by omega), if_neg (by omega), if_neg (by omega), if_pos (by omega)]; congr 2; omega) (fun G => ⟨_, rfl, rfl, Nat.le_of_ble_eq_true rfl, fun v => by simp [cell, gset, updA, upd]⟩)
theorem sl_1_10 {ca : Nat → ClassId} {ad : I3 → Nat} {j q : Nat} (hj : j < 9) (hk : q < 5) : SL ca ad 1 (3, j, q) 10 (false, j, 20 + 15 * q + 8) := sl_of (by simp only [ownL]; rw [if_pos hj, if_neg (by omega), if_neg (by omega), if_neg (by omega), if_neg (by omega), if_pos (by omega)]; congr 2; omega) (fun G => ⟨_, rfl, rfl, Nat.le_of_ble_eq_true rfl, fun v => by simp [cell, gset, updA, upd]⟩)
theorem sl_1_11 {ca : Nat → ClassId} {ad : I3 → Nat} {j q : Nat} (hj : j < 9) (hk : q < 5) : SL ca ad 1 (3, j, q) 11 (false, j, 20 + 15 * q + 9) := sl_of (by simp only [ownL]; rw [if_pos hj, if_neg (by omega), if_neg (by omega), if_neg (by omega), if_neg (by omega), if_pos (by omega)]; congr 2; omega) (fun G => ⟨_, rfl, rfl, Nat.le_of_ble_eq_true rfl, fun v => by simp [cell, gset, updA, upd]⟩)
theorem sl_1_12 {ca : Nat → ClassId} {ad : I3 → Nat} {j q : Nat} (hj : j < 9) (hk : q < 5) : SL ca ad 1 (3, j, q) 12 (false, j, 20 + 15 * q + 10) := sl_of (by simp only [ownL]; rw [if_pos hj, if_neg (by omega), if_neg (by omega), if_neg (by omega), if_neg (by omega), if_pos (by omega)]; congr 2; omega) (fun G => ⟨_, rfl, rfl, Nat.le_of_ble_eq_true rfl, fun v => by simp [cell, gset, updA, upd]⟩)
theorem sl_1_13 {ca : Nat → ClassId} {ad : I3 → Nat} {j q : Nat} (hj : j < 9) (hk : q < 5) : SL ca ad 1 (3, j, q) 13 (false, j, 20 + 15 * q + 11) := sl_of (by simp only [ownL]; rw [if_pos hj, if_neg (by omega), if_neg (by omega), if_neg (by omega), if_neg (by omega), if_pos (by omega)]; congr 2; omega) (fun G => ⟨_, rfl, rfl, Nat.le_of_ble_eq_true rfl, fun v => by simp [cell, gset, updA, upd]⟩)
theorem sl_1_14 {ca : Nat → ClassId} {ad : I3 → Nat} {j q : Nat} (hj : j < 9) (hk : q < 5) : SL ca ad 1 (3, j, q) 14 (false, j, 20 + 15 * q + 13) := sl_of (by simp only [ownL]; rw [if_pos hj, if_neg (by omega), if_neg (by omega), if_neg (by omega), if_neg (by omega), if_pos (by omega)]; congr 2; omega) (fun G => ⟨_, rfl, rfl, Nat.le_of_ble_eq_true rfl, fun v => by simp [cell, gset, updA, upd]⟩)
theorem sl_1_15 {ca : Nat → ClassId} {ad : I3 → Nat} {j q : Nat} (hj : j < 9) (hk : q < 5) : SL ca ad 1 (3, j, q) 15 (false, j, 20 + 15 * q + 14) := sl_of (by simp only [ownL]; rw [if_pos hj, if_neg (by omega), if_neg (by omega), if_neg (by omega), if_neg (by omega), if_pos (by omega)]; congr 2; omega) (fun G => ⟨_, rfl, rfl, Nat.le_of_ble_eq_true rfl, fun v => by simp [cell, gset, updA, upd]⟩)
theorem sl_2_0 {ca : Nat → ClassId} {ad : I3 → Nat} {j : Nat} (hj : j < 9) : SL ca ad 2 (4, j, 0) 0 (false, j, 0) := sl_of (by simp [ownL, hj]) (fun G => ⟨_, rfl, rfl, Nat.le_of_ble_eq_true rfl, fun v => by simp [cell, gset, updA, upd]⟩)
theorem sl_2_1 {ca : Nat → ClassId} {ad : I3 → Nat} {j : Nat} (hj : j < 9) : SL ca ad 2 (4, j, 0) 1 (false, j, 1) := sl_of (by simp [ownL, hj]) (fun G => ⟨_, rfl, rfl, Nat.le_of_ble_eq_true rfl, fun v => by simp [cell, gset, updA, upd]⟩)
theorem sl_2_2 {ca : Nat → ClassId} {ad : I3 → Nat} {j : Nat} (hj : j < 9) : SL ca ad 2 (4, j, 0) 2 (false, j, 2) := sl_of (by simp [ownL, hj]) (fun G => ⟨_, rfl, rfl, Nat.le_of_ble_eq_true rfl, fun v => by simp [cell, gset, updA, upd]⟩)
theorem sl_2_3 {ca : Nat → ClassId} {ad : I3 → Nat} {j : Nat} (hj : j < 9) : SL ca ad 2 (4, j, 0) 3 (false, j, 3) := sl_of (by simp [ownL, hj]) (fun G => ⟨_, rfl, rfl, Nat.le_of_ble_eq_true rfl, fun v => by simp [cell, gset, updA, upd]⟩)
theorem sl_2_4 {ca : Nat → ClassId} {ad : I3 → Nat} {j : Nat} (hj : j < 9) : SL ca ad 2 (4, j, 0) 4 (false, j, 4) := sl_of (by simp [ownL, hj]) (fun G => ⟨_, rfl, rfl, Nat.le_of_ble_eq_true rfl, fun v => by simp [cell, gset, updA, upd]⟩)
theorem sl_2_5 {ca : Nat → ClassId} {ad : I3 → Nat} {j : Nat} (hj : j < 9) : SL ca ad 2 (4, j, 0) 5 (false, j, 5) := sl_of (by simp [ownL, hj]) (fun G => ⟨_, rfl, rfl, Nat.le_of_ble_eq_true rfl, fun v => by simp [cell, gset, updA, upd]⟩)
theorem sl_0_2 {ca : Nat → ClassId} {ad : I3 → Nat} {j : Nat} (hj : j < 9) : SL ca ad 0 (5, j, 0) 2 (false, j, 14) := sl_of (by simp [ownL, hj]) (fun G => ⟨_, rfl, rfl, Nat.le_of_ble_eq_true rfl, fun v => by simp [cell, gset, updA, upd]⟩)
theorem sl_0_3 {ca : Nat → ClassId} {ad : I3 → Nat} {j : Nat} (hj : j < 9) : SL ca ad 0 (5, j, 0) 3 (false, j, 15) := sl_of (by simp [ownL, hj]) (fun G => ⟨_, rfl, rfl, Nat.le_of_ble_eq_true rfl, fun v => by simp [cell, gset, updA, upd]⟩)
theorem sl_4_2 {ca : Nat → ClassId} {ad : I3 → Nat} : SL ca ad 4 (11, 0, 0) 2 (false, 11, 0) := sl_of (by simp [ownL]) (fun G => ⟨_, rfl, rfl, Nat.le_of_ble_eq_true rfl, fun v => by simp [cell, gset, updA, upd]⟩)
theorem sl_4_3 {ca : Nat → ClassId} {ad : I3 → Nat} : SL ca ad 4 (11, 0, 0) 3 (false, 11, 1) := sl_of (by simp [ownL]) (fun G => ⟨_, rfl, rfl, Nat.le_of_ble_eq_true rfl, fun v => by simp [cell, gset, updA, upd]⟩)
theorem sl_4_4 {ca : Nat → ClassId} {ad : I3 → Nat} : SL ca ad 4 (11, 0, 0) 4 (false, 11, 2) := sl_of (by simp [ownL]) (fun G => ⟨_, rfl, rfl, Nat.le_of_ble_eq_true rfl, fun v => by simp [cell, gset, updA, upd]⟩)
theorem sl_4_5 {ca : Nat → ClassId} {ad : I3 → Nat} : SL ca ad 4 (11, 0, 0) 5 (false, 11, 3) := sl_of (by simp [ownL]) (fun G => ⟨_, rfl, rfl, Nat.le_of_ble_eq_true rfl, fun v => by simp [cell, gset, updA, upd]⟩)
theorem sl_4_6 {ca : Nat → ClassId} {ad : I3 → Nat} : SL ca ad 4 (11, 0, 0) 6 (false, 11, 4) := sl_of (by simp [ownL]) (fun G => ⟨_, rfl, rfl, Nat.le_of_ble_eq_true rfl, fun v => by simp [cell, gset, updA, upd]⟩)
theorem sl_4_7 {ca : Nat → ClassId} {ad : I3 → Nat} : SL ca ad 4 (11, 0, 0) 7 (false, 11, 5) := sl_of (by simp [ownL]) (fun G => ⟨_, rfl, rfl, Nat.le_of_ble_eq_true rfl, fun v => by simp [cell, gset, updA, upd]⟩)
theorem sl_5_7 {ca : Nat → ClassId} {ad : I3 → Nat} : SL ca ad 5 (0, 0, 0) 7 (false, 13, 0) := sl_of (by simp [ownL]) (fun G => ⟨_, rfl, rfl, Nat.le_of_ble_eq_true rfl, fun v => by simp [cell, gset, updA, upd]⟩)
theorem sl_6_3 {ca : Nat → ClassId} {ad : I3 → Nat} : SL ca ad 6 (14, 0, 0) 3 (true, 8, 0) := sl_of (by simp [ownL]) (fun G => ⟨_, rfl, rfl, Nat.le_of_ble_eq_true rfl, fun v => by simp [cell, gset, updA, upd]⟩)
theorem sl_6_8 {ca : Nat → ClassId} {ad : I3 → Nat} : SL ca ad 6 (14, 0, 0) 8 (true, 8, 1) := sl_of (by simp [ownL]) (fun G => ⟨_, rfl, rfl, Nat.le_of_ble_eq_true rfl, fun v => by simp [cell, gset, updA, upd]⟩)
theorem sl_6_9 {ca : Nat → ClassId} {ad : I3 → Nat} : SL ca ad 6 (14, 0, 0) 9 (true, 8, 2) := sl_of (by simp [ownL]) (fun G => ⟨_, rfl, rfl, Nat.le_of_ble_eq_true rfl, fun v => by simp [cell, gset, updA, upd]⟩)
theorem sl_6_11 {ca : Nat → ClassId} {ad : I3 → Nat} : SL ca ad 6 (14, 0, 0) 11 (true, 8, 3) := sl_of (by simp [ownL]) (fun G => ⟨_, rfl, rfl, Nat.le_of_ble_eq_true rfl, fun v => by simp [cell, gset, updA, upd]⟩)
theorem sl_6_12 {ca : Nat → ClassId} {ad : I3 → Nat} : SL ca ad 6 (14, 0, 0) 12 (true, 8, 4) := sl_of (by simp [ownL]) (fun G => ⟨_, rfl, rfl, Nat.le_of_ble_eq_true rfl, fun v => by simp [cell, gset, updA, upd]⟩)
theorem sl_6_13 {ca : Nat → ClassId} {ad : I3 → Nat} : SL ca ad 6 (14, 0, 0) 13 (true, 8, 5) := sl_of (by simp [ownL]) (fun G => ⟨_, rfl, rfl, Nat.le_of_ble_eq_true rfl, fun v => by simp [cell, gset, updA, upd]⟩)
theorem sl_6_14 {ca : Nat → ClassId} {ad : I3 → Nat} : SL ca ad 6 (14, 0, 0) 14 (true, 8, 6) := sl_of (by simp [ownL]) (fun G => ⟨_, rfl, rfl, Nat.le_of_ble_eq_true rfl, fun v => by simp [cell, gset, updA, upd]⟩)
theorem rl_3_0 {ca : Nat → ClassId} {ad : I3 → Nat} {j : Nat} : RK ca ad 3 (1, j, 0) 0 (2, j, 0) := fun G => ⟨_, rfl, rfl⟩
theorem rl_3_1 {ca : Nat → ClassId} {ad : I3 → Nat} {j : Nat} : RK ca ad 3 (1, j, 0) 1 (4, j, 0) := fun G => ⟨_, rfl, rfl⟩
theorem rl_3_2 {ca : Nat → ClassId} {ad : I3 → Nat} {j : Nat} : RK ca ad 3 (1, j, 0) 2 (5, j, 0) := fun G => ⟨_, rfl, rfl⟩
theorem rl_0_0 {ca : Nat → ClassId} {ad : I3 → Nat} {j : Nat} : RK ca ad 0 (5, j, 0) 0 (6, j, 0) := fun G => ⟨_, rfl, rfl⟩
theorem rl_0_1 {ca : Nat → ClassId} {ad : I3 → Nat} {j : Nat} : RK ca ad 0 (5, j, 0) 1 (7, j, 0) := fun G => ⟨_, rfl, rfl⟩
theorem rl_5_0 {ca : Nat → ClassId} {ad : I3 → Nat} : RK ca ad 5 (0, 0, 0) 0 (1, 0, 0) := fun G => ⟨_, rfl, rfl⟩
theorem rl_5_1 {ca : Nat → ClassId} {ad : I3 → Nat} : RK ca ad 5 (0, 0, 0) 1 (1, 1, 0) := fun G => ⟨_, rfl, rfl⟩
theorem rl_5_2 {ca : Nat → ClassId} {ad : I3 → Nat} : RK ca ad 5 (0, 0, 0) 2 (8, 0, 0) := fun G => ⟨_, rfl, rfl⟩
theorem rl_5_3 {ca : Nat → ClassId} {ad : I3 → Nat} : RK ca ad 5 (0, 0, 0) 3 (9, 0, 0) := fun G => ⟨_, rfl, rfl⟩
theorem rl_5_4 {ca : Nat → ClassId} {ad : I3 → Nat} : RK ca ad 5 (0, 0, 0) 4 (10, 0, 0) := fun G => ⟨_, rfl, rfl⟩
theorem rl_5_5 {ca : Nat → ClassId} {ad : I3 → Nat} : RK ca ad 5 (0, 0, 0) 5 (11, 0, 0) := fun G => ⟨_, rfl, rfl⟩
theorem rl_4_0 {ca : Nat → ClassId} {ad : I3 → Nat} : RK ca ad 4 (11, 0, 0) 0 (12, 0, 0) := fun G => ⟨_, rfl, rfl⟩
theorem rl_4_1 {ca : Nat → ClassId} {ad : I3 → Nat} : RK ca ad 4 (11, 0, 0) 1 (13, 0, 0) := fun G => ⟨_, rfl, rfl⟩
theorem rl_6_0 {ca : Nat → ClassId} {ad : I3 → Nat} : RK ca ad 6 (14, 0, 0) 0 (15, 0, 0) := fun G => ⟨_, rfl, rfl⟩
theorem rl_6_1 {ca : Nat → ClassId} {ad : I3 → Nat} : RK ca ad 6 (14, 0, 0) 1 (15, 1, 0) := fun G => ⟨_, rfl, rfl⟩
theorem rl_6_2 {ca : Nat → ClassId} {ad : I3 → Nat} : RK ca ad 6 (14, 0, 0) 2 (15, 2, 0) := fun G => ⟨_, rfl, rfl⟩
theorem rl_6_4 {ca : Nat → ClassId} {ad : I3 → Nat} : RK ca ad 6 (14, 0, 0) 4 (15, 3, 0) := fun G => ⟨_, rfl, rfl⟩
theorem rl_6_5 {ca : Nat → ClassId} {ad : I3 → Nat} : RK ca ad 6 (14, 0, 0) 5 (16, 0, 0) := fun G => ⟨_, rfl, rfl⟩
theorem rl_6_6 {ca : Nat → ClassId} {ad : I3 → Nat} : RK ca ad 6 (14, 0, 0) 6 (15, 5, 0) := fun G => ⟨_, rfl, rfl⟩
theorem rl_6_7 {ca : Nat → ClassId} {ad : I3 → Nat} : RK ca ad 6 (14, 0, 0) 7 (15, 6, 0) := fun G => ⟨_, rfl, rfl⟩
theorem rl_6_10 {ca : Nat → ClassId} {ad : I3 → Nat} : RK ca ad 6 (14, 0, 0) 10 (15, 7, 0) := fun G => ⟨_, rfl, rfl⟩
theorem al_6 {ca : Nat → ClassId} {ad : I3 → Nat} {j : Nat} (hj : j < 9) : AL ca ad (6, j, 0) 0 4 false j 96 := ⟨fun i hi => by simp only [ownL]; rw [if_pos hj, if_neg (by omega), if_neg (by omega), if_neg (by omega), if_neg (by omega), if_neg (by omega), if_neg (by omega), if_pos (by omega)], fun G => rfl⟩
theorem al_7 {ca : Nat → ClassId} {ad : I3 → Nat} {j : Nat} (hj : j < 9) : AL ca ad (7, j, 0) 0 20 false j 100 := ⟨fun i hi => by simp only [ownL]; rw [if_pos hj, if_neg (by omega), if_neg (by omega), if_neg (by omega), if_neg (by omega), if_neg (by omega), if_neg (by omega), if_neg (by omega)], fun G => rfl⟩
theorem al_10 {ca : Nat → ClassId} {ad : I3 → Nat} : AL ca ad (10, 0, 0) 2 2 false 12 0 := ⟨fun i hi => by simp [ownL], fun G => rfl⟩
theorem al_12 {ca : Nat → ClassId} {ad : I3 → Nat} : AL ca ad (12, 0, 0) 1 60 false 9 0 := ⟨fun i hi => by simp [ownL], fun G => rfl⟩
theorem al_13 {ca : Nat → ClassId} {ad : I3 → Nat} : AL ca ad (13, 0, 0) 0 3 false 10 0 := ⟨fun i hi => by simp [ownL], fun G => rfl⟩
theorem al_15_0 {ca : Nat → ClassId} {ad : I3 → Nat} : AL ca ad (15, 0, 0) 0 120 true 0 0 := ⟨fun i hi => by simp [ownL], fun G => rfl⟩
theorem al_15_1 {ca : Nat → ClassId} {ad : I3 → Nat} : AL ca ad (15, 1, 0) 0 120 true 1 0 := ⟨fun i hi => by simp [ownL], fun G => rfl⟩
theorem al_15_2 {ca : Nat → ClassId} {ad : I3 → Nat} : AL ca ad (15, 2, 0) 0 480 true 2 0 := ⟨fun i hi => by simp [ownL], fun G => rfl⟩
theorem al_15_3 {ca : Nat → ClassId} {ad : I3 → Nat} : AL ca ad (15, 3, 0) 0 240 true 3 0 := ⟨fun i hi => by simp [ownL], fun G => rfl⟩
theorem al_15_5 {ca : Nat → ClassId} {ad : I3 → Nat} : AL ca ad (15, 5, 0) 0 120 true 5 0 := ⟨fun i hi => by simp [ownL], fun G => rfl⟩
theorem al_15_6 {ca : Nat → ClassId} {ad : I3 → Nat} : AL ca ad (15, 6, 0) 0 60 true 6 0 := ⟨fun i hi => by simp [ownL], fun G => rfl⟩
theorem al_15_7 {ca : Nat → ClassId} {ad : I3 → Nat} : AL ca ad (15, 7, 0) 0 3 true 7 0 := ⟨fun i hi => by simp [ownL], fun G => rfl⟩
theorem al_16 {ca : Nat → ClassId} {ad : I3 → Nat} : AL ca ad (16, 0, 0) 2 2 true 4 0 := ⟨fun i hi => by simp [ownL], fun G => rfl⟩
theorem oc_0 {ca : Nat → ClassId} {ad : I3 → Nat} : OC ca ad (0, 0, 0) RX5 := fun G => ⟨_, _, _, rfl, rfl, rfl⟩
theorem oc_1 {ca : Nat → ClassId} {ad : I3 → Nat} {j : Nat} : OC ca ad (1, j, 0) RX3 := fun G => ⟨_, _, _, rfl, rfl, rfl⟩
theorem oc_3 {ca : Nat → ClassId} {ad : I3 → Nat} {j q : Nat} : OC ca ad (3, j, q) RX1 := fun G => ⟨_, _, _, rfl, rfl, rfl⟩
theorem oc_4 {ca : Nat → ClassId} {ad : I3 → Nat} {j : Nat} : OC ca ad (4, j, 0) RX2 := fun G => ⟨_, _, _, rfl, rfl, rfl⟩
theorem oc_5 {ca : Nat → ClassId} {ad : I3 → Nat} {j : Nat} : OC ca ad (5, j, 0) RX0 := fun G => ⟨_, _, _, rfl, rfl, rfl⟩
theorem oc_11 {ca : Nat → ClassId} {ad : I3 → Nat} : OC ca ad (11, 0, 0) RX4 := fun G => ⟨_, _, _, rfl, rfl, rfl⟩
theorem oc_14 {ca : Nat → ClassId} {ad : I3 → Nat} : OC ca ad (14, 0, 0) RX6 := fun G => ⟨_, _, _, rfl, rfl, rfl⟩
theorem id_c0 : (0, 0, 0) ∈ idL := by decide +kernel
theorem id_c8 : (8, 0, 0) ∈ idL := by decide +kernel
theorem id_c9 : (9, 0, 0) ∈ idL := by decide +kernel
theorem id_c10 : (10, 0, 0) ∈ idL := by decide +kernel
theorem id_c11 : (11, 0, 0) ∈ idL := by decide +kernel
theorem id_c12 : (12, 0, 0) ∈ idL := by decide +kernel
theorem id_c13 : (13, 0, 0) ∈ idL := by decide +kernel
theorem id_c14 : (14, 0, 0) ∈ idL := by decide +kernel
theorem id_c16 : (16, 0, 0) ∈ idL := by decide +kernel
theorem id_m0 : (15, 0, 0) ∈ idL := by decide +kernel
theorem id_m1 : (15, 1, 0) ∈ idL := by decide +kernel
theorem id_m2 : (15, 2, 0) ∈ idL := by decide +kernel
theorem id_m3 : (15, 3, 0) ∈ idL := by decide +kernel
theorem id_m5 : (15, 5, 0) ∈ idL := by decide +kernel
theorem id_m6 : (15, 6, 0) ∈ idL := by decide +kernel
theorem id_m7 : (15, 7, 0) ∈ idL := by decide +kernel
/-! the levels: a state's row, the class's numbers, the model's numbers within the whole picture -/
def eS (G0 : GS) (j : Nat) (σ : Nat → Int32) : GS := (updA G0.1 j σ, G0.2)
theorem eS_get {G0 : GS} {j : Nat} {σ : Nat → Int32} {i : Nat} : gget (eS G0 j σ) (false, j, i) = σ i := by
  show updA G0.1 j σ j i = σ i
  rw [updA_same]
theorem eS_set {G0 : GS} {j : Nat} {σ σ' : Nat → Int32} {i : Nat} {v : Int32} (h : upd σ i v = σ') : gset (eS G0 j σ) (false, j, i) v = eS G0 j σ' := by
  subst h
  show (updA (updA G0.1 j σ) j (upd (updA G0.1 j σ j) i v), G0.2) = (updA G0.1 j (upd σ i v), G0.2)
  rw [updA_same, updA_updA]
theorem eS_self (C : Nat → Nat → Int32) (R : (Nat → Fin 9) × (Nat → Nat → Int32)) (j : Nat) : eS (C, R) j (C j) = (C, R) := by
  show (updA C j (C j), R) = (C, R)
  rw [updA_self]
theorem eS_to {G0 : GS} {j : Nat} {σ : Nat → Int32} {C' : Nat → Nat → Int32} (h : updA G0.1 j σ = C') : eS G0 j σ = (C', G0.2) := by
  subst h; rfl
def setC (C : Nat → Nat → Int32) (a i : Nat) (v : Int32) : Nat → Nat → Int32 := updA C a (upd (C a) i v)
theorem eC_set {C C' : Nat → Nat → Int32} {R : (Nat → Fin 9) × (Nat → Nat → Int32)} {a i : Nat} {v : Int32} (h : setC C a i v = C') : gset (C, R) (false, a, i) v = (C', R) := by subst h; rfl
theorem eM_set {C : Nat → Nat → Int32} {B : Nat → Fin 9} {M M' : Nat → Nat → Int32} {a i : Nat} {v : Int32} (h : setC M a i v = M') : gset (C, B, M) (true, a, i) v = (C, B, M') := by subst h; rfl
def lt {α β : Type} (x : α) (f : α → β) : β := f x
theorem lt_some {α β : Type} {x : α} {f : α → β} {r : β} (h : lt x f = r) : ∃ y, x = y ∧ f y = r := ⟨x, rfl, h⟩
def onN {α : Type} (r : Option Nat) (A : α) (B : Nat → α) : α := match r with
  | none => A
  | some k => B k
theorem onN_none {α : Type} {A r : α} {B : Nat → α} (h : onN none A B = r) : A = r := h
theorem onN_some {α : Type} {A r : α} {B : Nat → α} {k : Nat} (h : onN (some k) A B = r) : B k = r := h
def fuel : Nat := 2000
theorem j_sub {D : va_G} {ca : Nat → ClassId} {ad : I3 → Nat} {p : Program} {l : Launch} {e : Env} {R : Room} {s : State} {m : MethodId} {args : Array Value} {below : List Frame} {meth : Method} {c : Code} {nL : Nat} {k n : Nat} {Q : State → Prop} {G : GS} {pc : Nat} {lv lv' : List (Nat × Value)} {st : List Value} (ks : List Nat) (h : lv_pick lv ks = lv') (kk : J D ca ad p l e R s m args below meth c k n Q nL G pc lv' st) : J D ca ad p l e R s m args below meth c k n Q nL G pc lv st := fun H locs ls hP hS hl => kk H locs ls hP hS (lv_sub hl ks h)
theorem none_ne {α : Type} {r : α} (h : (none : Option α) = some r) : False := nomatch h
section JSW
variable {D : va_G} {ca : Nat → ClassId} {ad : I3 → Nat} {p : Program} {l : Launch} {e : Env} {R : Room} {s : State} {m : MethodId} {args : Array Value} {below : List Frame} {meth : Method} {c : Code} {cc : ByteArray} {nL : Nat} {ow : String} {k n : Nat} {Q : State → Prop} {G : GS} {pc : Nat} {lv : List (Nat × Value)} {st : List Value}
theorem j_tableEq (C0 : Cx D ca ad p s m args meth c cc nL ow) (v : Int32) {dflt lo hi : Int} {offs : Array Int} {len : Nat} {x : Int32} {off : Int} {tgt : Nat} (hx : x = v) (hdg : decode cc pc = .ok (.tableswitch dflt lo hi offs, len)) (h1 : ¬ v.toInt < lo) (h2 : ¬ hi < v.toInt) (ho : offs[(v.toInt - lo).toNat]? = some off) (ht : (pc : Int) + off = (tgt : Int)) (kk : J D ca ad p l e R s m args below meth c k n Q nL G tgt lv st) : J D ca ad p l e R s m args below meth c k n Q nL G pc lv (.int x :: st) := by
  subst hx
  exact j_tableIn C0 hdg h1 h2 ho ht kk
theorem j_lookupEq (C0 : Cx D ca ad p s m args meth c cc nL ow) (v : Int32) {dflt : Int} {ps : Array (Int × Int)} {len : Nat} {x : Int32} {off : Int} {tgt : Nat} (hx : x = v) (hdg : decode cc pc = .ok (.lookupswitch dflt ps, len)) (hp : (ps.toList.zip (ps.toList.drop 1)).all (fun (a, next) => a.1 < next.1) = true) (ho : Op.lookupswitch.offset ps.toList dflt v.toInt = off) (ht : (pc : Int) + off = (tgt : Int)) (kk : J D ca ad p l e R s m args below meth c k n Q nL G tgt lv st) : J D ca ad p l e R s m args below meth c k n Q nL G pc lv (.int x :: st) := by
  subst hx
  exact j_lookup C0 hdg hp ho ht kk
end JSW
end
