theorem dX5_copy_26 : decode cX5_copy 26 = .ok (.return_, 1) := by decide +kernel
theorem dX5_quotient_0 : decode cX5_quotient 0 = .ok (.iload_n 1, 1) := by decide +kernel
theorem dX5_quotient_1 : decode cX5_quotient 1 = .ok (.iconst 1, 1) := by decide +kernel
theorem dX5_quotient_2 : decode cX5_quotient 2 = .ok (.if_icmp .ge 7, 3) := by decide +kernel
theorem dX5_quotient_5 : decode cX5_quotient 5 = .ok (.iconst 0, 1) := by decide +kernel
theorem dX5_quotient_6 : decode cX5_quotient 6 = .ok (.goto 8, 3) := by decide +kernel
theorem dX5_quotient_9 : decode cX5_quotient 9 = .ok (.iload_n 0, 1) := by decide +kernel
theorem dX5_quotient_10 : decode cX5_quotient 10 = .ok (.iload_n 1, 1) := by decide +kernel
theorem dX5_quotient_11 : decode cX5_quotient 11 = .ok (.invokestatic 264, 3) := by decide +kernel
theorem dX5_quotient_14 : decode cX5_quotient 14 = .ok (.ireturn, 1) := by decide +kernel
theorem dX5_bitsOf_0 : decode cX5_bitsOf 0 = .ok (.fload_n 0, 1) := by decide +kernel
theorem dX5_bitsOf_1 : decode cX5_bitsOf 1 = .ok (.fconst 0, 1) := by decide +kernel
theorem dX5_bitsOf_2 : decode cX5_bitsOf 2 = .ok (.fcmp .g, 1) := by decide +kernel
theorem dX5_bitsOf_3 : decode cX5_bitsOf 3 = .ok (.ifCond .gt 5, 3) := by decide +kernel
theorem dX5_bitsOf_6 : decode cX5_bitsOf 6 = .ok (.iconst 0, 1) := by decide +kernel
theorem dX5_bitsOf_7 : decode cX5_bitsOf 7 = .ok (.ireturn, 1) := by decide +kernel
theorem dX5_bitsOf_8 : decode cX5_bitsOf 8 = .ok (.fload_n 0, 1) := by decide +kernel
theorem dX5_bitsOf_9 : decode cX5_bitsOf 9 = .ok (.fstore_n 1, 1) := by decide +kernel
theorem dX5_bitsOf_10 : decode cX5_bitsOf 10 = .ok (.iconst 0, 1) := by decide +kernel
theorem dX5_bitsOf_11 : decode cX5_bitsOf 11 = .ok (.istore_n 2, 1) := by decide +kernel
theorem dX5_bitsOf_12 : decode cX5_bitsOf 12 = .ok (.fload_n 1, 1) := by decide +kernel
theorem dX5_bitsOf_13 : decode cX5_bitsOf 13 = .ok (.fconst 2, 1) := by decide +kernel
theorem dX5_bitsOf_14 : decode cX5_bitsOf 14 = .ok (.fcmp .l, 1) := by decide +kernel
theorem dX5_bitsOf_15 : decode cX5_bitsOf 15 = .ok (.ifCond .lt 19, 3) := by decide +kernel
theorem dX5_bitsOf_18 : decode cX5_bitsOf 18 = .ok (.iload_n 2, 1) := by decide +kernel
theorem dX5_bitsOf_19 : decode cX5_bitsOf 19 = .ok (.bipush 127, 2) := by decide +kernel
theorem dX5_bitsOf_21 : decode cX5_bitsOf 21 = .ok (.if_icmp .ge 13, 3) := by decide +kernel
theorem dX5_bitsOf_24 : decode cX5_bitsOf 24 = .ok (.fload_n 1, 1) := by decide +kernel
theorem dX5_bitsOf_25 : decode cX5_bitsOf 25 = .ok (.fconst 2, 1) := by decide +kernel
theorem dX5_bitsOf_26 : decode cX5_bitsOf 26 = .ok (.fdiv, 1) := by decide +kernel
theorem dX5_bitsOf_27 : decode cX5_bitsOf 27 = .ok (.fstore_n 1, 1) := by decide +kernel
theorem dX5_bitsOf_28 : decode cX5_bitsOf 28 = .ok (.iinc 2 1, 3) := by decide +kernel
theorem dX5_bitsOf_31 : decode cX5_bitsOf 31 = .ok (.goto (-19), 3) := by decide +kernel
theorem dX5_bitsOf_34 : decode cX5_bitsOf 34 = .ok (.fload_n 1, 1) := by decide +kernel
theorem dX5_bitsOf_35 : decode cX5_bitsOf 35 = .ok (.fconst 1, 1) := by decide +kernel
theorem dX5_bitsOf_36 : decode cX5_bitsOf 36 = .ok (.fcmp .g, 1) := by decide +kernel
theorem dX5_bitsOf_37 : decode cX5_bitsOf 37 = .ok (.ifCond .ge 19, 3) := by decide +kernel
theorem dX5_bitsOf_40 : decode cX5_bitsOf 40 = .ok (.iload_n 2, 1) := by decide +kernel
theorem dX5_bitsOf_41 : decode cX5_bitsOf 41 = .ok (.bipush (-126), 2) := by decide +kernel
theorem dX5_bitsOf_43 : decode cX5_bitsOf 43 = .ok (.if_icmp .le 13, 3) := by decide +kernel
theorem dX5_bitsOf_46 : decode cX5_bitsOf 46 = .ok (.fload_n 1, 1) := by decide +kernel
theorem dX5_bitsOf_47 : decode cX5_bitsOf 47 = .ok (.fconst 2, 1) := by decide +kernel
theorem dX5_bitsOf_48 : decode cX5_bitsOf 48 = .ok (.fmul, 1) := by decide +kernel
theorem dX5_bitsOf_49 : decode cX5_bitsOf 49 = .ok (.fstore_n 1, 1) := by decide +kernel
theorem dX5_bitsOf_50 : decode cX5_bitsOf 50 = .ok (.iinc 2 (-1), 3) := by decide +kernel
theorem dX5_bitsOf_53 : decode cX5_bitsOf 53 = .ok (.goto (-19), 3) := by decide +kernel
theorem dX5_bitsOf_56 : decode cX5_bitsOf 56 = .ok (.iload_n 2, 1) := by decide +kernel
theorem dX5_bitsOf_57 : decode cX5_bitsOf 57 = .ok (.bipush 127, 2) := by decide +kernel
theorem dX5_bitsOf_59 : decode cX5_bitsOf 59 = .ok (.iadd, 1) := by decide +kernel
theorem dX5_bitsOf_60 : decode cX5_bitsOf 60 = .ok (.bipush 23, 2) := by decide +kernel
theorem dX5_bitsOf_62 : decode cX5_bitsOf 62 = .ok (.ishl, 1) := by decide +kernel
theorem dX5_bitsOf_63 : decode cX5_bitsOf 63 = .ok (.fload_n 1, 1) := by decide +kernel
theorem dX5_bitsOf_64 : decode cX5_bitsOf 64 = .ok (.fconst 1, 1) := by decide +kernel
theorem dX5_bitsOf_65 : decode cX5_bitsOf 65 = .ok (.fsub, 1) := by decide +kernel
theorem dX5_bitsOf_66 : decode cX5_bitsOf 66 = .ok (.ldc_w 267, 3) := by decide +kernel
theorem dX5_bitsOf_69 : decode cX5_bitsOf 69 = .ok (.fmul, 1) := by decide +kernel
theorem dX5_bitsOf_70 : decode cX5_bitsOf 70 = .ok (.f2i, 1) := by decide +kernel
theorem dX5_bitsOf_71 : decode cX5_bitsOf 71 = .ok (.iadd, 1) := by decide +kernel
theorem dX5_bitsOf_72 : decode cX5_bitsOf 72 = .ok (.ireturn, 1) := by decide +kernel
theorem dX6_init_0 : decode cX6_init 0 = .ok (.aload_n 0, 1) := by decide +kernel
theorem dX6_init_1 : decode cX6_init 1 = .ok (.invokespecial 1, 3) := by decide +kernel
theorem dX6_init_4 : decode cX6_init 4 = .ok (.aload_n 0, 1) := by decide +kernel
theorem dX6_init_5 : decode cX6_init 5 = .ok (.bipush 120, 2) := by decide +kernel
theorem dX6_init_7 : decode cX6_init 7 = .ok (.newarray .int, 2) := by decide +kernel
theorem dX6_init_9 : decode cX6_init 9 = .ok (.putfield 7, 3) := by decide +kernel
theorem dX6_init_12 : decode cX6_init 12 = .ok (.aload_n 0, 1) := by decide +kernel
theorem dX6_init_13 : decode cX6_init 13 = .ok (.bipush 120, 2) := by decide +kernel
theorem dX6_init_15 : decode cX6_init 15 = .ok (.newarray .int, 2) := by decide +kernel
theorem dX6_init_17 : decode cX6_init 17 = .ok (.putfield 13, 3) := by decide +kernel
theorem dX6_init_20 : decode cX6_init 20 = .ok (.aload_n 0, 1) := by decide +kernel
theorem dX6_init_21 : decode cX6_init 21 = .ok (.sipush 480, 3) := by decide +kernel
theorem dX6_init_24 : decode cX6_init 24 = .ok (.newarray .int, 2) := by decide +kernel
theorem dX6_init_26 : decode cX6_init 26 = .ok (.putfield 16, 3) := by decide +kernel
theorem dX6_init_29 : decode cX6_init 29 = .ok (.aload_n 0, 1) := by decide +kernel
theorem dX6_init_30 : decode cX6_init 30 = .ok (.sipush 240, 3) := by decide +kernel
theorem dX6_init_33 : decode cX6_init 33 = .ok (.newarray .int, 2) := by decide +kernel
theorem dX6_init_35 : decode cX6_init 35 = .ok (.putfield 19, 3) := by decide +kernel
theorem dX6_init_38 : decode cX6_init 38 = .ok (.aload_n 0, 1) := by decide +kernel
theorem dX6_init_39 : decode cX6_init 39 = .ok (.iconst 2, 1) := by decide +kernel
theorem dX6_init_40 : decode cX6_init 40 = .ok (.newarray .boolean, 2) := by decide +kernel
theorem dX6_init_42 : decode cX6_init 42 = .ok (.putfield 22, 3) := by decide +kernel
theorem dX6_init_45 : decode cX6_init 45 = .ok (.aload_n 0, 1) := by decide +kernel
theorem dX6_init_46 : decode cX6_init 46 = .ok (.bipush 120, 2) := by decide +kernel
theorem dX6_init_48 : decode cX6_init 48 = .ok (.newarray .int, 2) := by decide +kernel
theorem dX6_init_50 : decode cX6_init 50 = .ok (.putfield 26, 3) := by decide +kernel
theorem dX6_init_53 : decode cX6_init 53 = .ok (.aload_n 0, 1) := by decide +kernel
theorem dX6_init_54 : decode cX6_init 54 = .ok (.bipush 60, 2) := by decide +kernel
theorem dX6_init_56 : decode cX6_init 56 = .ok (.newarray .int, 2) := by decide +kernel
theorem dX6_init_58 : decode cX6_init 58 = .ok (.putfield 29, 3) := by decide +kernel
theorem dX6_init_61 : decode cX6_init 61 = .ok (.aload_n 0, 1) := by decide +kernel
theorem dX6_init_62 : decode cX6_init 62 = .ok (.iconst 3, 1) := by decide +kernel
theorem dX6_init_63 : decode cX6_init 63 = .ok (.newarray .int, 2) := by decide +kernel
theorem dX6_init_65 : decode cX6_init 65 = .ok (.putfield 32, 3) := by decide +kernel
theorem dX6_init_68 : decode cX6_init 68 = .ok (.aload_n 0, 1) := by decide +kernel
theorem dX6_init_69 : decode cX6_init 69 = .ok (.getfield 7, 3) := by decide +kernel
theorem dX6_init_72 : decode cX6_init 72 = .ok (.iconst 0, 1) := by decide +kernel
theorem dX6_init_73 : decode cX6_init 73 = .ok (.sipush 2000, 3) := by decide +kernel
theorem dX6_init_76 : decode cX6_init 76 = .ok (.iastore, 1) := by decide +kernel
theorem dX6_init_77 : decode cX6_init 77 = .ok (.aload_n 0, 1) := by decide +kernel
theorem dX6_init_78 : decode cX6_init 78 = .ok (.getfield 7, 3) := by decide +kernel
theorem dX6_init_81 : decode cX6_init 81 = .ok (.iconst 1, 1) := by decide +kernel
theorem dX6_init_82 : decode cX6_init 82 = .ok (.sipush 240, 3) := by decide +kernel
theorem dX6_init_85 : decode cX6_init 85 = .ok (.iastore, 1) := by decide +kernel
theorem dX6_init_86 : decode cX6_init 86 = .ok (.aload_n 0, 1) := by decide +kernel
theorem dX6_init_87 : decode cX6_init 87 = .ok (.getfield 7, 3) := by decide +kernel
theorem dX6_init_90 : decode cX6_init 90 = .ok (.iconst 2, 1) := by decide +kernel
theorem dX6_init_91 : decode cX6_init 91 = .ok (.sipush 400, 3) := by decide +kernel
theorem dX6_init_94 : decode cX6_init 94 = .ok (.iastore, 1) := by decide +kernel
theorem dX6_init_95 : decode cX6_init 95 = .ok (.aload_n 0, 1) := by decide +kernel
theorem dX6_init_96 : decode cX6_init 96 = .ok (.getfield 7, 3) := by decide +kernel
theorem dX6_init_99 : decode cX6_init 99 = .ok (.iconst 3, 1) := by decide +kernel
theorem dX6_init_100 : decode cX6_init 100 = .ok (.bipush 20, 2) := by decide +kernel
theorem dX6_init_102 : decode cX6_init 102 = .ok (.iastore, 1) := by decide +kernel
theorem dX6_init_103 : decode cX6_init 103 = .ok (.aload_n 0, 1) := by decide +kernel
theorem dX6_init_104 : decode cX6_init 104 = .ok (.getfield 7, 3) := by decide +kernel
theorem dX6_init_107 : decode cX6_init 107 = .ok (.iconst 4, 1) := by decide +kernel
theorem dX6_init_108 : decode cX6_init 108 = .ok (.iconst 1, 1) := by decide +kernel
theorem dX6_init_109 : decode cX6_init 109 = .ok (.iastore, 1) := by decide +kernel
theorem dX6_init_110 : decode cX6_init 110 = .ok (.aload_n 0, 1) := by decide +kernel
theorem dX6_init_111 : decode cX6_init 111 = .ok (.getfield 7, 3) := by decide +kernel
theorem dX6_init_114 : decode cX6_init 114 = .ok (.bipush 7, 2) := by decide +kernel
theorem dX6_init_116 : decode cX6_init 116 = .ok (.sipush 20000, 3) := by decide +kernel
theorem dX6_init_119 : decode cX6_init 119 = .ok (.iastore, 1) := by decide +kernel
theorem dX6_init_120 : decode cX6_init 120 = .ok (.return_, 1) := by decide +kernel
theorem dX6_in_0 : decode cX6_in 0 = .ok (.iload_n 0, 1) := by decide +kernel
theorem dX6_in_1 : decode cX6_in 1 = .ok (.iload_n 1, 1) := by decide +kernel
theorem dX6_in_2 : decode cX6_in 2 = .ok (.if_icmp .lt 12, 3) := by decide +kernel
theorem dX6_in_5 : decode cX6_in 5 = .ok (.iload_n 0, 1) := by decide +kernel
theorem dX6_in_6 : decode cX6_in 6 = .ok (.iload_n 2, 1) := by decide +kernel
theorem dX6_in_7 : decode cX6_in 7 = .ok (.if_icmp .gt 7, 3) := by decide +kernel
theorem dX6_in_10 : decode cX6_in 10 = .ok (.iconst 1, 1) := by decide +kernel
theorem dX6_in_11 : decode cX6_in 11 = .ok (.goto 4, 3) := by decide +kernel
theorem dX6_in_14 : decode cX6_in 14 = .ok (.iconst 0, 1) := by decide +kernel
theorem dX6_in_15 : decode cX6_in 15 = .ok (.ireturn, 1) := by decide +kernel
theorem dX6_isError_0 : decode cX6_isError 0 = .ok (.iload_n 0, 1) := by decide +kernel
theorem dX6_isError_1 : decode cX6_isError 1 = .ok (.ldc 35, 2) := by decide +kernel
theorem dX6_isError_3 : decode cX6_isError 3 = .ok (.if_icmp .gt 7, 3) := by decide +kernel
theorem dX6_isError_6 : decode cX6_isError 6 = .ok (.iconst 1, 1) := by decide +kernel
theorem dX6_isError_7 : decode cX6_isError 7 = .ok (.goto 4, 3) := by decide +kernel
theorem dX6_isError_10 : decode cX6_isError 10 = .ok (.iconst 0, 1) := by decide +kernel
theorem dX6_isError_11 : decode cX6_isError 11 = .ok (.ireturn, 1) := by decide +kernel
theorem dX6_isClock_0 : decode cX6_isClock 0 = .ok (.iload_n 1, 1) := by decide +kernel
theorem dX6_isClock_1 : decode cX6_isClock 1 = .ok (.iconst 0, 1) := by decide +kernel
theorem dX6_isClock_2 : decode cX6_isClock 2 = .ok (.aload_n 0, 1) := by decide +kernel
theorem dX6_isClock_3 : decode cX6_isClock 3 = .ok (.getfield 7, 3) := by decide +kernel
theorem dX6_isClock_6 : decode cX6_isClock 6 = .ok (.bipush 19, 2) := by decide +kernel
theorem dX6_isClock_8 : decode cX6_isClock 8 = .ok (.iaload, 1) := by decide +kernel
theorem dX6_isClock_9 : decode cX6_isClock 9 = .ok (.iconst 1, 1) := by decide +kernel
theorem dX6_isClock_10 : decode cX6_isClock 10 = .ok (.isub, 1) := by decide +kernel
theorem dX6_isClock_11 : decode cX6_isClock 11 = .ok (.invokestatic 36, 3) := by decide +kernel
theorem dX6_isClock_14 : decode cX6_isClock 14 = .ok (.ireturn, 1) := by decide +kernel
theorem dX6_of_0 : decode cX6_of 0 = .ok (.aload_n 0, 1) := by decide +kernel
theorem dX6_of_1 : decode cX6_of 1 = .ok (.getfield 7, 3) := by decide +kernel
theorem dX6_of_4 : decode cX6_of 4 = .ok (.bipush 20, 2) := by decide +kernel
theorem dX6_of_6 : decode cX6_of 6 = .ok (.bipush 15, 2) := by decide +kernel
theorem dX6_of_8 : decode cX6_of 8 = .ok (.iload_n 1, 1) := by decide +kernel
theorem dX6_of_9 : decode cX6_of 9 = .ok (.imul, 1) := by decide +kernel
theorem dX6_of_10 : decode cX6_of 10 = .ok (.iadd, 1) := by decide +kernel
theorem dX6_of_11 : decode cX6_of 11 = .ok (.iload_n 2, 1) := by decide +kernel
theorem dX6_of_12 : decode cX6_of 12 = .ok (.iadd, 1) := by decide +kernel
theorem dX6_of_13 : decode cX6_of 13 = .ok (.iaload, 1) := by decide +kernel
theorem dX6_of_14 : decode cX6_of 14 = .ok (.ireturn, 1) := by decide +kernel
theorem dX6_put_0 : decode cX6_put 0 = .ok (.aload_n 0, 1) := by decide +kernel
theorem dX6_put_1 : decode cX6_put 1 = .ok (.getfield 7, 3) := by decide +kernel
theorem dX6_put_4 : decode cX6_put 4 = .ok (.bipush 20, 2) := by decide +kernel
theorem dX6_put_6 : decode cX6_put 6 = .ok (.bipush 15, 2) := by decide +kernel
theorem dX6_put_8 : decode cX6_put 8 = .ok (.iload_n 1, 1) := by decide +kernel
theorem dX6_put_9 : decode cX6_put 9 = .ok (.imul, 1) := by decide +kernel
theorem dX6_put_10 : decode cX6_put 10 = .ok (.iadd, 1) := by decide +kernel
theorem dX6_put_11 : decode cX6_put 11 = .ok (.iload_n 2, 1) := by decide +kernel
theorem dX6_put_12 : decode cX6_put 12 = .ok (.iadd, 1) := by decide +kernel
theorem dX6_put_13 : decode cX6_put 13 = .ok (.iload_n 3, 1) := by decide +kernel
theorem dX6_put_14 : decode cX6_put 14 = .ok (.iastore, 1) := by decide +kernel
theorem dX6_put_15 : decode cX6_put 15 = .ok (.return_, 1) := by decide +kernel
theorem dX6_add_0 : decode cX6_add 0 = .ok (.aload_n 0, 1) := by decide +kernel
theorem dX6_add_1 : decode cX6_add 1 = .ok (.getfield 7, 3) := by decide +kernel
theorem dX6_add_4 : decode cX6_add 4 = .ok (.bipush 20, 2) := by decide +kernel
theorem dX6_add_6 : decode cX6_add 6 = .ok (.bipush 15, 2) := by decide +kernel
theorem dX6_add_8 : decode cX6_add 8 = .ok (.iload_n 1, 1) := by decide +kernel
theorem dX6_add_9 : decode cX6_add 9 = .ok (.imul, 1) := by decide +kernel
theorem dX6_add_10 : decode cX6_add 10 = .ok (.iadd, 1) := by decide +kernel
theorem dX6_add_11 : decode cX6_add 11 = .ok (.iload_n 2, 1) := by decide +kernel
theorem dX6_add_12 : decode cX6_add 12 = .ok (.iadd, 1) := by decide +kernel
theorem dX6_add_13 : decode cX6_add 13 = .ok (.dup2, 1) := by decide +kernel
theorem dX6_add_14 : decode cX6_add 14 = .ok (.iaload, 1) := by decide +kernel
theorem dX6_add_15 : decode cX6_add 15 = .ok (.iload_n 3, 1) := by decide +kernel
theorem dX6_add_16 : decode cX6_add 16 = .ok (.iadd, 1) := by decide +kernel
theorem dX6_add_17 : decode cX6_add 17 = .ok (.iastore, 1) := by decide +kernel
theorem dX6_add_18 : decode cX6_add 18 = .ok (.return_, 1) := by decide +kernel
theorem dX6_note_0 : decode cX6_note 0 = .ok (.iconst 0, 1) := by decide +kernel
theorem dX6_note_1 : decode cX6_note 1 = .ok (.istore_n 1, 1) := by decide +kernel
theorem dX6_note_2 : decode cX6_note 2 = .ok (.iload_n 1, 1) := by decide +kernel
theorem dX6_note_3 : decode cX6_note 3 = .ok (.bipush 120, 2) := by decide +kernel
theorem dX6_note_5 : decode cX6_note 5 = .ok (.if_icmp .ge 21, 3) := by decide +kernel
theorem dX6_note_8 : decode cX6_note 8 = .ok (.aload_n 0, 1) := by decide +kernel
theorem dX6_note_9 : decode cX6_note 9 = .ok (.getfield 13, 3) := by decide +kernel
theorem dX6_note_12 : decode cX6_note 12 = .ok (.iload_n 1, 1) := by decide +kernel
theorem dX6_note_13 : decode cX6_note 13 = .ok (.aload_n 0, 1) := by decide +kernel
theorem dX6_note_14 : decode cX6_note 14 = .ok (.getfield 7, 3) := by decide +kernel
theorem dX6_note_17 : decode cX6_note 17 = .ok (.iload_n 1, 1) := by decide +kernel
theorem dX6_note_18 : decode cX6_note 18 = .ok (.iaload, 1) := by decide +kernel
theorem dX6_note_19 : decode cX6_note 19 = .ok (.iastore, 1) := by decide +kernel
theorem dX6_note_20 : decode cX6_note 20 = .ok (.iinc 1 1, 3) := by decide +kernel
theorem dX6_note_23 : decode cX6_note 23 = .ok (.goto (-21), 3) := by decide +kernel
theorem dX6_note_26 : decode cX6_note 26 = .ok (.return_, 1) := by decide +kernel
theorem dX6_recorded_0 : decode cX6_recorded 0 = .ok (.iload_n 1, 1) := by decide +kernel
theorem dX6_recorded_1 : decode cX6_recorded 1 = .ok (.invokestatic 40, 3) := by decide +kernel
theorem dX6_recorded_4 : decode cX6_recorded 4 = .ok (.ifCond .eq 5, 3) := by decide +kernel
theorem dX6_recorded_7 : decode cX6_recorded 7 = .ok (.iload_n 1, 1) := by decide +kernel
theorem dX6_recorded_8 : decode cX6_recorded 8 = .ok (.ireturn, 1) := by decide +kernel
theorem dX6_recorded_9 : decode cX6_recorded 9 = .ok (.aload_n 0, 1) := by decide +kernel
theorem dX6_recorded_10 : decode cX6_recorded 10 = .ok (.getfield 44, 3) := by decide +kernel
theorem dX6_recorded_13 : decode cX6_recorded 13 = .ok (.iconst 4, 1) := by decide +kernel
theorem dX6_recorded_14 : decode cX6_recorded 14 = .ok (.if_icmp .ne 43, 3) := by decide +kernel
theorem dX6_recorded_17 : decode cX6_recorded 17 = .ok (.iconst 0, 1) := by decide +kernel
theorem dX6_recorded_18 : decode cX6_recorded 18 = .ok (.istore_n 2, 1) := by decide +kernel
theorem dX6_recorded_19 : decode cX6_recorded 19 = .ok (.iload_n 2, 1) := by decide +kernel
theorem dX6_recorded_20 : decode cX6_recorded 20 = .ok (.sipush 360, 3) := by decide +kernel
theorem dX6_recorded_23 : decode cX6_recorded 23 = .ok (.if_icmp .ge 24, 3) := by decide +kernel
theorem dX6_recorded_26 : decode cX6_recorded 26 = .ok (.aload_n 0, 1) := by decide +kernel
theorem dX6_recorded_27 : decode cX6_recorded 27 = .ok (.getfield 16, 3) := by decide +kernel
theorem dX6_recorded_30 : decode cX6_recorded 30 = .ok (.iload_n 2, 1) := by decide +kernel
theorem dX6_recorded_31 : decode cX6_recorded 31 = .ok (.aload_n 0, 1) := by decide +kernel
theorem dX6_recorded_32 : decode cX6_recorded 32 = .ok (.getfield 16, 3) := by decide +kernel
theorem dX6_recorded_35 : decode cX6_recorded 35 = .ok (.iload_n 2, 1) := by decide +kernel
theorem dX6_recorded_36 : decode cX6_recorded 36 = .ok (.bipush 120, 2) := by decide +kernel
theorem dX6_recorded_38 : decode cX6_recorded 38 = .ok (.iadd, 1) := by decide +kernel
theorem dX6_recorded_39 : decode cX6_recorded 39 = .ok (.iaload, 1) := by decide +kernel
theorem dX6_recorded_40 : decode cX6_recorded 40 = .ok (.iastore, 1) := by decide +kernel
theorem dX6_recorded_41 : decode cX6_recorded 41 = .ok (.iinc 2 1, 3) := by decide +kernel
theorem dX6_recorded_44 : decode cX6_recorded 44 = .ok (.goto (-25), 3) := by decide +kernel
theorem dX6_recorded_47 : decode cX6_recorded 47 = .ok (.aload_n 0, 1) := by decide +kernel
theorem dX6_recorded_48 : decode cX6_recorded 48 = .ok (.dup, 1) := by decide +kernel
theorem dX6_recorded_49 : decode cX6_recorded 49 = .ok (.getfield 44, 3) := by decide +kernel
theorem dX6_recorded_52 : decode cX6_recorded 52 = .ok (.iconst 1, 1) := by decide +kernel
theorem dX6_recorded_53 : decode cX6_recorded 53 = .ok (.isub, 1) := by decide +kernel
theorem dX6_recorded_54 : decode cX6_recorded 54 = .ok (.putfield 44, 3) := by decide +kernel
theorem dX6_recorded_57 : decode cX6_recorded 57 = .ok (.iconst 0, 1) := by decide +kernel
theorem dX6_recorded_58 : decode cX6_recorded 58 = .ok (.istore_n 2, 1) := by decide +kernel
theorem dX6_recorded_59 : decode cX6_recorded 59 = .ok (.iload_n 2, 1) := by decide +kernel
theorem dX6_recorded_60 : decode cX6_recorded 60 = .ok (.bipush 120, 2) := by decide +kernel
theorem dX6_recorded_62 : decode cX6_recorded 62 = .ok (.if_icmp .ge 29, 3) := by decide +kernel
theorem dX6_recorded_65 : decode cX6_recorded 65 = .ok (.aload_n 0, 1) := by decide +kernel
theorem dX6_recorded_66 : decode cX6_recorded 66 = .ok (.getfield 16, 3) := by decide +kernel
theorem dX6_recorded_69 : decode cX6_recorded 69 = .ok (.bipush 120, 2) := by decide +kernel
theorem dX6_recorded_71 : decode cX6_recorded 71 = .ok (.aload_n 0, 1) := by decide +kernel
theorem dX6_recorded_72 : decode cX6_recorded 72 = .ok (.getfield 44, 3) := by decide +kernel
theorem dX6_recorded_75 : decode cX6_recorded 75 = .ok (.imul, 1) := by decide +kernel
theorem dX6_recorded_76 : decode cX6_recorded 76 = .ok (.iload_n 2, 1) := by decide +kernel
theorem dX6_recorded_77 : decode cX6_recorded 77 = .ok (.iadd, 1) := by decide +kernel
theorem dX6_recorded_78 : decode cX6_recorded 78 = .ok (.aload_n 0, 1) := by decide +kernel
theorem dX6_recorded_79 : decode cX6_recorded 79 = .ok (.getfield 13, 3) := by decide +kernel
theorem dX6_recorded_82 : decode cX6_recorded 82 = .ok (.iload_n 2, 1) := by decide +kernel
theorem dX6_recorded_83 : decode cX6_recorded 83 = .ok (.iaload, 1) := by decide +kernel
theorem dX6_recorded_84 : decode cX6_recorded 84 = .ok (.iastore, 1) := by decide +kernel
theorem dX6_recorded_85 : decode cX6_recorded 85 = .ok (.iinc 2 1, 3) := by decide +kernel
theorem dX6_recorded_88 : decode cX6_recorded 88 = .ok (.goto (-29), 3) := by decide +kernel
theorem dX6_recorded_91 : decode cX6_recorded 91 = .ok (.aload_n 0, 1) := by decide +kernel
theorem dX6_recorded_92 : decode cX6_recorded 92 = .ok (.dup, 1) := by decide +kernel
theorem dX6_recorded_93 : decode cX6_recorded 93 = .ok (.getfield 44, 3) := by decide +kernel
theorem dX6_recorded_96 : decode cX6_recorded 96 = .ok (.iconst 1, 1) := by decide +kernel
theorem dX6_recorded_97 : decode cX6_recorded 97 = .ok (.iadd, 1) := by decide +kernel
theorem dX6_recorded_98 : decode cX6_recorded 98 = .ok (.putfield 44, 3) := by decide +kernel
theorem dX6_recorded_101 : decode cX6_recorded 101 = .ok (.iload_n 1, 1) := by decide +kernel
theorem dX6_recorded_102 : decode cX6_recorded 102 = .ok (.ireturn, 1) := by decide +kernel
theorem dX6_putAside_0 : decode cX6_putAside 0 = .ok (.iconst 0, 1) := by decide +kernel
theorem dX6_putAside_1 : decode cX6_putAside 1 = .ok (.istore_n 1, 1) := by decide +kernel
theorem dX6_putAside_2 : decode cX6_putAside 2 = .ok (.iload_n 1, 1) := by decide +kernel
theorem dX6_putAside_3 : decode cX6_putAside 3 = .ok (.bipush 120, 2) := by decide +kernel
theorem dX6_putAside_5 : decode cX6_putAside 5 = .ok (.if_icmp .ge 21, 3) := by decide +kernel
theorem dX6_putAside_8 : decode cX6_putAside 8 = .ok (.aload_n 0, 1) := by decide +kernel
theorem dX6_putAside_9 : decode cX6_putAside 9 = .ok (.getfield 26, 3) := by decide +kernel
theorem dX6_putAside_12 : decode cX6_putAside 12 = .ok (.iload_n 1, 1) := by decide +kernel
theorem dX6_putAside_13 : decode cX6_putAside 13 = .ok (.aload_n 0, 1) := by decide +kernel
theorem dX6_putAside_14 : decode cX6_putAside 14 = .ok (.getfield 7, 3) := by decide +kernel
theorem dX6_putAside_17 : decode cX6_putAside 17 = .ok (.iload_n 1, 1) := by decide +kernel
theorem dX6_putAside_18 : decode cX6_putAside 18 = .ok (.iaload, 1) := by decide +kernel
theorem dX6_putAside_19 : decode cX6_putAside 19 = .ok (.iastore, 1) := by decide +kernel
theorem dX6_putAside_20 : decode cX6_putAside 20 = .ok (.iinc 1 1, 3) := by decide +kernel
theorem dX6_putAside_23 : decode cX6_putAside 23 = .ok (.goto (-21), 3) := by decide +kernel
theorem dX6_putAside_26 : decode cX6_putAside 26 = .ok (.return_, 1) := by decide +kernel
theorem dX6_putBack_0 : decode cX6_putBack 0 = .ok (.iconst 0, 1) := by decide +kernel
theorem dX6_putBack_1 : decode cX6_putBack 1 = .ok (.istore_n 1, 1) := by decide +kernel
theorem dX6_putBack_2 : decode cX6_putBack 2 = .ok (.iload_n 1, 1) := by decide +kernel
theorem dX6_putBack_3 : decode cX6_putBack 3 = .ok (.bipush 120, 2) := by decide +kernel
theorem dX6_putBack_5 : decode cX6_putBack 5 = .ok (.if_icmp .ge 21, 3) := by decide +kernel
theorem dX6_putBack_8 : decode cX6_putBack 8 = .ok (.aload_n 0, 1) := by decide +kernel
theorem dX6_putBack_9 : decode cX6_putBack 9 = .ok (.getfield 7, 3) := by decide +kernel
theorem dX6_putBack_12 : decode cX6_putBack 12 = .ok (.iload_n 1, 1) := by decide +kernel
theorem dX6_putBack_13 : decode cX6_putBack 13 = .ok (.aload_n 0, 1) := by decide +kernel
theorem dX6_putBack_14 : decode cX6_putBack 14 = .ok (.getfield 26, 3) := by decide +kernel
theorem dX6_putBack_17 : decode cX6_putBack 17 = .ok (.iload_n 1, 1) := by decide +kernel
theorem dX6_putBack_18 : decode cX6_putBack 18 = .ok (.iaload, 1) := by decide +kernel
theorem dX6_putBack_19 : decode cX6_putBack 19 = .ok (.iastore, 1) := by decide +kernel
theorem dX6_putBack_20 : decode cX6_putBack 20 = .ok (.iinc 1 1, 3) := by decide +kernel
theorem dX6_putBack_23 : decode cX6_putBack 23 = .ok (.goto (-21), 3) := by decide +kernel
theorem dX6_putBack_26 : decode cX6_putBack 26 = .ok (.return_, 1) := by decide +kernel
theorem dX6_floor_0 : decode cX6_floor 0 = .ok (.iload_n 0, 1) := by decide +kernel
theorem dX6_floor_1 : decode cX6_floor 1 = .ok (.iload_n 1, 1) := by decide +kernel
theorem dX6_floor_2 : decode cX6_floor 2 = .ok (.idiv, 1) := by decide +kernel
theorem dX6_floor_3 : decode cX6_floor 3 = .ok (.istore_n 2, 1) := by decide +kernel
theorem dX6_floor_4 : decode cX6_floor 4 = .ok (.iload_n 0, 1) := by decide +kernel
theorem dX6_floor_5 : decode cX6_floor 5 = .ok (.iload_n 1, 1) := by decide +kernel
theorem dX6_floor_6 : decode cX6_floor 6 = .ok (.irem, 1) := by decide +kernel
theorem dX6_floor_7 : decode cX6_floor 7 = .ok (.ifCond .ge 9, 3) := by decide +kernel
theorem dX6_floor_10 : decode cX6_floor 10 = .ok (.iload_n 2, 1) := by decide +kernel
theorem dX6_floor_11 : decode cX6_floor 11 = .ok (.iconst 1, 1) := by decide +kernel
theorem dX6_floor_12 : decode cX6_floor 12 = .ok (.isub, 1) := by decide +kernel
theorem dX6_floor_13 : decode cX6_floor 13 = .ok (.goto 4, 3) := by decide +kernel
theorem dX6_floor_16 : decode cX6_floor 16 = .ok (.iload_n 2, 1) := by decide +kernel
theorem dX6_floor_17 : decode cX6_floor 17 = .ok (.ireturn, 1) := by decide +kernel
theorem dX6_trueHour_0 : decode cX6_trueHour 0 = .ok (.aload_n 0, 1) := by decide +kernel
theorem dX6_trueHour_1 : decode cX6_trueHour 1 = .ok (.getfield 7, 3) := by decide +kernel
theorem dX6_trueHour_4 : decode cX6_trueHour 4 = .ok (.bipush 6, 2) := by decide +kernel
theorem dX6_trueHour_6 : decode cX6_trueHour 6 = .ok (.iaload, 1) := by decide +kernel
theorem dX6_trueHour_7 : decode cX6_trueHour 7 = .ok (.aload_n 0, 1) := by decide +kernel
theorem dX6_trueHour_8 : decode cX6_trueHour 8 = .ok (.getfield 7, 3) := by decide +kernel
theorem dX6_trueHour_11 : decode cX6_trueHour 11 = .ok (.iconst 3, 1) := by decide +kernel
theorem dX6_trueHour_12 : decode cX6_trueHour 12 = .ok (.iaload, 1) := by decide +kernel
theorem dX6_trueHour_13 : decode cX6_trueHour 13 = .ok (.idiv, 1) := by decide +kernel
theorem dX6_trueHour_14 : decode cX6_trueHour 14 = .ok (.ireturn, 1) := by decide +kernel
theorem dX6_drops_0 : decode cX6_drops 0 = .ok (.aload_n 0, 1) := by decide +kernel
theorem dX6_drops_1 : decode cX6_drops 1 = .ok (.iload_n 1, 1) := by decide +kernel
theorem dX6_drops_2 : decode cX6_drops 2 = .ok (.iconst 0, 1) := by decide +kernel
theorem dX6_drops_3 : decode cX6_drops 3 = .ok (.invokevirtual 48, 3) := by decide +kernel
theorem dX6_drops_6 : decode cX6_drops 6 = .ok (.istore_n 2, 1) := by decide +kernel
theorem dX6_drops_7 : decode cX6_drops 7 = .ok (.iload_n 2, 1) := by decide +kernel
theorem dX6_drops_8 : decode cX6_drops 8 = .ok (.ifCond .ne 13, 3) := by decide +kernel
theorem dX6_drops_11 : decode cX6_drops 11 = .ok (.aload_n 0, 1) := by decide +kernel
theorem dX6_drops_12 : decode cX6_drops 12 = .ok (.iload_n 1, 1) := by decide +kernel
theorem dX6_drops_13 : decode cX6_drops 13 = .ok (.iconst 3, 1) := by decide +kernel
theorem dX6_drops_14 : decode cX6_drops 14 = .ok (.invokevirtual 48, 3) := by decide +kernel
theorem dX6_drops_17 : decode cX6_drops 17 = .ok (.ineg, 1) := by decide +kernel
theorem dX6_drops_18 : decode cX6_drops 18 = .ok (.goto 31, 3) := by decide +kernel
theorem dX6_drops_21 : decode cX6_drops 21 = .ok (.iload_n 2, 1) := by decide +kernel
theorem dX6_drops_22 : decode cX6_drops 22 = .ok (.iconst 1, 1) := by decide +kernel
theorem dX6_drops_23 : decode cX6_drops 23 = .ok (.if_icmp .ne 12, 3) := by decide +kernel
theorem dX6_drops_26 : decode cX6_drops 26 = .ok (.aload_n 0, 1) := by decide +kernel
theorem dX6_drops_27 : decode cX6_drops 27 = .ok (.iload_n 1, 1) := by decide +kernel
theorem dX6_drops_28 : decode cX6_drops 28 = .ok (.iconst 4, 1) := by decide +kernel
theorem dX6_drops_29 : decode cX6_drops 29 = .ok (.invokevirtual 48, 3) := by decide +kernel
theorem dX6_drops_32 : decode cX6_drops 32 = .ok (.goto 17, 3) := by decide +kernel
theorem dX6_drops_35 : decode cX6_drops 35 = .ok (.aload_n 0, 1) := by decide +kernel
theorem dX6_drops_36 : decode cX6_drops 36 = .ok (.iload_n 1, 1) := by decide +kernel
theorem dX6_drops_37 : decode cX6_drops 37 = .ok (.bipush 9, 2) := by decide +kernel
theorem dX6_drops_39 : decode cX6_drops 39 = .ok (.invokevirtual 48, 3) := by decide +kernel
theorem dX6_drops_42 : decode cX6_drops 42 = .ok (.aload_n 0, 1) := by decide +kernel
theorem dX6_drops_43 : decode cX6_drops 43 = .ok (.iload_n 1, 1) := by decide +kernel
theorem dX6_drops_44 : decode cX6_drops 44 = .ok (.iconst 4, 1) := by decide +kernel
theorem dX6_drops_45 : decode cX6_drops 45 = .ok (.invokevirtual 48, 3) := by decide +kernel
theorem dX6_drops_48 : decode cX6_drops 48 = .ok (.iadd, 1) := by decide +kernel
theorem dX6_drops_49 : decode cX6_drops 49 = .ok (.ireturn, 1) := by decide +kernel
theorem dX6_hourOf_0 : decode cX6_hourOf 0 = .ok (.aload_n 0, 1) := by decide +kernel
theorem dX6_hourOf_1 : decode cX6_hourOf 1 = .ok (.iload_n 1, 1) := by decide +kernel
theorem dX6_hourOf_2 : decode cX6_hourOf 2 = .ok (.bipush 13, 2) := by decide +kernel
theorem dX6_hourOf_4 : decode cX6_hourOf 4 = .ok (.invokevirtual 48, 3) := by decide +kernel
theorem dX6_hourOf_7 : decode cX6_hourOf 7 = .ok (.aload_n 0, 1) := by decide +kernel
theorem dX6_hourOf_8 : decode cX6_hourOf 8 = .ok (.iload_n 1, 1) := by decide +kernel
theorem dX6_hourOf_9 : decode cX6_hourOf 9 = .ok (.invokevirtual 52, 3) := by decide +kernel
theorem dX6_hourOf_12 : decode cX6_hourOf 12 = .ok (.aload_n 0, 1) := by decide +kernel
theorem dX6_hourOf_13 : decode cX6_hourOf 13 = .ok (.iload_n 1, 1) := by decide +kernel
theorem dX6_hourOf_14 : decode cX6_hourOf 14 = .ok (.bipush 14, 2) := by decide +kernel
theorem dX6_hourOf_16 : decode cX6_hourOf 16 = .ok (.invokevirtual 48, 3) := by decide +kernel
theorem dX6_hourOf_19 : decode cX6_hourOf 19 = .ok (.isub, 1) := by decide +kernel
theorem dX6_hourOf_20 : decode cX6_hourOf 20 = .ok (.aload_n 0, 1) := by decide +kernel
theorem dX6_hourOf_21 : decode cX6_hourOf 21 = .ok (.iload_n 1, 1) := by decide +kernel
theorem dX6_hourOf_22 : decode cX6_hourOf 22 = .ok (.iconst 2, 1) := by decide +kernel
theorem dX6_hourOf_23 : decode cX6_hourOf 23 = .ok (.invokevirtual 48, 3) := by decide +kernel
theorem dX6_hourOf_26 : decode cX6_hourOf 26 = .ok (.invokestatic 56, 3) := by decide +kernel
theorem dX6_hourOf_29 : decode cX6_hourOf 29 = .ok (.iadd, 1) := by decide +kernel
theorem dX6_hourOf_30 : decode cX6_hourOf 30 = .ok (.ireturn, 1) := by decide +kernel
theorem dX6_error_0 : decode cX6_error 0 = .ok (.aload_n 0, 1) := by decide +kernel
theorem dX6_error_1 : decode cX6_error 1 = .ok (.iload_n 1, 1) := by decide +kernel
theorem dX6_error_2 : decode cX6_error 2 = .ok (.invokevirtual 59, 3) := by decide +kernel
theorem dX6_error_5 : decode cX6_error 5 = .ok (.aload_n 0, 1) := by decide +kernel
theorem dX6_error_6 : decode cX6_error 6 = .ok (.invokevirtual 62, 3) := by decide +kernel
theorem dX6_error_9 : decode cX6_error 9 = .ok (.isub, 1) := by decide +kernel
theorem dX6_error_10 : decode cX6_error 10 = .ok (.ireturn, 1) := by decide +kernel
theorem dX6_size_0 : decode cX6_size 0 = .ok (.iload_n 1, 1) := by decide +kernel
theorem dX6_size_1 : decode cX6_size 1 = .ok (.ifCond .ge 8, 3) := by decide +kernel
theorem dX6_size_4 : decode cX6_size 4 = .ok (.iload_n 1, 1) := by decide +kernel
theorem dX6_size_5 : decode cX6_size 5 = .ok (.ineg, 1) := by decide +kernel
theorem dX6_size_6 : decode cX6_size 6 = .ok (.goto 4, 3) := by decide +kernel
theorem dX6_size_9 : decode cX6_size 9 = .ok (.iload_n 1, 1) := by decide +kernel
theorem dX6_size_10 : decode cX6_size 10 = .ok (.ireturn, 1) := by decide +kernel
theorem dX6_isOff_0 : decode cX6_isOff 0 = .ok (.aload_n 0, 1) := by decide +kernel
theorem dX6_isOff_1 : decode cX6_isOff 1 = .ok (.aload_n 0, 1) := by decide +kernel
theorem dX6_isOff_2 : decode cX6_isOff 2 = .ok (.iload_n 1, 1) := by decide +kernel
theorem dX6_isOff_3 : decode cX6_isOff 3 = .ok (.invokevirtual 66, 3) := by decide +kernel
theorem dX6_isOff_6 : decode cX6_isOff 6 = .ok (.invokevirtual 69, 3) := by decide +kernel
theorem dX6_isOff_9 : decode cX6_isOff 9 = .ok (.aload_n 0, 1) := by decide +kernel
theorem dX6_isOff_10 : decode cX6_isOff 10 = .ok (.getfield 7, 3) := by decide +kernel
theorem dX6_isOff_13 : decode cX6_isOff 13 = .ok (.iconst 4, 1) := by decide +kernel
theorem dX6_isOff_14 : decode cX6_isOff 14 = .ok (.iaload, 1) := by decide +kernel
theorem dX6_isOff_15 : decode cX6_isOff 15 = .ok (.if_icmp .le 7, 3) := by decide +kernel
theorem dX6_isOff_18 : decode cX6_isOff 18 = .ok (.iconst 1, 1) := by decide +kernel
theorem dX6_isOff_19 : decode cX6_isOff 19 = .ok (.goto 4, 3) := by decide +kernel
theorem dX6_isOff_22 : decode cX6_isOff 22 = .ok (.iconst 0, 1) := by decide +kernel
theorem dX6_isOff_23 : decode cX6_isOff 23 = .ok (.ireturn, 1) := by decide +kernel
theorem dX6_lay_0 : decode cX6_lay 0 = .ok (.aload_n 0, 1) := by decide +kernel
theorem dX6_lay_1 : decode cX6_lay 1 = .ok (.iload_n 1, 1) := by decide +kernel
theorem dX6_lay_2 : decode cX6_lay 2 = .ok (.bipush 13, 2) := by decide +kernel
theorem dX6_lay_4 : decode cX6_lay 4 = .ok (.aload_n 0, 1) := by decide +kernel
theorem dX6_lay_5 : decode cX6_lay 5 = .ok (.invokevirtual 62, 3) := by decide +kernel
theorem dX6_lay_8 : decode cX6_lay 8 = .ok (.invokevirtual 72, 3) := by decide +kernel
theorem dX6_lay_11 : decode cX6_lay 11 = .ok (.aload_n 0, 1) := by decide +kernel
theorem dX6_lay_12 : decode cX6_lay 12 = .ok (.iload_n 1, 1) := by decide +kernel
theorem dX6_lay_13 : decode cX6_lay 13 = .ok (.bipush 14, 2) := by decide +kernel
theorem dX6_lay_15 : decode cX6_lay 15 = .ok (.aload_n 0, 1) := by decide +kernel
theorem dX6_lay_16 : decode cX6_lay 16 = .ok (.iload_n 1, 1) := by decide +kernel
theorem dX6_lay_17 : decode cX6_lay 17 = .ok (.invokevirtual 52, 3) := by decide +kernel
theorem dX6_lay_20 : decode cX6_lay 20 = .ok (.invokevirtual 72, 3) := by decide +kernel
theorem dX6_lay_23 : decode cX6_lay 23 = .ok (.return_, 1) := by decide +kernel
theorem dX6_makeTrue_0 : decode cX6_makeTrue 0 = .ok (.aload_n 0, 1) := by decide +kernel
theorem dX6_makeTrue_1 : decode cX6_makeTrue 1 = .ok (.iload_n 1, 1) := by decide +kernel
theorem dX6_makeTrue_2 : decode cX6_makeTrue 2 = .ok (.invokevirtual 76, 3) := by decide +kernel
theorem dX6_makeTrue_5 : decode cX6_makeTrue 5 = .ok (.aload_n 0, 1) := by decide +kernel
theorem dX6_makeTrue_6 : decode cX6_makeTrue 6 = .ok (.iload_n 1, 1) := by decide +kernel
theorem dX6_makeTrue_7 : decode cX6_makeTrue 7 = .ok (.bipush 11, 2) := by decide +kernel
theorem dX6_makeTrue_9 : decode cX6_makeTrue 9 = .ok (.iconst 1, 1) := by decide +kernel
theorem dX6_makeTrue_10 : decode cX6_makeTrue 10 = .ok (.invokevirtual 80, 3) := by decide +kernel
theorem dX6_makeTrue_13 : decode cX6_makeTrue 13 = .ok (.aload_n 0, 1) := by decide +kernel
theorem dX6_makeTrue_14 : decode cX6_makeTrue 14 = .ok (.getfield 7, 3) := by decide +kernel
theorem dX6_makeTrue_17 : decode cX6_makeTrue 17 = .ok (.bipush 16, 2) := by decide +kernel
theorem dX6_makeTrue_19 : decode cX6_makeTrue 19 = .ok (.dup2, 1) := by decide +kernel
theorem dX6_makeTrue_20 : decode cX6_makeTrue 20 = .ok (.iaload, 1) := by decide +kernel
theorem dX6_makeTrue_21 : decode cX6_makeTrue 21 = .ok (.iconst 1, 1) := by decide +kernel
theorem dX6_makeTrue_22 : decode cX6_makeTrue 22 = .ok (.iadd, 1) := by decide +kernel
theorem dX6_makeTrue_23 : decode cX6_makeTrue 23 = .ok (.iastore, 1) := by decide +kernel
theorem dX6_makeTrue_24 : decode cX6_makeTrue 24 = .ok (.return_, 1) := by decide +kernel
theorem dX6_fill_0 : decode cX6_fill 0 = .ok (.aload_n 0, 1) := by decide +kernel
theorem dX6_fill_1 : decode cX6_fill 1 = .ok (.getfield 7, 3) := by decide +kernel
theorem dX6_fill_4 : decode cX6_fill 4 = .ok (.iconst 0, 1) := by decide +kernel
theorem dX6_fill_5 : decode cX6_fill 5 = .ok (.iaload, 1) := by decide +kernel
theorem dX6_fill_6 : decode cX6_fill 6 = .ok (.aload_n 0, 1) := by decide +kernel
theorem dX6_fill_7 : decode cX6_fill 7 = .ok (.iload_n 1, 1) := by decide +kernel
theorem dX6_fill_8 : decode cX6_fill 8 = .ok (.iconst 3, 1) := by decide +kernel
theorem dX6_fill_9 : decode cX6_fill 9 = .ok (.invokevirtual 48, 3) := by decide +kernel
theorem dX6_fill_12 : decode cX6_fill 12 = .ok (.if_icmp .le 19, 3) := by decide +kernel
theorem dX6_fill_15 : decode cX6_fill 15 = .ok (.aload_n 0, 1) := by decide +kernel
theorem dX6_fill_16 : decode cX6_fill 16 = .ok (.getfield 7, 3) := by decide +kernel
theorem dX6_fill_19 : decode cX6_fill 19 = .ok (.iconst 0, 1) := by decide +kernel
theorem dX6_fill_20 : decode cX6_fill 20 = .ok (.iaload, 1) := by decide +kernel
theorem dX6_fill_21 : decode cX6_fill 21 = .ok (.aload_n 0, 1) := by decide +kernel
theorem dX6_fill_22 : decode cX6_fill 22 = .ok (.iload_n 1, 1) := by decide +kernel
theorem dX6_fill_23 : decode cX6_fill 23 = .ok (.iconst 3, 1) := by decide +kernel
theorem dX6_fill_24 : decode cX6_fill 24 = .ok (.invokevirtual 48, 3) := by decide +kernel
theorem dX6_fill_27 : decode cX6_fill 27 = .ok (.isub, 1) := by decide +kernel
theorem dX6_fill_28 : decode cX6_fill 28 = .ok (.goto 4, 3) := by decide +kernel
theorem dX6_fill_31 : decode cX6_fill 31 = .ok (.iconst 0, 1) := by decide +kernel
theorem dX6_fill_32 : decode cX6_fill 32 = .ok (.istore_n 3, 1) := by decide +kernel
theorem dX6_fill_33 : decode cX6_fill 33 = .ok (.iload_n 2, 1) := by decide +kernel
theorem dX6_fill_34 : decode cX6_fill 34 = .ok (.iload_n 3, 1) := by decide +kernel
theorem dX6_fill_35 : decode cX6_fill 35 = .ok (.if_icmp .ge 7, 3) := by decide +kernel
theorem dX6_fill_38 : decode cX6_fill 38 = .ok (.iload_n 2, 1) := by decide +kernel
theorem dX6_fill_39 : decode cX6_fill 39 = .ok (.goto 4, 3) := by decide +kernel
theorem dX6_fill_42 : decode cX6_fill 42 = .ok (.iload_n 3, 1) := by decide +kernel
theorem dX6_fill_43 : decode cX6_fill 43 = .ok (.istore 4, 2) := by decide +kernel
theorem dX6_fill_45 : decode cX6_fill 45 = .ok (.aload_n 0, 1) := by decide +kernel
theorem dX6_fill_46 : decode cX6_fill 46 = .ok (.iload_n 1, 1) := by decide +kernel
theorem dX6_fill_47 : decode cX6_fill 47 = .ok (.iconst 3, 1) := by decide +kernel
theorem dX6_fill_48 : decode cX6_fill 48 = .ok (.iload 4, 2) := by decide +kernel
theorem dX6_fill_50 : decode cX6_fill 50 = .ok (.invokevirtual 80, 3) := by decide +kernel
theorem dX6_fill_53 : decode cX6_fill 53 = .ok (.aload_n 0, 1) := by decide +kernel
theorem dX6_fill_54 : decode cX6_fill 54 = .ok (.getfield 7, 3) := by decide +kernel
theorem dX6_fill_57 : decode cX6_fill 57 = .ok (.bipush 12, 2) := by decide +kernel
theorem dX6_fill_59 : decode cX6_fill 59 = .ok (.dup2, 1) := by decide +kernel
theorem dX6_fill_60 : decode cX6_fill 60 = .ok (.iaload, 1) := by decide +kernel
theorem dX6_fill_61 : decode cX6_fill 61 = .ok (.iload 4, 2) := by decide +kernel
theorem dX6_fill_63 : decode cX6_fill 63 = .ok (.iadd, 1) := by decide +kernel
theorem dX6_fill_64 : decode cX6_fill 64 = .ok (.iastore, 1) := by decide +kernel
theorem dX6_fill_65 : decode cX6_fill 65 = .ok (.aload_n 0, 1) := by decide +kernel
theorem dX6_fill_66 : decode cX6_fill 66 = .ok (.getfield 7, 3) := by decide +kernel
theorem dX6_fill_69 : decode cX6_fill 69 = .ok (.bipush 9, 2) := by decide +kernel
theorem dX6_fill_71 : decode cX6_fill 71 = .ok (.dup2, 1) := by decide +kernel
theorem dX6_fill_72 : decode cX6_fill 72 = .ok (.iaload, 1) := by decide +kernel
theorem dX6_fill_73 : decode cX6_fill 73 = .ok (.iload_n 2, 1) := by decide +kernel
theorem dX6_fill_74 : decode cX6_fill 74 = .ok (.iload 4, 2) := by decide +kernel
theorem dX6_fill_76 : decode cX6_fill 76 = .ok (.isub, 1) := by decide +kernel
theorem dX6_fill_77 : decode cX6_fill 77 = .ok (.iadd, 1) := by decide +kernel
theorem dX6_fill_78 : decode cX6_fill 78 = .ok (.iastore, 1) := by decide +kernel
theorem dX6_fill_79 : decode cX6_fill 79 = .ok (.iload_n 2, 1) := by decide +kernel
theorem dX6_fill_80 : decode cX6_fill 80 = .ok (.iload 4, 2) := by decide +kernel
theorem dX6_fill_82 : decode cX6_fill 82 = .ok (.isub, 1) := by decide +kernel
theorem dX6_fill_83 : decode cX6_fill 83 = .ok (.ireturn, 1) := by decide +kernel
theorem dX6_goOn_0 : decode cX6_goOn 0 = .ok (.aload_n 0, 1) := by decide +kernel
theorem dX6_goOn_1 : decode cX6_goOn 1 = .ok (.iload_n 1, 1) := by decide +kernel
theorem dX6_goOn_2 : decode cX6_goOn 2 = .ok (.iconst 5, 1) := by decide +kernel
theorem dX6_goOn_3 : decode cX6_goOn 3 = .ok (.invokevirtual 48, 3) := by decide +kernel
theorem dX6_goOn_6 : decode cX6_goOn 6 = .ok (.iload_n 1, 1) := by decide +kernel
theorem dX6_goOn_7 : decode cX6_goOn 7 = .ok (.if_icmp .ne 17, 3) := by decide +kernel
theorem dX6_goOn_10 : decode cX6_goOn 10 = .ok (.aload_n 0, 1) := by decide +kernel
theorem dX6_goOn_11 : decode cX6_goOn 11 = .ok (.getfield 7, 3) := by decide +kernel
theorem dX6_goOn_14 : decode cX6_goOn 14 = .ok (.bipush 8, 2) := by decide +kernel
theorem dX6_goOn_16 : decode cX6_goOn 16 = .ok (.dup2, 1) := by decide +kernel
theorem dX6_goOn_17 : decode cX6_goOn 17 = .ok (.iaload, 1) := by decide +kernel
theorem dX6_goOn_18 : decode cX6_goOn 18 = .ok (.iload_n 2, 1) := by decide +kernel
theorem dX6_goOn_19 : decode cX6_goOn 19 = .ok (.iadd, 1) := by decide +kernel
theorem dX6_goOn_20 : decode cX6_goOn 20 = .ok (.iastore, 1) := by decide +kernel
theorem dX6_goOn_21 : decode cX6_goOn 21 = .ok (.goto 15, 3) := by decide +kernel
theorem dX6_goOn_24 : decode cX6_goOn 24 = .ok (.aload_n 0, 1) := by decide +kernel
theorem dX6_goOn_25 : decode cX6_goOn 25 = .ok (.aload_n 0, 1) := by decide +kernel
theorem dX6_goOn_26 : decode cX6_goOn 26 = .ok (.iload_n 1, 1) := by decide +kernel
theorem dX6_goOn_27 : decode cX6_goOn 27 = .ok (.iconst 5, 1) := by decide +kernel
theorem dX6_goOn_28 : decode cX6_goOn 28 = .ok (.invokevirtual 48, 3) := by decide +kernel
theorem dX6_goOn_31 : decode cX6_goOn 31 = .ok (.iload_n 2, 1) := by decide +kernel
theorem dX6_goOn_32 : decode cX6_goOn 32 = .ok (.invokevirtual 83, 3) := by decide +kernel
theorem dX6_goOn_35 : decode cX6_goOn 35 = .ok (.istore_n 3, 1) := by decide +kernel
theorem dX6_goOn_36 : decode cX6_goOn 36 = .ok (.return_, 1) := by decide +kernel
theorem dX6_dripOf_0 : decode cX6_dripOf 0 = .ok (.aload_n 0, 1) := by decide +kernel
theorem dX6_dripOf_1 : decode cX6_dripOf 1 = .ok (.iload_n 1, 1) := by decide +kernel
theorem dX6_dripOf_2 : decode cX6_dripOf 2 = .ok (.iconst 1, 1) := by decide +kernel
theorem dX6_dripOf_3 : decode cX6_dripOf 3 = .ok (.invokevirtual 48, 3) := by decide +kernel
theorem dX6_dripOf_6 : decode cX6_dripOf 6 = .ok (.aload_n 0, 1) := by decide +kernel
theorem dX6_dripOf_7 : decode cX6_dripOf 7 = .ok (.iload_n 1, 1) := by decide +kernel
theorem dX6_dripOf_8 : decode cX6_dripOf 8 = .ok (.iconst 1, 1) := by decide +kernel
theorem dX6_dripOf_9 : decode cX6_dripOf 9 = .ok (.invokevirtual 48, 3) := by decide +kernel
theorem dX6_dripOf_12 : decode cX6_dripOf 12 = .ok (.aload_n 0, 1) := by decide +kernel
theorem dX6_dripOf_13 : decode cX6_dripOf 13 = .ok (.iload_n 1, 1) := by decide +kernel
theorem dX6_dripOf_14 : decode cX6_dripOf 14 = .ok (.iconst 3, 1) := by decide +kernel
theorem dX6_dripOf_15 : decode cX6_dripOf 15 = .ok (.invokevirtual 48, 3) := by decide +kernel
theorem dX6_dripOf_18 : decode cX6_dripOf 18 = .ok (.imul, 1) := by decide +kernel
theorem dX6_dripOf_19 : decode cX6_dripOf 19 = .ok (.sipush 1000, 3) := by decide +kernel
theorem dX6_dripOf_22 : decode cX6_dripOf 22 = .ok (.idiv, 1) := by decide +kernel
theorem dX6_dripOf_23 : decode cX6_dripOf 23 = .ok (.iadd, 1) := by decide +kernel
theorem dX6_dripOf_24 : decode cX6_dripOf 24 = .ok (.istore_n 2, 1) := by decide +kernel
theorem dX6_dripOf_25 : decode cX6_dripOf 25 = .ok (.iload_n 2, 1) := by decide +kernel
theorem dX6_dripOf_26 : decode cX6_dripOf 26 = .ok (.aload_n 0, 1) := by decide +kernel
theorem dX6_dripOf_27 : decode cX6_dripOf 27 = .ok (.iload_n 1, 1) := by decide +kernel
theorem dX6_dripOf_28 : decode cX6_dripOf 28 = .ok (.iconst 3, 1) := by decide +kernel
theorem dX6_dripOf_29 : decode cX6_dripOf 29 = .ok (.invokevirtual 48, 3) := by decide +kernel
theorem dX6_dripOf_32 : decode cX6_dripOf 32 = .ok (.if_icmp .ge 7, 3) := by decide +kernel
theorem dX6_dripOf_35 : decode cX6_dripOf 35 = .ok (.iload_n 2, 1) := by decide +kernel
theorem dX6_dripOf_36 : decode cX6_dripOf 36 = .ok (.goto 9, 3) := by decide +kernel
theorem dX6_dripOf_39 : decode cX6_dripOf 39 = .ok (.aload_n 0, 1) := by decide +kernel
theorem dX6_dripOf_40 : decode cX6_dripOf 40 = .ok (.iload_n 1, 1) := by decide +kernel
theorem dX6_dripOf_41 : decode cX6_dripOf 41 = .ok (.iconst 3, 1) := by decide +kernel
theorem dX6_dripOf_42 : decode cX6_dripOf 42 = .ok (.invokevirtual 48, 3) := by decide +kernel
theorem dX6_dripOf_45 : decode cX6_dripOf 45 = .ok (.ireturn, 1) := by decide +kernel
theorem dX6_rise_0 : decode cX6_rise 0 = .ok (.aload_n 0, 1) := by decide +kernel
theorem dX6_rise_1 : decode cX6_rise 1 = .ok (.getfield 7, 3) := by decide +kernel
theorem dX6_rise_4 : decode cX6_rise 4 = .ok (.iconst 0, 1) := by decide +kernel
theorem dX6_rise_5 : decode cX6_rise 5 = .ok (.iaload, 1) := by decide +kernel
theorem dX6_rise_6 : decode cX6_rise 6 = .ok (.aload_n 0, 1) := by decide +kernel
theorem dX6_rise_7 : decode cX6_rise 7 = .ok (.iload_n 1, 1) := by decide +kernel
theorem dX6_rise_8 : decode cX6_rise 8 = .ok (.iconst 4, 1) := by decide +kernel
theorem dX6_rise_9 : decode cX6_rise 9 = .ok (.invokevirtual 48, 3) := by decide +kernel
theorem dX6_rise_12 : decode cX6_rise 12 = .ok (.if_icmp .le 19, 3) := by decide +kernel
theorem dX6_rise_15 : decode cX6_rise 15 = .ok (.aload_n 0, 1) := by decide +kernel
theorem dX6_rise_16 : decode cX6_rise 16 = .ok (.getfield 7, 3) := by decide +kernel
theorem dX6_rise_19 : decode cX6_rise 19 = .ok (.iconst 0, 1) := by decide +kernel
theorem dX6_rise_20 : decode cX6_rise 20 = .ok (.iaload, 1) := by decide +kernel
theorem dX6_rise_21 : decode cX6_rise 21 = .ok (.aload_n 0, 1) := by decide +kernel
theorem dX6_rise_22 : decode cX6_rise 22 = .ok (.iload_n 1, 1) := by decide +kernel
theorem dX6_rise_23 : decode cX6_rise 23 = .ok (.iconst 4, 1) := by decide +kernel
theorem dX6_rise_24 : decode cX6_rise 24 = .ok (.invokevirtual 48, 3) := by decide +kernel
theorem dX6_rise_27 : decode cX6_rise 27 = .ok (.isub, 1) := by decide +kernel
theorem dX6_rise_28 : decode cX6_rise 28 = .ok (.goto 4, 3) := by decide +kernel
theorem dX6_rise_31 : decode cX6_rise 31 = .ok (.iconst 0, 1) := by decide +kernel
theorem dX6_rise_32 : decode cX6_rise 32 = .ok (.istore_n 3, 1) := by decide +kernel
theorem dX6_rise_33 : decode cX6_rise 33 = .ok (.iload_n 2, 1) := by decide +kernel
theorem dX6_rise_34 : decode cX6_rise 34 = .ok (.iload_n 3, 1) := by decide +kernel
theorem dX6_rise_35 : decode cX6_rise 35 = .ok (.if_icmp .ge 7, 3) := by decide +kernel
theorem dX6_rise_38 : decode cX6_rise 38 = .ok (.iload_n 2, 1) := by decide +kernel
theorem dX6_rise_39 : decode cX6_rise 39 = .ok (.goto 4, 3) := by decide +kernel
theorem dX6_rise_42 : decode cX6_rise 42 = .ok (.iload_n 3, 1) := by decide +kernel
theorem dX6_rise_43 : decode cX6_rise 43 = .ok (.istore 4, 2) := by decide +kernel
theorem dX6_rise_45 : decode cX6_rise 45 = .ok (.aload_n 0, 1) := by decide +kernel
theorem dX6_rise_46 : decode cX6_rise 46 = .ok (.iload_n 1, 1) := by decide +kernel
theorem dX6_rise_47 : decode cX6_rise 47 = .ok (.iconst 4, 1) := by decide +kernel
theorem dX6_rise_48 : decode cX6_rise 48 = .ok (.iload 4, 2) := by decide +kernel
theorem dX6_rise_50 : decode cX6_rise 50 = .ok (.invokevirtual 80, 3) := by decide +kernel
theorem dX6_rise_53 : decode cX6_rise 53 = .ok (.aload_n 0, 1) := by decide +kernel
theorem dX6_rise_54 : decode cX6_rise 54 = .ok (.getfield 7, 3) := by decide +kernel
theorem dX6_rise_57 : decode cX6_rise 57 = .ok (.bipush 9, 2) := by decide +kernel
theorem dX6_rise_59 : decode cX6_rise 59 = .ok (.dup2, 1) := by decide +kernel
theorem dX6_rise_60 : decode cX6_rise 60 = .ok (.iaload, 1) := by decide +kernel
theorem dX6_rise_61 : decode cX6_rise 61 = .ok (.iload_n 2, 1) := by decide +kernel
theorem dX6_rise_62 : decode cX6_rise 62 = .ok (.iload 4, 2) := by decide +kernel
theorem dX6_rise_64 : decode cX6_rise 64 = .ok (.isub, 1) := by decide +kernel
theorem dX6_rise_65 : decode cX6_rise 65 = .ok (.iadd, 1) := by decide +kernel
theorem dX6_rise_66 : decode cX6_rise 66 = .ok (.iastore, 1) := by decide +kernel
theorem dX6_rise_67 : decode cX6_rise 67 = .ok (.return_, 1) := by decide +kernel
theorem dX6_stroke_0 : decode cX6_stroke 0 = .ok (.aload_n 0, 1) := by decide +kernel
theorem dX6_stroke_1 : decode cX6_stroke 1 = .ok (.iload_n 1, 1) := by decide +kernel
theorem dX6_stroke_2 : decode cX6_stroke 2 = .ok (.iconst 4, 1) := by decide +kernel
theorem dX6_stroke_3 : decode cX6_stroke 3 = .ok (.invokevirtual 48, 3) := by decide +kernel
theorem dX6_stroke_6 : decode cX6_stroke 6 = .ok (.istore_n 2, 1) := by decide +kernel
theorem dX6_stroke_7 : decode cX6_stroke 7 = .ok (.aload_n 0, 1) := by decide +kernel
theorem dX6_stroke_8 : decode cX6_stroke 8 = .ok (.iload_n 1, 1) := by decide +kernel
theorem dX6_stroke_9 : decode cX6_stroke 9 = .ok (.iconst 4, 1) := by decide +kernel
theorem dX6_stroke_10 : decode cX6_stroke 10 = .ok (.iconst 0, 1) := by decide +kernel
theorem dX6_stroke_11 : decode cX6_stroke 11 = .ok (.invokevirtual 72, 3) := by decide +kernel
theorem dX6_stroke_14 : decode cX6_stroke 14 = .ok (.aload_n 0, 1) := by decide +kernel
theorem dX6_stroke_15 : decode cX6_stroke 15 = .ok (.iload_n 1, 1) := by decide +kernel
theorem dX6_stroke_16 : decode cX6_stroke 16 = .ok (.bipush 8, 2) := by decide +kernel
theorem dX6_stroke_18 : decode cX6_stroke 18 = .ok (.iconst 1, 1) := by decide +kernel
theorem dX6_stroke_19 : decode cX6_stroke 19 = .ok (.invokevirtual 80, 3) := by decide +kernel
theorem dX6_stroke_22 : decode cX6_stroke 22 = .ok (.aload_n 0, 1) := by decide +kernel
theorem dX6_stroke_23 : decode cX6_stroke 23 = .ok (.iload_n 1, 1) := by decide +kernel
theorem dX6_stroke_24 : decode cX6_stroke 24 = .ok (.bipush 9, 2) := by decide +kernel
theorem dX6_stroke_26 : decode cX6_stroke 26 = .ok (.aload_n 0, 1) := by decide +kernel
theorem dX6_stroke_27 : decode cX6_stroke 27 = .ok (.getfield 7, 3) := by decide +kernel
theorem dX6_stroke_30 : decode cX6_stroke 30 = .ok (.iconst 1, 1) := by decide +kernel
theorem dX6_stroke_31 : decode cX6_stroke 31 = .ok (.iaload, 1) := by decide +kernel
theorem dX6_stroke_32 : decode cX6_stroke 32 = .ok (.invokevirtual 80, 3) := by decide +kernel
theorem dX6_stroke_35 : decode cX6_stroke 35 = .ok (.aload_n 0, 1) := by decide +kernel
theorem dX6_stroke_36 : decode cX6_stroke 36 = .ok (.getfield 7, 3) := by decide +kernel
theorem dX6_stroke_39 : decode cX6_stroke 39 = .ok (.bipush 17, 2) := by decide +kernel
theorem dX6_stroke_41 : decode cX6_stroke 41 = .ok (.dup2, 1) := by decide +kernel
theorem dX6_stroke_42 : decode cX6_stroke 42 = .ok (.iaload, 1) := by decide +kernel
theorem dX6_stroke_43 : decode cX6_stroke 43 = .ok (.iconst 1, 1) := by decide +kernel
theorem dX6_stroke_44 : decode cX6_stroke 44 = .ok (.iadd, 1) := by decide +kernel
theorem dX6_stroke_45 : decode cX6_stroke 45 = .ok (.iastore, 1) := by decide +kernel
theorem dX6_stroke_46 : decode cX6_stroke 46 = .ok (.aload_n 0, 1) := by decide +kernel
theorem dX6_stroke_47 : decode cX6_stroke 47 = .ok (.getfield 7, 3) := by decide +kernel
theorem dX6_stroke_50 : decode cX6_stroke 50 = .ok (.bipush 13, 2) := by decide +kernel
theorem dX6_stroke_52 : decode cX6_stroke 52 = .ok (.dup2, 1) := by decide +kernel
theorem dX6_stroke_53 : decode cX6_stroke 53 = .ok (.iaload, 1) := by decide +kernel
theorem dX6_stroke_54 : decode cX6_stroke 54 = .ok (.iload_n 2, 1) := by decide +kernel
theorem dX6_stroke_55 : decode cX6_stroke 55 = .ok (.iadd, 1) := by decide +kernel
theorem dX6_stroke_56 : decode cX6_stroke 56 = .ok (.iastore, 1) := by decide +kernel
theorem dX6_stroke_57 : decode cX6_stroke 57 = .ok (.aload_n 0, 1) := by decide +kernel
theorem dX6_stroke_58 : decode cX6_stroke 58 = .ok (.iload_n 1, 1) := by decide +kernel
theorem dX6_stroke_59 : decode cX6_stroke 59 = .ok (.iload_n 2, 1) := by decide +kernel
theorem dX6_stroke_60 : decode cX6_stroke 60 = .ok (.invokevirtual 86, 3) := by decide +kernel
theorem dX6_stroke_63 : decode cX6_stroke 63 = .ok (.return_, 1) := by decide +kernel
theorem dX6_drip_0 : decode cX6_drip 0 = .ok (.aload_n 0, 1) := by decide +kernel
theorem dX6_drip_1 : decode cX6_drip 1 = .ok (.iload_n 1, 1) := by decide +kernel
theorem dX6_drip_2 : decode cX6_drip 2 = .ok (.invokevirtual 90, 3) := by decide +kernel
theorem dX6_drip_5 : decode cX6_drip 5 = .ok (.istore_n 2, 1) := by decide +kernel
theorem dX6_drip_6 : decode cX6_drip 6 = .ok (.aload_n 0, 1) := by decide +kernel
theorem dX6_drip_7 : decode cX6_drip 7 = .ok (.iload_n 1, 1) := by decide +kernel
theorem dX6_drip_8 : decode cX6_drip 8 = .ok (.iconst 3, 1) := by decide +kernel
theorem dX6_drip_9 : decode cX6_drip 9 = .ok (.iload_n 2, 1) := by decide +kernel
theorem dX6_drip_10 : decode cX6_drip 10 = .ok (.ineg, 1) := by decide +kernel
theorem dX6_drip_11 : decode cX6_drip 11 = .ok (.invokevirtual 80, 3) := by decide +kernel
theorem dX6_drip_14 : decode cX6_drip 14 = .ok (.aload_n 0, 1) := by decide +kernel
theorem dX6_drip_15 : decode cX6_drip 15 = .ok (.iload_n 1, 1) := by decide +kernel
theorem dX6_drip_16 : decode cX6_drip 16 = .ok (.bipush 6, 2) := by decide +kernel
theorem dX6_drip_18 : decode cX6_drip 18 = .ok (.iload_n 2, 1) := by decide +kernel
theorem dX6_drip_19 : decode cX6_drip 19 = .ok (.invokevirtual 80, 3) := by decide +kernel
theorem dX6_drip_22 : decode cX6_drip 22 = .ok (.aload_n 0, 1) := by decide +kernel
theorem dX6_drip_23 : decode cX6_drip 23 = .ok (.iload_n 1, 1) := by decide +kernel
theorem dX6_drip_24 : decode cX6_drip 24 = .ok (.bipush 7, 2) := by decide +kernel
theorem dX6_drip_26 : decode cX6_drip 26 = .ok (.iload_n 2, 1) := by decide +kernel
theorem dX6_drip_27 : decode cX6_drip 27 = .ok (.invokevirtual 80, 3) := by decide +kernel
theorem dX6_drip_30 : decode cX6_drip 30 = .ok (.aload_n 0, 1) := by decide +kernel
theorem dX6_drip_31 : decode cX6_drip 31 = .ok (.iload_n 1, 1) := by decide +kernel
theorem dX6_drip_32 : decode cX6_drip 32 = .ok (.iconst 0, 1) := by decide +kernel
theorem dX6_drip_33 : decode cX6_drip 33 = .ok (.invokevirtual 48, 3) := by decide +kernel
theorem dX6_drip_36 : decode cX6_drip 36 = .ok (.ifCond .ne 12, 3) := by decide +kernel
theorem dX6_drip_39 : decode cX6_drip 39 = .ok (.aload_n 0, 1) := by decide +kernel
theorem dX6_drip_40 : decode cX6_drip 40 = .ok (.iload_n 1, 1) := by decide +kernel
theorem dX6_drip_41 : decode cX6_drip 41 = .ok (.iload_n 2, 1) := by decide +kernel
theorem dX6_drip_42 : decode cX6_drip 42 = .ok (.invokevirtual 86, 3) := by decide +kernel
theorem dX6_drip_45 : decode cX6_drip 45 = .ok (.goto 49, 3) := by decide +kernel
theorem dX6_drip_48 : decode cX6_drip 48 = .ok (.aload_n 0, 1) := by decide +kernel
theorem dX6_drip_49 : decode cX6_drip 49 = .ok (.iload_n 1, 1) := by decide +kernel
theorem dX6_drip_50 : decode cX6_drip 50 = .ok (.iconst 0, 1) := by decide +kernel
theorem dX6_drip_51 : decode cX6_drip 51 = .ok (.invokevirtual 48, 3) := by decide +kernel
theorem dX6_drip_54 : decode cX6_drip 54 = .ok (.iconst 1, 1) := by decide +kernel
theorem dX6_drip_55 : decode cX6_drip 55 = .ok (.if_icmp .ne 12, 3) := by decide +kernel
theorem dX6_drip_58 : decode cX6_drip 58 = .ok (.aload_n 0, 1) := by decide +kernel
theorem dX6_drip_59 : decode cX6_drip 59 = .ok (.iload_n 1, 1) := by decide +kernel
theorem dX6_drip_60 : decode cX6_drip 60 = .ok (.iload_n 2, 1) := by decide +kernel
theorem dX6_drip_61 : decode cX6_drip 61 = .ok (.invokevirtual 93, 3) := by decide +kernel
theorem dX6_drip_64 : decode cX6_drip 64 = .ok (.goto 30, 3) := by decide +kernel
theorem dX6_drip_67 : decode cX6_drip 67 = .ok (.aload_n 0, 1) := by decide +kernel
theorem dX6_drip_68 : decode cX6_drip 68 = .ok (.iload_n 1, 1) := by decide +kernel
theorem dX6_drip_69 : decode cX6_drip 69 = .ok (.iconst 4, 1) := by decide +kernel
theorem dX6_drip_70 : decode cX6_drip 70 = .ok (.iload_n 2, 1) := by decide +kernel
theorem dX6_drip_71 : decode cX6_drip 71 = .ok (.invokevirtual 80, 3) := by decide +kernel
theorem dX6_drip_74 : decode cX6_drip 74 = .ok (.aload_n 0, 1) := by decide +kernel
theorem dX6_drip_75 : decode cX6_drip 75 = .ok (.iload_n 1, 1) := by decide +kernel
theorem dX6_drip_76 : decode cX6_drip 76 = .ok (.iconst 4, 1) := by decide +kernel
theorem dX6_drip_77 : decode cX6_drip 77 = .ok (.invokevirtual 48, 3) := by decide +kernel
theorem dX6_drip_80 : decode cX6_drip 80 = .ok (.aload_n 0, 1) := by decide +kernel
theorem dX6_drip_81 : decode cX6_drip 81 = .ok (.getfield 7, 3) := by decide +kernel
theorem dX6_drip_84 : decode cX6_drip 84 = .ok (.iconst 1, 1) := by decide +kernel
theorem dX6_drip_85 : decode cX6_drip 85 = .ok (.iaload, 1) := by decide +kernel
theorem dX6_drip_86 : decode cX6_drip 86 = .ok (.if_icmp .lt 8, 3) := by decide +kernel
theorem dX6_drip_89 : decode cX6_drip 89 = .ok (.aload_n 0, 1) := by decide +kernel
theorem dX6_drip_90 : decode cX6_drip 90 = .ok (.iload_n 1, 1) := by decide +kernel
theorem dX6_drip_91 : decode cX6_drip 91 = .ok (.invokevirtual 96, 3) := by decide +kernel
theorem dX6_drip_94 : decode cX6_drip 94 = .ok (.iload_n 2, 1) := by decide +kernel
theorem dX6_drip_95 : decode cX6_drip 95 = .ok (.ireturn, 1) := by decide +kernel
theorem dX6_widen_0 : decode cX6_widen 0 = .ok (.aload_n 0, 1) := by decide +kernel
theorem dX6_widen_1 : decode cX6_widen 1 = .ok (.iload_n 1, 1) := by decide +kernel
theorem dX6_widen_2 : decode cX6_widen 2 = .ok (.bipush 7, 2) := by decide +kernel
theorem dX6_widen_4 : decode cX6_widen 4 = .ok (.invokevirtual 48, 3) := by decide +kernel
theorem dX6_widen_7 : decode cX6_widen 7 = .ok (.aload_n 0, 1) := by decide +kernel
theorem dX6_widen_8 : decode cX6_widen 8 = .ok (.getfield 7, 3) := by decide +kernel
theorem dX6_widen_11 : decode cX6_widen 11 = .ok (.iconst 2, 1) := by decide +kernel
theorem dX6_widen_12 : decode cX6_widen 12 = .ok (.iaload, 1) := by decide +kernel
theorem dX6_widen_13 : decode cX6_widen 13 = .ok (.if_icmp .lt 52, 3) := by decide +kernel
theorem dX6_widen_16 : decode cX6_widen 16 = .ok (.aload_n 0, 1) := by decide +kernel
theorem dX6_widen_17 : decode cX6_widen 17 = .ok (.iload_n 1, 1) := by decide +kernel
theorem dX6_widen_18 : decode cX6_widen 18 = .ok (.bipush 7, 2) := by decide +kernel
theorem dX6_widen_20 : decode cX6_widen 20 = .ok (.aload_n 0, 1) := by decide +kernel
theorem dX6_widen_21 : decode cX6_widen 21 = .ok (.getfield 7, 3) := by decide +kernel
theorem dX6_widen_24 : decode cX6_widen 24 = .ok (.iconst 2, 1) := by decide +kernel
theorem dX6_widen_25 : decode cX6_widen 25 = .ok (.iaload, 1) := by decide +kernel
theorem dX6_widen_26 : decode cX6_widen 26 = .ok (.ineg, 1) := by decide +kernel
theorem dX6_widen_27 : decode cX6_widen 27 = .ok (.invokevirtual 80, 3) := by decide +kernel
theorem dX6_widen_30 : decode cX6_widen 30 = .ok (.aload_n 0, 1) := by decide +kernel
theorem dX6_widen_31 : decode cX6_widen 31 = .ok (.iload_n 1, 1) := by decide +kernel
theorem dX6_widen_32 : decode cX6_widen 32 = .ok (.iconst 1, 1) := by decide +kernel
theorem dX6_widen_33 : decode cX6_widen 33 = .ok (.invokevirtual 48, 3) := by decide +kernel
theorem dX6_widen_36 : decode cX6_widen 36 = .ok (.bipush 60, 2) := by decide +kernel
theorem dX6_widen_38 : decode cX6_widen 38 = .ok (.if_icmp .ge 7, 3) := by decide +kernel
theorem dX6_widen_41 : decode cX6_widen 41 = .ok (.iconst 1, 1) := by decide +kernel
theorem dX6_widen_42 : decode cX6_widen 42 = .ok (.goto 4, 3) := by decide +kernel
theorem dX6_widen_45 : decode cX6_widen 45 = .ok (.iconst 0, 1) := by decide +kernel
theorem dX6_widen_46 : decode cX6_widen 46 = .ok (.istore_n 2, 1) := by decide +kernel
theorem dX6_widen_47 : decode cX6_widen 47 = .ok (.aload_n 0, 1) := by decide +kernel
theorem dX6_widen_48 : decode cX6_widen 48 = .ok (.iload_n 1, 1) := by decide +kernel
theorem dX6_widen_49 : decode cX6_widen 49 = .ok (.iconst 1, 1) := by decide +kernel
theorem dX6_widen_50 : decode cX6_widen 50 = .ok (.iload_n 2, 1) := by decide +kernel
theorem dX6_widen_51 : decode cX6_widen 51 = .ok (.invokevirtual 80, 3) := by decide +kernel
theorem dX6_widen_54 : decode cX6_widen 54 = .ok (.aload_n 0, 1) := by decide +kernel
theorem dX6_widen_55 : decode cX6_widen 55 = .ok (.iload_n 1, 1) := by decide +kernel
theorem dX6_widen_56 : decode cX6_widen 56 = .ok (.bipush 12, 2) := by decide +kernel
theorem dX6_widen_58 : decode cX6_widen 58 = .ok (.iload_n 2, 1) := by decide +kernel
theorem dX6_widen_59 : decode cX6_widen 59 = .ok (.invokevirtual 80, 3) := by decide +kernel
theorem dX6_widen_62 : decode cX6_widen 62 = .ok (.goto (-62), 3) := by decide +kernel
theorem dX6_widen_65 : decode cX6_widen 65 = .ok (.return_, 1) := by decide +kernel
theorem dX6_isNoon_0 : decode cX6_isNoon 0 = .ok (.aload_n 0, 1) := by decide +kernel
theorem dX6_isNoon_1 : decode cX6_isNoon 1 = .ok (.getfield 7, 3) := by decide +kernel
theorem dX6_isNoon_4 : decode cX6_isNoon 4 = .ok (.bipush 6, 2) := by decide +kernel
theorem dX6_isNoon_6 : decode cX6_isNoon 6 = .ok (.iaload, 1) := by decide +kernel
theorem dX6_isNoon_7 : decode cX6_isNoon 7 = .ok (.aload_n 0, 1) := by decide +kernel
theorem dX6_isNoon_8 : decode cX6_isNoon 8 = .ok (.getfield 7, 3) := by decide +kernel
theorem dX6_isNoon_11 : decode cX6_isNoon 11 = .ok (.iconst 3, 1) := by decide +kernel
theorem dX6_isNoon_12 : decode cX6_isNoon 12 = .ok (.iaload, 1) := by decide +kernel
theorem dX6_isNoon_13 : decode cX6_isNoon 13 = .ok (.irem, 1) := by decide +kernel
theorem dX6_isNoon_14 : decode cX6_isNoon 14 = .ok (.ifCond .ne 17, 3) := by decide +kernel
theorem dX6_isNoon_17 : decode cX6_isNoon 17 = .ok (.aload_n 0, 1) := by decide +kernel
theorem dX6_isNoon_18 : decode cX6_isNoon 18 = .ok (.invokevirtual 62, 3) := by decide +kernel
theorem dX6_isNoon_21 : decode cX6_isNoon 21 = .ok (.bipush 12, 2) := by decide +kernel
theorem dX6_isNoon_23 : decode cX6_isNoon 23 = .ok (.irem, 1) := by decide +kernel
theorem dX6_isNoon_24 : decode cX6_isNoon 24 = .ok (.ifCond .ne 7, 3) := by decide +kernel
theorem dX6_isNoon_27 : decode cX6_isNoon 27 = .ok (.iconst 1, 1) := by decide +kernel
theorem dX6_isNoon_28 : decode cX6_isNoon 28 = .ok (.goto 4, 3) := by decide +kernel
theorem dX6_isNoon_31 : decode cX6_isNoon 31 = .ok (.iconst 0, 1) := by decide +kernel
theorem dX6_isNoon_32 : decode cX6_isNoon 32 = .ok (.ireturn, 1) := by decide +kernel
theorem dX6_book_0 : decode cX6_book 0 = .ok (.bipush 23, 2) := by decide +kernel
theorem dX6_book_2 : decode cX6_book 2 = .ok (.istore_n 1, 1) := by decide +kernel
theorem dX6_book_3 : decode cX6_book 3 = .ok (.iload_n 1, 1) := by decide +kernel
theorem dX6_book_4 : decode cX6_book 4 = .ok (.bipush 6, 2) := by decide +kernel
theorem dX6_book_6 : decode cX6_book 6 = .ok (.if_icmp .lt 30, 3) := by decide +kernel
theorem dX6_book_9 : decode cX6_book 9 = .ok (.aload_n 0, 1) := by decide +kernel
theorem dX6_book_10 : decode cX6_book 10 = .ok (.getfield 7, 3) := by decide +kernel
theorem dX6_book_13 : decode cX6_book 13 = .ok (.bipush 96, 2) := by decide +kernel
theorem dX6_book_15 : decode cX6_book 15 = .ok (.iload_n 1, 1) := by decide +kernel
theorem dX6_book_16 : decode cX6_book 16 = .ok (.iadd, 1) := by decide +kernel
theorem dX6_book_17 : decode cX6_book 17 = .ok (.aload_n 0, 1) := by decide +kernel
theorem dX6_book_18 : decode cX6_book 18 = .ok (.getfield 7, 3) := by decide +kernel
theorem dX6_book_21 : decode cX6_book 21 = .ok (.bipush 96, 2) := by decide +kernel
theorem dX6_book_23 : decode cX6_book 23 = .ok (.iload_n 1, 1) := by decide +kernel
theorem dX6_book_24 : decode cX6_book 24 = .ok (.iadd, 1) := by decide +kernel
theorem dX6_book_25 : decode cX6_book 25 = .ok (.bipush 6, 2) := by decide +kernel
theorem dX6_book_27 : decode cX6_book 27 = .ok (.isub, 1) := by decide +kernel
theorem dX6_book_28 : decode cX6_book 28 = .ok (.iaload, 1) := by decide +kernel
theorem dX6_book_29 : decode cX6_book 29 = .ok (.iastore, 1) := by decide +kernel
theorem dX6_book_30 : decode cX6_book 30 = .ok (.iinc 1 (-1), 3) := by decide +kernel
theorem dX6_book_33 : decode cX6_book 33 = .ok (.goto (-30), 3) := by decide +kernel
theorem dX6_book_36 : decode cX6_book 36 = .ok (.aload_n 0, 1) := by decide +kernel
theorem dX6_book_37 : decode cX6_book 37 = .ok (.getfield 7, 3) := by decide +kernel
theorem dX6_book_40 : decode cX6_book 40 = .ok (.bipush 96, 2) := by decide +kernel
theorem dX6_book_42 : decode cX6_book 42 = .ok (.aload_n 0, 1) := by decide +kernel
theorem dX6_book_43 : decode cX6_book 43 = .ok (.getfield 7, 3) := by decide +kernel
theorem dX6_book_46 : decode cX6_book 46 = .ok (.bipush 19, 2) := by decide +kernel
theorem dX6_book_48 : decode cX6_book 48 = .ok (.iaload, 1) := by decide +kernel
theorem dX6_book_49 : decode cX6_book 49 = .ok (.iastore, 1) := by decide +kernel
theorem dX6_book_50 : decode cX6_book 50 = .ok (.iconst 0, 1) := by decide +kernel
theorem dX6_book_51 : decode cX6_book 51 = .ok (.istore_n 1, 1) := by decide +kernel
theorem dX6_book_52 : decode cX6_book 52 = .ok (.iload_n 1, 1) := by decide +kernel
theorem dX6_book_53 : decode cX6_book 53 = .ok (.iconst 5, 1) := by decide +kernel
theorem dX6_book_54 : decode cX6_book 54 = .ok (.if_icmp .ge 38, 3) := by decide +kernel
theorem dX6_book_57 : decode cX6_book 57 = .ok (.aload_n 0, 1) := by decide +kernel
theorem dX6_book_58 : decode cX6_book 58 = .ok (.getfield 7, 3) := by decide +kernel
theorem dX6_book_61 : decode cX6_book 61 = .ok (.bipush 97, 2) := by decide +kernel
theorem dX6_book_63 : decode cX6_book 63 = .ok (.iload_n 1, 1) := by decide +kernel
theorem dX6_book_64 : decode cX6_book 64 = .ok (.iadd, 1) := by decide +kernel
theorem dX6_book_65 : decode cX6_book 65 = .ok (.iload_n 1, 1) := by decide +kernel
theorem dX6_book_66 : decode cX6_book 66 = .ok (.aload_n 0, 1) := by decide +kernel
theorem dX6_book_67 : decode cX6_book 67 = .ok (.getfield 7, 3) := by decide +kernel
theorem dX6_book_70 : decode cX6_book 70 = .ok (.bipush 19, 2) := by decide +kernel
theorem dX6_book_72 : decode cX6_book 72 = .ok (.iaload, 1) := by decide +kernel
theorem dX6_book_73 : decode cX6_book 73 = .ok (.if_icmp .ge 11, 3) := by decide +kernel
theorem dX6_book_76 : decode cX6_book 76 = .ok (.aload_n 0, 1) := by decide +kernel
theorem dX6_book_77 : decode cX6_book 77 = .ok (.iload_n 1, 1) := by decide +kernel
theorem dX6_book_78 : decode cX6_book 78 = .ok (.invokevirtual 66, 3) := by decide +kernel
theorem dX6_book_81 : decode cX6_book 81 = .ok (.goto 4, 3) := by decide +kernel
theorem dX6_book_84 : decode cX6_book 84 = .ok (.iconst 0, 1) := by decide +kernel
theorem dX6_book_85 : decode cX6_book 85 = .ok (.iastore, 1) := by decide +kernel
theorem dX6_book_86 : decode cX6_book 86 = .ok (.iinc 1 1, 3) := by decide +kernel
theorem dX6_book_89 : decode cX6_book 89 = .ok (.goto (-37), 3) := by decide +kernel
theorem dX6_book_92 : decode cX6_book 92 = .ok (.aload_n 0, 1) := by decide +kernel
theorem dX6_book_93 : decode cX6_book 93 = .ok (.getfield 7, 3) := by decide +kernel
theorem dX6_book_96 : decode cX6_book 96 = .ok (.bipush 95, 2) := by decide +kernel
theorem dX6_book_98 : decode cX6_book 98 = .ok (.dup2, 1) := by decide +kernel
theorem dX6_book_99 : decode cX6_book 99 = .ok (.iaload, 1) := by decide +kernel
theorem dX6_book_100 : decode cX6_book 100 = .ok (.aload_n 0, 1) := by decide +kernel
theorem dX6_book_101 : decode cX6_book 101 = .ok (.getfield 7, 3) := by decide +kernel
theorem dX6_book_104 : decode cX6_book 104 = .ok (.bipush 95, 2) := by decide +kernel
theorem dX6_book_106 : decode cX6_book 106 = .ok (.iaload, 1) := by decide +kernel
theorem dX6_book_107 : decode cX6_book 107 = .ok (.iconst 4, 1) := by decide +kernel
theorem dX6_book_108 : decode cX6_book 108 = .ok (.if_icmp .ge 7, 3) := by decide +kernel
theorem dX6_book_111 : decode cX6_book 111 = .ok (.iconst 1, 1) := by decide +kernel
theorem dX6_book_112 : decode cX6_book 112 = .ok (.goto 4, 3) := by decide +kernel
theorem dX6_book_115 : decode cX6_book 115 = .ok (.iconst 0, 1) := by decide +kernel
theorem dX6_book_116 : decode cX6_book 116 = .ok (.iadd, 1) := by decide +kernel
theorem dX6_book_117 : decode cX6_book 117 = .ok (.iastore, 1) := by decide +kernel
theorem dX6_book_118 : decode cX6_book 118 = .ok (.aload_n 0, 1) := by decide +kernel
theorem dX6_book_119 : decode cX6_book 119 = .ok (.getfield 7, 3) := by decide +kernel
theorem dX6_book_122 : decode cX6_book 122 = .ok (.bipush 14, 2) := by decide +kernel
theorem dX6_book_124 : decode cX6_book 124 = .ok (.dup2, 1) := by decide +kernel
theorem dX6_book_125 : decode cX6_book 125 = .ok (.iaload, 1) := by decide +kernel
theorem dX6_book_126 : decode cX6_book 126 = .ok (.iconst 1, 1) := by decide +kernel
theorem dX6_book_127 : decode cX6_book 127 = .ok (.iadd, 1) := by decide +kernel
theorem dX6_book_128 : decode cX6_book 128 = .ok (.iastore, 1) := by decide +kernel
theorem dX6_book_129 : decode cX6_book 129 = .ok (.return_, 1) := by decide +kernel
theorem dX6_noon_0 : decode cX6_noon 0 = .ok (.aload_n 0, 1) := by decide +kernel
theorem dX6_noon_1 : decode cX6_noon 1 = .ok (.invokevirtual 99, 3) := by decide +kernel
theorem dX6_noon_4 : decode cX6_noon 4 = .ok (.iconst 0, 1) := by decide +kernel
theorem dX6_noon_5 : decode cX6_noon 5 = .ok (.istore_n 1, 1) := by decide +kernel
theorem dX6_noon_6 : decode cX6_noon 6 = .ok (.iload_n 1, 1) := by decide +kernel
theorem dX6_noon_7 : decode cX6_noon 7 = .ok (.aload_n 0, 1) := by decide +kernel
theorem dX6_noon_8 : decode cX6_noon 8 = .ok (.getfield 7, 3) := by decide +kernel
theorem dX6_noon_11 : decode cX6_noon 11 = .ok (.bipush 19, 2) := by decide +kernel
theorem dX6_noon_13 : decode cX6_noon 13 = .ok (.iaload, 1) := by decide +kernel
theorem dX6_noon_14 : decode cX6_noon 14 = .ok (.if_icmp .ge 53, 3) := by decide +kernel
theorem dX6_noon_17 : decode cX6_noon 17 = .ok (.aload_n 0, 1) := by decide +kernel
theorem dX6_noon_18 : decode cX6_noon 18 = .ok (.iload_n 1, 1) := by decide +kernel
theorem dX6_noon_19 : decode cX6_noon 19 = .ok (.invokevirtual 102, 3) := by decide +kernel
theorem dX6_noon_22 : decode cX6_noon 22 = .ok (.istore_n 2, 1) := by decide +kernel
theorem dX6_noon_23 : decode cX6_noon 23 = .ok (.aload_n 0, 1) := by decide +kernel
theorem dX6_noon_24 : decode cX6_noon 24 = .ok (.getfield 7, 3) := by decide +kernel
theorem dX6_noon_27 : decode cX6_noon 27 = .ok (.bipush 15, 2) := by decide +kernel
theorem dX6_noon_29 : decode cX6_noon 29 = .ok (.dup2, 1) := by decide +kernel
theorem dX6_noon_30 : decode cX6_noon 30 = .ok (.iaload, 1) := by decide +kernel
theorem dX6_noon_31 : decode cX6_noon 31 = .ok (.iload_n 2, 1) := by decide +kernel
theorem dX6_noon_32 : decode cX6_noon 32 = .ok (.ifCond .eq 7, 3) := by decide +kernel
theorem dX6_noon_35 : decode cX6_noon 35 = .ok (.iconst 1, 1) := by decide +kernel
theorem dX6_noon_36 : decode cX6_noon 36 = .ok (.goto 4, 3) := by decide +kernel
theorem dX6_noon_39 : decode cX6_noon 39 = .ok (.iconst 0, 1) := by decide +kernel
theorem dX6_noon_40 : decode cX6_noon 40 = .ok (.iadd, 1) := by decide +kernel
theorem dX6_noon_41 : decode cX6_noon 41 = .ok (.iastore, 1) := by decide +kernel
theorem dX6_noon_42 : decode cX6_noon 42 = .ok (.iload_n 2, 1) := by decide +kernel
theorem dX6_noon_43 : decode cX6_noon 43 = .ok (.ifCond .eq 18, 3) := by decide +kernel
theorem dX6_noon_46 : decode cX6_noon 46 = .ok (.aload_n 0, 1) := by decide +kernel
theorem dX6_noon_47 : decode cX6_noon 47 = .ok (.getfield 7, 3) := by decide +kernel
theorem dX6_noon_50 : decode cX6_noon 50 = .ok (.iconst 5, 1) := by decide +kernel
theorem dX6_noon_51 : decode cX6_noon 51 = .ok (.iaload, 1) := by decide +kernel
theorem dX6_noon_52 : decode cX6_noon 52 = .ok (.iconst 1, 1) := by decide +kernel
theorem dX6_noon_53 : decode cX6_noon 53 = .ok (.if_icmp .ne 8, 3) := by decide +kernel
theorem dX6_noon_56 : decode cX6_noon 56 = .ok (.aload_n 0, 1) := by decide +kernel
theorem dX6_noon_57 : decode cX6_noon 57 = .ok (.iload_n 1, 1) := by decide +kernel
theorem dX6_noon_58 : decode cX6_noon 58 = .ok (.invokevirtual 105, 3) := by decide +kernel
theorem dX6_noon_61 : decode cX6_noon 61 = .ok (.iinc 1 1, 3) := by decide +kernel
theorem dX6_noon_64 : decode cX6_noon 64 = .ok (.goto (-58), 3) := by decide +kernel
theorem dX6_noon_67 : decode cX6_noon 67 = .ok (.return_, 1) := by decide +kernel
theorem dX6_pass_0 : decode cX6_pass 0 = .ok (.iconst 0, 1) := by decide +kernel
theorem dX6_pass_1 : decode cX6_pass 1 = .ok (.istore_n 1, 1) := by decide +kernel
theorem dX6_pass_2 : decode cX6_pass 2 = .ok (.iconst 0, 1) := by decide +kernel
theorem dX6_pass_3 : decode cX6_pass 3 = .ok (.istore_n 2, 1) := by decide +kernel
theorem dX6_pass_4 : decode cX6_pass 4 = .ok (.iload_n 2, 1) := by decide +kernel
theorem dX6_pass_5 : decode cX6_pass 5 = .ok (.aload_n 0, 1) := by decide +kernel
theorem dX6_pass_6 : decode cX6_pass 6 = .ok (.getfield 7, 3) := by decide +kernel
theorem dX6_pass_9 : decode cX6_pass 9 = .ok (.bipush 19, 2) := by decide +kernel
theorem dX6_pass_11 : decode cX6_pass 11 = .ok (.iaload, 1) := by decide +kernel
theorem dX6_pass_12 : decode cX6_pass 12 = .ok (.if_icmp .ge 17, 3) := by decide +kernel
theorem dX6_pass_15 : decode cX6_pass 15 = .ok (.iload_n 1, 1) := by decide +kernel
theorem dX6_pass_16 : decode cX6_pass 16 = .ok (.aload_n 0, 1) := by decide +kernel
theorem dX6_pass_17 : decode cX6_pass 17 = .ok (.iload_n 2, 1) := by decide +kernel
theorem dX6_pass_18 : decode cX6_pass 18 = .ok (.invokevirtual 108, 3) := by decide +kernel
theorem dX6_pass_21 : decode cX6_pass 21 = .ok (.iadd, 1) := by decide +kernel
theorem dX6_pass_22 : decode cX6_pass 22 = .ok (.istore_n 1, 1) := by decide +kernel
theorem dX6_pass_23 : decode cX6_pass 23 = .ok (.iinc 2 1, 3) := by decide +kernel
theorem dX6_pass_26 : decode cX6_pass 26 = .ok (.goto (-22), 3) := by decide +kernel
theorem dX6_pass_29 : decode cX6_pass 29 = .ok (.iconst 0, 1) := by decide +kernel
theorem dX6_pass_30 : decode cX6_pass 30 = .ok (.istore_n 2, 1) := by decide +kernel
theorem dX6_pass_31 : decode cX6_pass 31 = .ok (.iload_n 2, 1) := by decide +kernel
theorem dX6_pass_32 : decode cX6_pass 32 = .ok (.aload_n 0, 1) := by decide +kernel
theorem dX6_pass_33 : decode cX6_pass 33 = .ok (.getfield 7, 3) := by decide +kernel
theorem dX6_pass_36 : decode cX6_pass 36 = .ok (.bipush 19, 2) := by decide +kernel
theorem dX6_pass_38 : decode cX6_pass 38 = .ok (.iaload, 1) := by decide +kernel
theorem dX6_pass_39 : decode cX6_pass 39 = .ok (.if_icmp .ge 14, 3) := by decide +kernel
theorem dX6_pass_42 : decode cX6_pass 42 = .ok (.aload_n 0, 1) := by decide +kernel
theorem dX6_pass_43 : decode cX6_pass 43 = .ok (.iload_n 2, 1) := by decide +kernel
theorem dX6_pass_44 : decode cX6_pass 44 = .ok (.invokevirtual 111, 3) := by decide +kernel
theorem dX6_pass_47 : decode cX6_pass 47 = .ok (.iinc 2 1, 3) := by decide +kernel
theorem dX6_pass_50 : decode cX6_pass 50 = .ok (.goto (-19), 3) := by decide +kernel
theorem dX6_pass_53 : decode cX6_pass 53 = .ok (.aload_n 0, 1) := by decide +kernel
theorem dX6_pass_54 : decode cX6_pass 54 = .ok (.getfield 7, 3) := by decide +kernel
theorem dX6_pass_57 : decode cX6_pass 57 = .ok (.bipush 11, 2) := by decide +kernel
theorem dX6_pass_59 : decode cX6_pass 59 = .ok (.dup2, 1) := by decide +kernel
theorem dX6_pass_60 : decode cX6_pass 60 = .ok (.iaload, 1) := by decide +kernel
theorem dX6_pass_61 : decode cX6_pass 61 = .ok (.iload_n 1, 1) := by decide +kernel
theorem dX6_pass_62 : decode cX6_pass 62 = .ok (.iadd, 1) := by decide +kernel
theorem dX6_pass_63 : decode cX6_pass 63 = .ok (.iastore, 1) := by decide +kernel
theorem dX6_pass_64 : decode cX6_pass 64 = .ok (.aload_n 0, 1) := by decide +kernel
theorem dX6_pass_65 : decode cX6_pass 65 = .ok (.getfield 7, 3) := by decide +kernel
theorem dX6_pass_68 : decode cX6_pass 68 = .ok (.bipush 6, 2) := by decide +kernel
theorem dX6_pass_70 : decode cX6_pass 70 = .ok (.dup2, 1) := by decide +kernel
theorem dX6_pass_71 : decode cX6_pass 71 = .ok (.iaload, 1) := by decide +kernel
theorem dX6_pass_72 : decode cX6_pass 72 = .ok (.iconst 1, 1) := by decide +kernel
theorem dX6_pass_73 : decode cX6_pass 73 = .ok (.iadd, 1) := by decide +kernel
theorem dX6_pass_74 : decode cX6_pass 74 = .ok (.iastore, 1) := by decide +kernel
theorem dX6_pass_75 : decode cX6_pass 75 = .ok (.iload_n 1, 1) := by decide +kernel
theorem dX6_pass_76 : decode cX6_pass 76 = .ok (.ireturn, 1) := by decide +kernel
theorem dX6_tick_0 : decode cX6_tick 0 = .ok (.aload_n 0, 1) := by decide +kernel
theorem dX6_tick_1 : decode cX6_tick 1 = .ok (.invokevirtual 114, 3) := by decide +kernel
theorem dX6_tick_4 : decode cX6_tick 4 = .ok (.istore_n 1, 1) := by decide +kernel
theorem dX6_tick_5 : decode cX6_tick 5 = .ok (.aload_n 0, 1) := by decide +kernel
theorem dX6_tick_6 : decode cX6_tick 6 = .ok (.invokevirtual 117, 3) := by decide +kernel
theorem dX6_tick_9 : decode cX6_tick 9 = .ok (.ifCond .eq 7, 3) := by decide +kernel
theorem dX6_tick_12 : decode cX6_tick 12 = .ok (.aload_n 0, 1) := by decide +kernel
theorem dX6_tick_13 : decode cX6_tick 13 = .ok (.invokevirtual 121, 3) := by decide +kernel
theorem dX6_tick_16 : decode cX6_tick 16 = .ok (.iload_n 1, 1) := by decide +kernel
theorem dX6_tick_17 : decode cX6_tick 17 = .ok (.ireturn, 1) := by decide +kernel
theorem dX6_clockNow_0 : decode cX6_clockNow 0 = .ok (.iload_n 1, 1) := by decide +kernel
theorem dX6_clockNow_1 : decode cX6_clockNow 1 = .ok (.iconst 0, 1) := by decide +kernel
theorem dX6_clockNow_2 : decode cX6_clockNow 2 = .ok (.iconst 2, 1) := by decide +kernel
theorem dX6_clockNow_3 : decode cX6_clockNow 3 = .ok (.invokestatic 36, 3) := by decide +kernel
theorem dX6_clockNow_6 : decode cX6_clockNow 6 = .ok (.ifCond .eq 24, 3) := by decide +kernel
theorem dX6_clockNow_9 : decode cX6_clockNow 9 = .ok (.iload_n 2, 1) := by decide +kernel
theorem dX6_clockNow_10 : decode cX6_clockNow 10 = .ok (.iconst 1, 1) := by decide +kernel
theorem dX6_clockNow_11 : decode cX6_clockNow 11 = .ok (.bipush 60, 2) := by decide +kernel
theorem dX6_clockNow_13 : decode cX6_clockNow 13 = .ok (.invokestatic 36, 3) := by decide +kernel
theorem dX6_clockNow_16 : decode cX6_clockNow 16 = .ok (.ifCond .eq 14, 3) := by decide +kernel
theorem dX6_clockNow_19 : decode cX6_clockNow 19 = .ok (.iload_n 3, 1) := by decide +kernel
theorem dX6_clockNow_20 : decode cX6_clockNow 20 = .ok (.iconst 1, 1) := by decide +kernel
theorem dX6_clockNow_21 : decode cX6_clockNow 21 = .ok (.sipush 500, 3) := by decide +kernel
theorem dX6_clockNow_24 : decode cX6_clockNow 24 = .ok (.invokestatic 36, 3) := by decide +kernel
theorem dX6_clockNow_27 : decode cX6_clockNow 27 = .ok (.ifCond .ne 6, 3) := by decide +kernel
theorem dX6_clockNow_30 : decode cX6_clockNow 30 = .ok (.ldc 35, 2) := by decide +kernel
theorem dX6_clockNow_32 : decode cX6_clockNow 32 = .ok (.ireturn, 1) := by decide +kernel
theorem dX6_clockNow_33 : decode cX6_clockNow 33 = .ok (.aload_n 0, 1) := by decide +kernel
theorem dX6_clockNow_34 : decode cX6_clockNow 34 = .ok (.getfield 7, 3) := by decide +kernel
theorem dX6_clockNow_37 : decode cX6_clockNow 37 = .ok (.bipush 19, 2) := by decide +kernel
theorem dX6_clockNow_39 : decode cX6_clockNow 39 = .ok (.iaload, 1) := by decide +kernel
theorem dX6_clockNow_40 : decode cX6_clockNow 40 = .ok (.iconst 5, 1) := by decide +kernel
theorem dX6_clockNow_41 : decode cX6_clockNow 41 = .ok (.if_icmp .ne 6, 3) := by decide +kernel
theorem dX6_clockNow_44 : decode cX6_clockNow 44 = .ok (.ldc 124, 2) := by decide +kernel
theorem dX6_clockNow_46 : decode cX6_clockNow 46 = .ok (.ireturn, 1) := by decide +kernel
theorem dX6_clockNow_47 : decode cX6_clockNow 47 = .ok (.aload_n 0, 1) := by decide +kernel
theorem dX6_clockNow_48 : decode cX6_clockNow 48 = .ok (.getfield 7, 3) := by decide +kernel
theorem dX6_clockNow_51 : decode cX6_clockNow 51 = .ok (.bipush 19, 2) := by decide +kernel
theorem dX6_clockNow_53 : decode cX6_clockNow 53 = .ok (.iaload, 1) := by decide +kernel
theorem dX6_clockNow_54 : decode cX6_clockNow 54 = .ok (.istore 4, 2) := by decide +kernel
theorem dX6_clockNow_56 : decode cX6_clockNow 56 = .ok (.aload_n 0, 1) := by decide +kernel
theorem dX6_clockNow_57 : decode cX6_clockNow 57 = .ok (.getfield 7, 3) := by decide +kernel
theorem dX6_clockNow_60 : decode cX6_clockNow 60 = .ok (.bipush 19, 2) := by decide +kernel
theorem dX6_clockNow_62 : decode cX6_clockNow 62 = .ok (.dup2, 1) := by decide +kernel
theorem dX6_clockNow_63 : decode cX6_clockNow 63 = .ok (.iaload, 1) := by decide +kernel
theorem dX6_clockNow_64 : decode cX6_clockNow 64 = .ok (.iconst 1, 1) := by decide +kernel
theorem dX6_clockNow_65 : decode cX6_clockNow 65 = .ok (.iadd, 1) := by decide +kernel
theorem dX6_clockNow_66 : decode cX6_clockNow 66 = .ok (.iastore, 1) := by decide +kernel
theorem dX6_clockNow_67 : decode cX6_clockNow 67 = .ok (.iconst 0, 1) := by decide +kernel
theorem dX6_clockNow_68 : decode cX6_clockNow 68 = .ok (.istore 5, 2) := by decide +kernel
theorem dX6_clockNow_70 : decode cX6_clockNow 70 = .ok (.iload 5, 2) := by decide +kernel
theorem dX6_clockNow_72 : decode cX6_clockNow 72 = .ok (.bipush 15, 2) := by decide +kernel
theorem dX6_clockNow_74 : decode cX6_clockNow 74 = .ok (.if_icmp .ge 18, 3) := by decide +kernel
theorem dX6_clockNow_77 : decode cX6_clockNow 77 = .ok (.aload_n 0, 1) := by decide +kernel
theorem dX6_clockNow_78 : decode cX6_clockNow 78 = .ok (.iload 4, 2) := by decide +kernel
theorem dX6_clockNow_80 : decode cX6_clockNow 80 = .ok (.iload 5, 2) := by decide +kernel
theorem dX6_clockNow_82 : decode cX6_clockNow 82 = .ok (.iconst 0, 1) := by decide +kernel
theorem dX6_clockNow_83 : decode cX6_clockNow 83 = .ok (.invokevirtual 72, 3) := by decide +kernel
theorem dX6_clockNow_86 : decode cX6_clockNow 86 = .ok (.iinc 5 1, 3) := by decide +kernel
theorem dX6_clockNow_89 : decode cX6_clockNow 89 = .ok (.goto (-19), 3) := by decide +kernel
theorem dX6_clockNow_92 : decode cX6_clockNow 92 = .ok (.aload_n 0, 1) := by decide +kernel
theorem dX6_clockNow_93 : decode cX6_clockNow 93 = .ok (.iload 4, 2) := by decide +kernel
theorem dX6_clockNow_95 : decode cX6_clockNow 95 = .ok (.iconst 0, 1) := by decide +kernel
theorem dX6_clockNow_96 : decode cX6_clockNow 96 = .ok (.iload_n 1, 1) := by decide +kernel
theorem dX6_clockNow_97 : decode cX6_clockNow 97 = .ok (.invokevirtual 72, 3) := by decide +kernel
theorem dX6_clockNow_100 : decode cX6_clockNow 100 = .ok (.aload_n 0, 1) := by decide +kernel
theorem dX6_clockNow_101 : decode cX6_clockNow 101 = .ok (.iload 4, 2) := by decide +kernel
theorem dX6_clockNow_103 : decode cX6_clockNow 103 = .ok (.iconst 1, 1) := by decide +kernel
theorem dX6_clockNow_104 : decode cX6_clockNow 104 = .ok (.iload_n 2, 1) := by decide +kernel
theorem dX6_clockNow_105 : decode cX6_clockNow 105 = .ok (.invokevirtual 72, 3) := by decide +kernel
theorem dX6_clockNow_108 : decode cX6_clockNow 108 = .ok (.aload_n 0, 1) := by decide +kernel
theorem dX6_clockNow_109 : decode cX6_clockNow 109 = .ok (.iload 4, 2) := by decide +kernel
theorem dX6_clockNow_111 : decode cX6_clockNow 111 = .ok (.iconst 2, 1) := by decide +kernel
theorem dX6_clockNow_112 : decode cX6_clockNow 112 = .ok (.iload_n 3, 1) := by decide +kernel
theorem dX6_clockNow_113 : decode cX6_clockNow 113 = .ok (.invokevirtual 72, 3) := by decide +kernel
theorem dX6_clockNow_116 : decode cX6_clockNow 116 = .ok (.aload_n 0, 1) := by decide +kernel
theorem dX6_clockNow_117 : decode cX6_clockNow 117 = .ok (.iload 4, 2) := by decide +kernel
theorem dX6_clockNow_119 : decode cX6_clockNow 119 = .ok (.iconst 5, 1) := by decide +kernel
theorem dX6_clockNow_120 : decode cX6_clockNow 120 = .ok (.iload 4, 2) := by decide +kernel
theorem dX6_clockNow_122 : decode cX6_clockNow 122 = .ok (.invokevirtual 72, 3) := by decide +kernel
theorem dX6_clockNow_125 : decode cX6_clockNow 125 = .ok (.aload_n 0, 1) := by decide +kernel
theorem dX6_clockNow_126 : decode cX6_clockNow 126 = .ok (.iload 4, 2) := by decide +kernel
theorem dX6_clockNow_128 : decode cX6_clockNow 128 = .ok (.invokevirtual 76, 3) := by decide +kernel
theorem dX6_clockNow_131 : decode cX6_clockNow 131 = .ok (.iload 4, 2) := by decide +kernel
theorem dX6_clockNow_133 : decode cX6_clockNow 133 = .ok (.ireturn, 1) := by decide +kernel
theorem dX6_leadNow_0 : decode cX6_leadNow 0 = .ok (.aload_n 0, 1) := by decide +kernel
theorem dX6_leadNow_1 : decode cX6_leadNow 1 = .ok (.iload_n 1, 1) := by decide +kernel
theorem dX6_leadNow_2 : decode cX6_leadNow 2 = .ok (.invokevirtual 125, 3) := by decide +kernel
theorem dX6_leadNow_5 : decode cX6_leadNow 5 = .ok (.ifCond .eq 16, 3) := by decide +kernel
theorem dX6_leadNow_8 : decode cX6_leadNow 8 = .ok (.aload_n 0, 1) := by decide +kernel
theorem dX6_leadNow_9 : decode cX6_leadNow 9 = .ok (.iload_n 2, 1) := by decide +kernel
theorem dX6_leadNow_10 : decode cX6_leadNow 10 = .ok (.invokevirtual 125, 3) := by decide +kernel
theorem dX6_leadNow_13 : decode cX6_leadNow 13 = .ok (.ifCond .eq 8, 3) := by decide +kernel
theorem dX6_leadNow_16 : decode cX6_leadNow 16 = .ok (.iload_n 2, 1) := by decide +kernel
theorem dX6_leadNow_17 : decode cX6_leadNow 17 = .ok (.iload_n 1, 1) := by decide +kernel
theorem dX6_leadNow_18 : decode cX6_leadNow 18 = .ok (.if_icmp .ge 6, 3) := by decide +kernel
theorem dX6_leadNow_21 : decode cX6_leadNow 21 = .ok (.ldc 35, 2) := by decide +kernel
theorem dX6_leadNow_23 : decode cX6_leadNow 23 = .ok (.ireturn, 1) := by decide +kernel
theorem dX6_leadNow_24 : decode cX6_leadNow 24 = .ok (.aload_n 0, 1) := by decide +kernel
theorem dX6_leadNow_25 : decode cX6_leadNow 25 = .ok (.iload_n 1, 1) := by decide +kernel
theorem dX6_leadNow_26 : decode cX6_leadNow 26 = .ok (.iconst 0, 1) := by decide +kernel
theorem dX6_leadNow_27 : decode cX6_leadNow 27 = .ok (.invokevirtual 48, 3) := by decide +kernel
theorem dX6_leadNow_30 : decode cX6_leadNow 30 = .ok (.iconst 1, 1) := by decide +kernel
theorem dX6_leadNow_31 : decode cX6_leadNow 31 = .ok (.if_icmp .ne 6, 3) := by decide +kernel
theorem dX6_leadNow_34 : decode cX6_leadNow 34 = .ok (.ldc 128, 2) := by decide +kernel
theorem dX6_leadNow_36 : decode cX6_leadNow 36 = .ok (.ireturn, 1) := by decide +kernel
theorem dX6_leadNow_37 : decode cX6_leadNow 37 = .ok (.aload_n 0, 1) := by decide +kernel
theorem dX6_leadNow_38 : decode cX6_leadNow 38 = .ok (.iload_n 1, 1) := by decide +kernel
theorem dX6_leadNow_39 : decode cX6_leadNow 39 = .ok (.iconst 5, 1) := by decide +kernel
theorem dX6_leadNow_40 : decode cX6_leadNow 40 = .ok (.invokevirtual 48, 3) := by decide +kernel
theorem dX6_leadNow_43 : decode cX6_leadNow 43 = .ok (.istore_n 3, 1) := by decide +kernel
theorem dX6_leadNow_44 : decode cX6_leadNow 44 = .ok (.aload_n 0, 1) := by decide +kernel
theorem dX6_leadNow_45 : decode cX6_leadNow 45 = .ok (.iload_n 1, 1) := by decide +kernel
theorem dX6_leadNow_46 : decode cX6_leadNow 46 = .ok (.iconst 5, 1) := by decide +kernel
theorem dX6_leadNow_47 : decode cX6_leadNow 47 = .ok (.iload_n 2, 1) := by decide +kernel
theorem dX6_leadNow_48 : decode cX6_leadNow 48 = .ok (.invokevirtual 72, 3) := by decide +kernel
theorem dX6_leadNow_51 : decode cX6_leadNow 51 = .ok (.iload_n 3, 1) := by decide +kernel
theorem dX6_leadNow_52 : decode cX6_leadNow 52 = .ok (.ireturn, 1) := by decide +kernel
theorem dX6_jug_0 : decode cX6_jug 0 = .ok (.iload_n 0, 1) := by decide +kernel
theorem dX6_jug_1 : decode cX6_jug 1 = .ok (.ifCond .ne 8, 3) := by decide +kernel
theorem dX6_jug_4 : decode cX6_jug 4 = .ok (.bipush 50, 2) := by decide +kernel
theorem dX6_jug_6 : decode cX6_jug 6 = .ok (.goto 17, 3) := by decide +kernel
theorem dX6_jug_9 : decode cX6_jug 9 = .ok (.iload_n 0, 1) := by decide +kernel
theorem dX6_jug_10 : decode cX6_jug 10 = .ok (.iconst 1, 1) := by decide +kernel
theorem dX6_jug_11 : decode cX6_jug 11 = .ok (.if_icmp .ne 9, 3) := by decide +kernel
theorem dX6_jug_14 : decode cX6_jug 14 = .ok (.sipush 200, 3) := by decide +kernel
theorem dX6_jug_17 : decode cX6_jug 17 = .ok (.goto 6, 3) := by decide +kernel
theorem dX6_jug_20 : decode cX6_jug 20 = .ok (.sipush 700, 3) := by decide +kernel
theorem dX6_jug_23 : decode cX6_jug 23 = .ok (.ireturn, 1) := by decide +kernel
theorem dX6_reason_0 : decode cX6_reason 0 = .ok (.aload_n 0, 1) := by decide +kernel
theorem dX6_reason_1 : decode cX6_reason 1 = .ok (.getfield 7, 3) := by decide +kernel
theorem dX6_reason_4 : decode cX6_reason 4 = .ok (.bipush 7, 2) := by decide +kernel
theorem dX6_reason_6 : decode cX6_reason 6 = .ok (.iaload, 1) := by decide +kernel
theorem dX6_reason_7 : decode cX6_reason 7 = .ok (.iload_n 2, 1) := by decide +kernel
theorem dX6_reason_8 : decode cX6_reason 8 = .ok (.invokestatic 129, 3) := by decide +kernel
theorem dX6_reason_11 : decode cX6_reason 11 = .ok (.if_icmp .ge 7, 3) := by decide +kernel
theorem dX6_reason_14 : decode cX6_reason 14 = .ok (.iconst 1, 1) := by decide +kernel
theorem dX6_reason_15 : decode cX6_reason 15 = .ok (.goto 23, 3) := by decide +kernel
theorem dX6_reason_18 : decode cX6_reason 18 = .ok (.aload_n 0, 1) := by decide +kernel
theorem dX6_reason_19 : decode cX6_reason 19 = .ok (.iload_n 1, 1) := by decide +kernel
theorem dX6_reason_20 : decode cX6_reason 20 = .ok (.iconst 3, 1) := by decide +kernel
theorem dX6_reason_21 : decode cX6_reason 21 = .ok (.invokevirtual 48, 3) := by decide +kernel
theorem dX6_reason_24 : decode cX6_reason 24 = .ok (.aload_n 0, 1) := by decide +kernel
theorem dX6_reason_25 : decode cX6_reason 25 = .ok (.getfield 7, 3) := by decide +kernel
theorem dX6_reason_28 : decode cX6_reason 28 = .ok (.iconst 0, 1) := by decide +kernel
theorem dX6_reason_29 : decode cX6_reason 29 = .ok (.iaload, 1) := by decide +kernel
theorem dX6_reason_30 : decode cX6_reason 30 = .ok (.if_icmp .lt 7, 3) := by decide +kernel
theorem dX6_reason_33 : decode cX6_reason 33 = .ok (.iconst 2, 1) := by decide +kernel
theorem dX6_reason_34 : decode cX6_reason 34 = .ok (.goto 4, 3) := by decide +kernel
theorem dX6_reason_37 : decode cX6_reason 37 = .ok (.iconst 0, 1) := by decide +kernel
theorem dX6_reason_38 : decode cX6_reason 38 = .ok (.ireturn, 1) := by decide +kernel
theorem dX6_pourNow_0 : decode cX6_pourNow 0 = .ok (.aload_n 0, 1) := by decide +kernel
theorem dX6_pourNow_1 : decode cX6_pourNow 1 = .ok (.iload_n 1, 1) := by decide +kernel
theorem dX6_pourNow_2 : decode cX6_pourNow 2 = .ok (.invokevirtual 125, 3) := by decide +kernel
theorem dX6_pourNow_5 : decode cX6_pourNow 5 = .ok (.ifCond .eq 12, 3) := by decide +kernel
theorem dX6_pourNow_8 : decode cX6_pourNow 8 = .ok (.iload_n 2, 1) := by decide +kernel
theorem dX6_pourNow_9 : decode cX6_pourNow 9 = .ok (.iconst 0, 1) := by decide +kernel
theorem dX6_pourNow_10 : decode cX6_pourNow 10 = .ok (.iconst 2, 1) := by decide +kernel
theorem dX6_pourNow_11 : decode cX6_pourNow 11 = .ok (.invokestatic 36, 3) := by decide +kernel
theorem dX6_pourNow_14 : decode cX6_pourNow 14 = .ok (.ifCond .ne 6, 3) := by decide +kernel
theorem dX6_pourNow_17 : decode cX6_pourNow 17 = .ok (.ldc 35, 2) := by decide +kernel
theorem dX6_pourNow_19 : decode cX6_pourNow 19 = .ok (.ireturn, 1) := by decide +kernel
theorem dX6_pourNow_20 : decode cX6_pourNow 20 = .ok (.aload_n 0, 1) := by decide +kernel
theorem dX6_pourNow_21 : decode cX6_pourNow 21 = .ok (.iload_n 1, 1) := by decide +kernel
theorem dX6_pourNow_22 : decode cX6_pourNow 22 = .ok (.iload_n 2, 1) := by decide +kernel
theorem dX6_pourNow_23 : decode cX6_pourNow 23 = .ok (.invokevirtual 132, 3) := by decide +kernel
theorem dX6_pourNow_26 : decode cX6_pourNow 26 = .ok (.ifCond .le 6, 3) := by decide +kernel
theorem dX6_pourNow_29 : decode cX6_pourNow 29 = .ok (.ldc 128, 2) := by decide +kernel
theorem dX6_pourNow_31 : decode cX6_pourNow 31 = .ok (.ireturn, 1) := by decide +kernel
theorem dX6_pourNow_32 : decode cX6_pourNow 32 = .ok (.aload_n 0, 1) := by decide +kernel
theorem dX6_pourNow_33 : decode cX6_pourNow 33 = .ok (.getfield 7, 3) := by decide +kernel
theorem dX6_pourNow_36 : decode cX6_pourNow 36 = .ok (.bipush 7, 2) := by decide +kernel
theorem dX6_pourNow_38 : decode cX6_pourNow 38 = .ok (.dup2, 1) := by decide +kernel
theorem dX6_pourNow_39 : decode cX6_pourNow 39 = .ok (.iaload, 1) := by decide +kernel
theorem dX6_pourNow_40 : decode cX6_pourNow 40 = .ok (.iload_n 2, 1) := by decide +kernel
theorem dX6_pourNow_41 : decode cX6_pourNow 41 = .ok (.invokestatic 129, 3) := by decide +kernel
theorem dX6_pourNow_44 : decode cX6_pourNow 44 = .ok (.isub, 1) := by decide +kernel
theorem dX6_pourNow_45 : decode cX6_pourNow 45 = .ok (.iastore, 1) := by decide +kernel
theorem dX6_pourNow_46 : decode cX6_pourNow 46 = .ok (.aload_n 0, 1) := by decide +kernel
theorem dX6_pourNow_47 : decode cX6_pourNow 47 = .ok (.getfield 7, 3) := by decide +kernel
theorem dX6_pourNow_50 : decode cX6_pourNow 50 = .ok (.bipush 10, 2) := by decide +kernel
theorem dX6_pourNow_52 : decode cX6_pourNow 52 = .ok (.dup2, 1) := by decide +kernel
theorem dX6_pourNow_53 : decode cX6_pourNow 53 = .ok (.iaload, 1) := by decide +kernel
theorem dX6_pourNow_54 : decode cX6_pourNow 54 = .ok (.iload_n 2, 1) := by decide +kernel
theorem dX6_pourNow_55 : decode cX6_pourNow 55 = .ok (.invokestatic 129, 3) := by decide +kernel
theorem dX6_pourNow_58 : decode cX6_pourNow 58 = .ok (.iadd, 1) := by decide +kernel
theorem dX6_pourNow_59 : decode cX6_pourNow 59 = .ok (.iastore, 1) := by decide +kernel
theorem dX6_pourNow_60 : decode cX6_pourNow 60 = .ok (.aload_n 0, 1) := by decide +kernel
theorem dX6_pourNow_61 : decode cX6_pourNow 61 = .ok (.getfield 7, 3) := by decide +kernel
theorem dX6_pourNow_64 : decode cX6_pourNow 64 = .ok (.bipush 18, 2) := by decide +kernel
theorem dX6_pourNow_66 : decode cX6_pourNow 66 = .ok (.dup2, 1) := by decide +kernel
theorem dX6_pourNow_67 : decode cX6_pourNow 67 = .ok (.iaload, 1) := by decide +kernel
theorem dX6_pourNow_68 : decode cX6_pourNow 68 = .ok (.iconst 1, 1) := by decide +kernel
theorem dX6_pourNow_69 : decode cX6_pourNow 69 = .ok (.iadd, 1) := by decide +kernel
theorem dX6_pourNow_70 : decode cX6_pourNow 70 = .ok (.iastore, 1) := by decide +kernel
theorem dX6_pourNow_71 : decode cX6_pourNow 71 = .ok (.aload_n 0, 1) := by decide +kernel
theorem dX6_pourNow_72 : decode cX6_pourNow 72 = .ok (.iload_n 1, 1) := by decide +kernel
theorem dX6_pourNow_73 : decode cX6_pourNow 73 = .ok (.bipush 10, 2) := by decide +kernel
theorem dX6_pourNow_75 : decode cX6_pourNow 75 = .ok (.iload_n 2, 1) := by decide +kernel
theorem dX6_pourNow_76 : decode cX6_pourNow 76 = .ok (.invokestatic 129, 3) := by decide +kernel
theorem dX6_pourNow_79 : decode cX6_pourNow 79 = .ok (.invokevirtual 80, 3) := by decide +kernel
theorem dX6_pourNow_82 : decode cX6_pourNow 82 = .ok (.aload_n 0, 1) := by decide +kernel
theorem dX6_pourNow_83 : decode cX6_pourNow 83 = .ok (.iload_n 1, 1) := by decide +kernel
theorem dX6_pourNow_84 : decode cX6_pourNow 84 = .ok (.iload_n 2, 1) := by decide +kernel
theorem dX6_pourNow_85 : decode cX6_pourNow 85 = .ok (.invokestatic 129, 3) := by decide +kernel
theorem dX6_pourNow_88 : decode cX6_pourNow 88 = .ok (.invokevirtual 83, 3) := by decide +kernel
theorem dX6_pourNow_91 : decode cX6_pourNow 91 = .ok (.ireturn, 1) := by decide +kernel
theorem dX6_waxNow_0 : decode cX6_waxNow 0 = .ok (.aload_n 0, 1) := by decide +kernel
theorem dX6_waxNow_1 : decode cX6_waxNow 1 = .ok (.iload_n 1, 1) := by decide +kernel
theorem dX6_waxNow_2 : decode cX6_waxNow 2 = .ok (.invokevirtual 125, 3) := by decide +kernel
theorem dX6_waxNow_5 : decode cX6_waxNow 5 = .ok (.ifCond .eq 13, 3) := by decide +kernel
theorem dX6_waxNow_8 : decode cX6_waxNow 8 = .ok (.iload_n 2, 1) := by decide +kernel
theorem dX6_waxNow_9 : decode cX6_waxNow 9 = .ok (.iconst 1, 1) := by decide +kernel
theorem dX6_waxNow_10 : decode cX6_waxNow 10 = .ok (.bipush 59, 2) := by decide +kernel
theorem dX6_waxNow_12 : decode cX6_waxNow 12 = .ok (.invokestatic 36, 3) := by decide +kernel
theorem dX6_waxNow_15 : decode cX6_waxNow 15 = .ok (.ifCond .ne 6, 3) := by decide +kernel
theorem dX6_waxNow_18 : decode cX6_waxNow 18 = .ok (.ldc 35, 2) := by decide +kernel
theorem dX6_waxNow_20 : decode cX6_waxNow 20 = .ok (.ireturn, 1) := by decide +kernel
theorem dX6_waxNow_21 : decode cX6_waxNow 21 = .ok (.aload_n 0, 1) := by decide +kernel
theorem dX6_waxNow_22 : decode cX6_waxNow 22 = .ok (.iload_n 1, 1) := by decide +kernel
theorem dX6_waxNow_23 : decode cX6_waxNow 23 = .ok (.iconst 1, 1) := by decide +kernel
theorem dX6_waxNow_24 : decode cX6_waxNow 24 = .ok (.invokevirtual 48, 3) := by decide +kernel
theorem dX6_waxNow_27 : decode cX6_waxNow 27 = .ok (.iload_n 2, 1) := by decide +kernel
theorem dX6_waxNow_28 : decode cX6_waxNow 28 = .ok (.isub, 1) := by decide +kernel
theorem dX6_waxNow_29 : decode cX6_waxNow 29 = .ok (.iconst 1, 1) := by decide +kernel
theorem dX6_waxNow_30 : decode cX6_waxNow 30 = .ok (.if_icmp .ge 6, 3) := by decide +kernel
theorem dX6_waxNow_33 : decode cX6_waxNow 33 = .ok (.ldc 128, 2) := by decide +kernel
theorem dX6_waxNow_35 : decode cX6_waxNow 35 = .ok (.ireturn, 1) := by decide +kernel
theorem dX6_waxNow_36 : decode cX6_waxNow 36 = .ok (.aload_n 0, 1) := by decide +kernel
theorem dX6_waxNow_37 : decode cX6_waxNow 37 = .ok (.iload_n 1, 1) := by decide +kernel
theorem dX6_waxNow_38 : decode cX6_waxNow 38 = .ok (.iconst 1, 1) := by decide +kernel
theorem dX6_waxNow_39 : decode cX6_waxNow 39 = .ok (.iload_n 2, 1) := by decide +kernel
theorem dX6_waxNow_40 : decode cX6_waxNow 40 = .ok (.ineg, 1) := by decide +kernel
theorem dX6_waxNow_41 : decode cX6_waxNow 41 = .ok (.invokevirtual 80, 3) := by decide +kernel
theorem dX6_waxNow_44 : decode cX6_waxNow 44 = .ok (.aload_n 0, 1) := by decide +kernel
theorem dX6_waxNow_45 : decode cX6_waxNow 45 = .ok (.iload_n 1, 1) := by decide +kernel
theorem dX6_waxNow_46 : decode cX6_waxNow 46 = .ok (.iconst 1, 1) := by decide +kernel
theorem dX6_waxNow_47 : decode cX6_waxNow 47 = .ok (.invokevirtual 48, 3) := by decide +kernel
theorem dX6_waxNow_50 : decode cX6_waxNow 50 = .ok (.ireturn, 1) := by decide +kernel
theorem dX6_pitchNow_0 : decode cX6_pitchNow 0 = .ok (.aload_n 0, 1) := by decide +kernel
theorem dX6_pitchNow_1 : decode cX6_pitchNow 1 = .ok (.iload_n 1, 1) := by decide +kernel
theorem dX6_pitchNow_2 : decode cX6_pitchNow 2 = .ok (.invokevirtual 125, 3) := by decide +kernel
theorem dX6_pitchNow_5 : decode cX6_pitchNow 5 = .ok (.ifCond .eq 14, 3) := by decide +kernel
theorem dX6_pitchNow_8 : decode cX6_pitchNow 8 = .ok (.iload_n 2, 1) := by decide +kernel
theorem dX6_pitchNow_9 : decode cX6_pitchNow 9 = .ok (.iconst 1, 1) := by decide +kernel
theorem dX6_pitchNow_10 : decode cX6_pitchNow 10 = .ok (.sipush 500, 3) := by decide +kernel
theorem dX6_pitchNow_13 : decode cX6_pitchNow 13 = .ok (.invokestatic 36, 3) := by decide +kernel
theorem dX6_pitchNow_16 : decode cX6_pitchNow 16 = .ok (.ifCond .ne 6, 3) := by decide +kernel
theorem dX6_pitchNow_19 : decode cX6_pitchNow 19 = .ok (.ldc 35, 2) := by decide +kernel
theorem dX6_pitchNow_21 : decode cX6_pitchNow 21 = .ok (.ireturn, 1) := by decide +kernel
theorem dX6_pitchNow_22 : decode cX6_pitchNow 22 = .ok (.aload_n 0, 1) := by decide +kernel
theorem dX6_pitchNow_23 : decode cX6_pitchNow 23 = .ok (.iload_n 1, 1) := by decide +kernel
theorem dX6_pitchNow_24 : decode cX6_pitchNow 24 = .ok (.iconst 2, 1) := by decide +kernel
theorem dX6_pitchNow_25 : decode cX6_pitchNow 25 = .ok (.invokevirtual 48, 3) := by decide +kernel
theorem dX6_pitchNow_28 : decode cX6_pitchNow 28 = .ok (.istore_n 3, 1) := by decide +kernel
theorem dX6_pitchNow_29 : decode cX6_pitchNow 29 = .ok (.aload_n 0, 1) := by decide +kernel
theorem dX6_pitchNow_30 : decode cX6_pitchNow 30 = .ok (.iload_n 1, 1) := by decide +kernel
theorem dX6_pitchNow_31 : decode cX6_pitchNow 31 = .ok (.iconst 2, 1) := by decide +kernel
theorem dX6_pitchNow_32 : decode cX6_pitchNow 32 = .ok (.iload_n 2, 1) := by decide +kernel
theorem dX6_pitchNow_33 : decode cX6_pitchNow 33 = .ok (.invokevirtual 72, 3) := by decide +kernel
theorem dX6_pitchNow_36 : decode cX6_pitchNow 36 = .ok (.aload_n 0, 1) := by decide +kernel
theorem dX6_pitchNow_37 : decode cX6_pitchNow 37 = .ok (.iload_n 1, 1) := by decide +kernel
theorem dX6_pitchNow_38 : decode cX6_pitchNow 38 = .ok (.invokevirtual 105, 3) := by decide +kernel
theorem dX6_pitchNow_41 : decode cX6_pitchNow 41 = .ok (.iload_n 3, 1) := by decide +kernel
theorem dX6_pitchNow_42 : decode cX6_pitchNow 42 = .ok (.ireturn, 1) := by decide +kernel
theorem dX6_trueNow_0 : decode cX6_trueNow 0 = .ok (.aload_n 0, 1) := by decide +kernel
theorem dX6_trueNow_1 : decode cX6_trueNow 1 = .ok (.iload_n 1, 1) := by decide +kernel
theorem dX6_trueNow_2 : decode cX6_trueNow 2 = .ok (.invokevirtual 125, 3) := by decide +kernel
theorem dX6_trueNow_5 : decode cX6_trueNow 5 = .ok (.ifCond .ne 6, 3) := by decide +kernel
theorem dX6_trueNow_8 : decode cX6_trueNow 8 = .ok (.ldc 35, 2) := by decide +kernel
theorem dX6_trueNow_10 : decode cX6_trueNow 10 = .ok (.ireturn, 1) := by decide +kernel
theorem dX6_trueNow_11 : decode cX6_trueNow 11 = .ok (.aload_n 0, 1) := by decide +kernel
theorem dX6_trueNow_12 : decode cX6_trueNow 12 = .ok (.iload_n 1, 1) := by decide +kernel
theorem dX6_trueNow_13 : decode cX6_trueNow 13 = .ok (.invokevirtual 66, 3) := by decide +kernel
theorem dX6_trueNow_16 : decode cX6_trueNow 16 = .ok (.sipush 10000, 3) := by decide +kernel
theorem dX6_trueNow_19 : decode cX6_trueNow 19 = .ok (.iadd, 1) := by decide +kernel
theorem dX6_trueNow_20 : decode cX6_trueNow 20 = .ok (.istore_n 2, 1) := by decide +kernel
theorem dX6_trueNow_21 : decode cX6_trueNow 21 = .ok (.aload_n 0, 1) := by decide +kernel
theorem dX6_trueNow_22 : decode cX6_trueNow 22 = .ok (.iload_n 1, 1) := by decide +kernel
theorem dX6_trueNow_23 : decode cX6_trueNow 23 = .ok (.invokevirtual 105, 3) := by decide +kernel
theorem dX6_trueNow_26 : decode cX6_trueNow 26 = .ok (.iload_n 2, 1) := by decide +kernel
theorem dX6_trueNow_27 : decode cX6_trueNow 27 = .ok (.ireturn, 1) := by decide +kernel
theorem dX6_ticksNow_0 : decode cX6_ticksNow 0 = .ok (.iload_n 1, 1) := by decide +kernel
theorem dX6_ticksNow_1 : decode cX6_ticksNow 1 = .ok (.iconst 1, 1) := by decide +kernel
theorem dX6_ticksNow_2 : decode cX6_ticksNow 2 = .ok (.sipush 999, 3) := by decide +kernel
theorem dX6_ticksNow_5 : decode cX6_ticksNow 5 = .ok (.invokestatic 36, 3) := by decide +kernel
theorem dX6_ticksNow_8 : decode cX6_ticksNow 8 = .ok (.ifCond .ne 6, 3) := by decide +kernel
theorem dX6_ticksNow_11 : decode cX6_ticksNow 11 = .ok (.ldc 35, 2) := by decide +kernel
theorem dX6_ticksNow_13 : decode cX6_ticksNow 13 = .ok (.ireturn, 1) := by decide +kernel
theorem dX6_ticksNow_14 : decode cX6_ticksNow 14 = .ok (.aload_n 0, 1) := by decide +kernel
theorem dX6_ticksNow_15 : decode cX6_ticksNow 15 = .ok (.getfield 7, 3) := by decide +kernel
theorem dX6_ticksNow_18 : decode cX6_ticksNow 18 = .ok (.bipush 6, 2) := by decide +kernel
theorem dX6_ticksNow_20 : decode cX6_ticksNow 20 = .ok (.iaload, 1) := by decide +kernel
theorem dX6_ticksNow_21 : decode cX6_ticksNow 21 = .ok (.iload_n 1, 1) := by decide +kernel
theorem dX6_ticksNow_22 : decode cX6_ticksNow 22 = .ok (.iadd, 1) := by decide +kernel
theorem dX6_ticksNow_23 : decode cX6_ticksNow 23 = .ok (.ldc 135, 2) := by decide +kernel
theorem dX6_ticksNow_25 : decode cX6_ticksNow 25 = .ok (.if_icmp .le 6, 3) := by decide +kernel
theorem dX6_ticksNow_28 : decode cX6_ticksNow 28 = .ok (.ldc 124, 2) := by decide +kernel
theorem dX6_ticksNow_30 : decode cX6_ticksNow 30 = .ok (.ireturn, 1) := by decide +kernel
theorem dX6_ticksNow_31 : decode cX6_ticksNow 31 = .ok (.iconst 0, 1) := by decide +kernel
theorem dX6_ticksNow_32 : decode cX6_ticksNow 32 = .ok (.istore_n 2, 1) := by decide +kernel
theorem dX6_ticksNow_33 : decode cX6_ticksNow 33 = .ok (.iconst 0, 1) := by decide +kernel
theorem dX6_ticksNow_34 : decode cX6_ticksNow 34 = .ok (.istore_n 3, 1) := by decide +kernel
theorem dX6_ticksNow_35 : decode cX6_ticksNow 35 = .ok (.iload_n 3, 1) := by decide +kernel
theorem dX6_ticksNow_36 : decode cX6_ticksNow 36 = .ok (.iload_n 1, 1) := by decide +kernel
theorem dX6_ticksNow_37 : decode cX6_ticksNow 37 = .ok (.if_icmp .ge 16, 3) := by decide +kernel
theorem dX6_ticksNow_40 : decode cX6_ticksNow 40 = .ok (.iload_n 2, 1) := by decide +kernel
theorem dX6_ticksNow_41 : decode cX6_ticksNow 41 = .ok (.aload_n 0, 1) := by decide +kernel
theorem dX6_ticksNow_42 : decode cX6_ticksNow 42 = .ok (.invokevirtual 136, 3) := by decide +kernel
theorem dX6_ticksNow_45 : decode cX6_ticksNow 45 = .ok (.iadd, 1) := by decide +kernel
theorem dX6_ticksNow_46 : decode cX6_ticksNow 46 = .ok (.istore_n 2, 1) := by decide +kernel
theorem dX6_ticksNow_47 : decode cX6_ticksNow 47 = .ok (.iinc 3 1, 3) := by decide +kernel
theorem dX6_ticksNow_50 : decode cX6_ticksNow 50 = .ok (.goto (-15), 3) := by decide +kernel
theorem dX6_ticksNow_53 : decode cX6_ticksNow 53 = .ok (.iload_n 2, 1) := by decide +kernel
theorem dX6_ticksNow_54 : decode cX6_ticksNow 54 = .ok (.ireturn, 1) := by decide +kernel
theorem dX6_maySet_0 : decode cX6_maySet 0 = .ok (.iload_n 0, 1) := by decide +kernel
theorem dX6_maySet_1 : decode cX6_maySet 1 = .ok (.tableswitch 82 0 4 #[35, 46, 56, 66, 74], 35) := by decide +kernel
theorem dX6_maySet_36 : decode cX6_maySet 36 = .ok (.iload_n 1, 1) := by decide +kernel
theorem dX6_maySet_37 : decode cX6_maySet 37 = .ok (.sipush 500, 3) := by decide +kernel
theorem dX6_maySet_40 : decode cX6_maySet 40 = .ok (.sipush 5000, 3) := by decide +kernel
theorem dX6_maySet_43 : decode cX6_maySet 43 = .ok (.invokestatic 36, 3) := by decide +kernel
theorem dX6_maySet_46 : decode cX6_maySet 46 = .ok (.ireturn, 1) := by decide +kernel
theorem dX6_maySet_47 : decode cX6_maySet 47 = .ok (.iload_n 1, 1) := by decide +kernel
theorem dX6_maySet_48 : decode cX6_maySet 48 = .ok (.bipush 20, 2) := by decide +kernel
theorem dX6_maySet_50 : decode cX6_maySet 50 = .ok (.sipush 900, 3) := by decide +kernel
theorem dX6_maySet_53 : decode cX6_maySet 53 = .ok (.invokestatic 36, 3) := by decide +kernel
theorem dX6_maySet_56 : decode cX6_maySet 56 = .ok (.ireturn, 1) := by decide +kernel
theorem dX6_maySet_57 : decode cX6_maySet 57 = .ok (.iload_n 1, 1) := by decide +kernel
theorem dX6_maySet_58 : decode cX6_maySet 58 = .ok (.bipush 50, 2) := by decide +kernel
theorem dX6_maySet_60 : decode cX6_maySet 60 = .ok (.sipush 5000, 3) := by decide +kernel
theorem dX6_maySet_63 : decode cX6_maySet 63 = .ok (.invokestatic 36, 3) := by decide +kernel
theorem dX6_maySet_66 : decode cX6_maySet 66 = .ok (.ireturn, 1) := by decide +kernel
theorem dX6_maySet_67 : decode cX6_maySet 67 = .ok (.iload_n 1, 1) := by decide +kernel
theorem dX6_maySet_68 : decode cX6_maySet 68 = .ok (.iconst 1, 1) := by decide +kernel
theorem dX6_maySet_69 : decode cX6_maySet 69 = .ok (.bipush 30, 2) := by decide +kernel
theorem dX6_maySet_71 : decode cX6_maySet 71 = .ok (.invokestatic 36, 3) := by decide +kernel
theorem dX6_maySet_74 : decode cX6_maySet 74 = .ok (.ireturn, 1) := by decide +kernel
theorem dX6_maySet_75 : decode cX6_maySet 75 = .ok (.iload_n 1, 1) := by decide +kernel
theorem dX6_maySet_76 : decode cX6_maySet 76 = .ok (.iconst 0, 1) := by decide +kernel
theorem dX6_maySet_77 : decode cX6_maySet 77 = .ok (.bipush 12, 2) := by decide +kernel
theorem dX6_maySet_79 : decode cX6_maySet 79 = .ok (.invokestatic 36, 3) := by decide +kernel
theorem dX6_maySet_82 : decode cX6_maySet 82 = .ok (.ireturn, 1) := by decide +kernel
theorem dX6_maySet_83 : decode cX6_maySet 83 = .ok (.iload_n 0, 1) := by decide +kernel
theorem dX6_maySet_84 : decode cX6_maySet 84 = .ok (.iconst 5, 1) := by decide +kernel
theorem dX6_maySet_85 : decode cX6_maySet 85 = .ok (.if_icmp .ne 16, 3) := by decide +kernel
theorem dX6_maySet_88 : decode cX6_maySet 88 = .ok (.iload_n 1, 1) := by decide +kernel
theorem dX6_maySet_89 : decode cX6_maySet 89 = .ok (.iconst 0, 1) := by decide +kernel
theorem dX6_maySet_90 : decode cX6_maySet 90 = .ok (.iconst 1, 1) := by decide +kernel
theorem dX6_maySet_91 : decode cX6_maySet 91 = .ok (.invokestatic 36, 3) := by decide +kernel
theorem dX6_maySet_94 : decode cX6_maySet 94 = .ok (.ifCond .eq 7, 3) := by decide +kernel
theorem dX6_maySet_97 : decode cX6_maySet 97 = .ok (.iconst 1, 1) := by decide +kernel
theorem dX6_maySet_98 : decode cX6_maySet 98 = .ok (.goto 4, 3) := by decide +kernel
theorem dX6_maySet_101 : decode cX6_maySet 101 = .ok (.iconst 0, 1) := by decide +kernel
theorem dX6_maySet_102 : decode cX6_maySet 102 = .ok (.ireturn, 1) := by decide +kernel
theorem dX6_setNow_0 : decode cX6_setNow 0 = .ok (.iload_n 1, 1) := by decide +kernel
theorem dX6_setNow_1 : decode cX6_setNow 1 = .ok (.iload_n 2, 1) := by decide +kernel
theorem dX6_setNow_2 : decode cX6_setNow 2 = .ok (.invokestatic 139, 3) := by decide +kernel
theorem dX6_setNow_5 : decode cX6_setNow 5 = .ok (.ifCond .ne 6, 3) := by decide +kernel
theorem dX6_setNow_8 : decode cX6_setNow 8 = .ok (.ldc 35, 2) := by decide +kernel
theorem dX6_setNow_10 : decode cX6_setNow 10 = .ok (.ireturn, 1) := by decide +kernel
theorem dX6_setNow_11 : decode cX6_setNow 11 = .ok (.aload_n 0, 1) := by decide +kernel
theorem dX6_setNow_12 : decode cX6_setNow 12 = .ok (.getfield 7, 3) := by decide +kernel
theorem dX6_setNow_15 : decode cX6_setNow 15 = .ok (.iload_n 1, 1) := by decide +kernel
theorem dX6_setNow_16 : decode cX6_setNow 16 = .ok (.iaload, 1) := by decide +kernel
theorem dX6_setNow_17 : decode cX6_setNow 17 = .ok (.istore_n 3, 1) := by decide +kernel
theorem dX6_setNow_18 : decode cX6_setNow 18 = .ok (.aload_n 0, 1) := by decide +kernel
theorem dX6_setNow_19 : decode cX6_setNow 19 = .ok (.getfield 7, 3) := by decide +kernel
theorem dX6_setNow_22 : decode cX6_setNow 22 = .ok (.iload_n 1, 1) := by decide +kernel
theorem dX6_setNow_23 : decode cX6_setNow 23 = .ok (.iload_n 2, 1) := by decide +kernel
theorem dX6_setNow_24 : decode cX6_setNow 24 = .ok (.iastore, 1) := by decide +kernel
theorem dX6_setNow_25 : decode cX6_setNow 25 = .ok (.iload_n 3, 1) := by decide +kernel
theorem dX6_setNow_26 : decode cX6_setNow 26 = .ok (.ireturn, 1) := by decide +kernel
theorem dX6_clock_0 : decode cX6_clock 0 = .ok (.aload_n 0, 1) := by decide +kernel
theorem dX6_clock_1 : decode cX6_clock 1 = .ok (.invokevirtual 143, 3) := by decide +kernel
theorem dX6_clock_4 : decode cX6_clock 4 = .ok (.aload_n 0, 1) := by decide +kernel
theorem dX6_clock_5 : decode cX6_clock 5 = .ok (.aload_n 0, 1) := by decide +kernel
theorem dX6_clock_6 : decode cX6_clock 6 = .ok (.iload_n 1, 1) := by decide +kernel
theorem dX6_clock_7 : decode cX6_clock 7 = .ok (.iload_n 2, 1) := by decide +kernel
theorem dX6_clock_8 : decode cX6_clock 8 = .ok (.iload_n 3, 1) := by decide +kernel
theorem dX6_clock_9 : decode cX6_clock 9 = .ok (.invokevirtual 146, 3) := by decide +kernel
theorem dX6_clock_12 : decode cX6_clock 12 = .ok (.invokevirtual 150, 3) := by decide +kernel
theorem dX6_clock_15 : decode cX6_clock 15 = .ok (.ireturn, 1) := by decide +kernel
theorem dX6_lead_0 : decode cX6_lead 0 = .ok (.aload_n 0, 1) := by decide +kernel
theorem dX6_lead_1 : decode cX6_lead 1 = .ok (.invokevirtual 143, 3) := by decide +kernel
theorem dX6_lead_4 : decode cX6_lead 4 = .ok (.aload_n 0, 1) := by decide +kernel
theorem dX6_lead_5 : decode cX6_lead 5 = .ok (.aload_n 0, 1) := by decide +kernel
theorem dX6_lead_6 : decode cX6_lead 6 = .ok (.iload_n 1, 1) := by decide +kernel
