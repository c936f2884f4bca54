theorem dX0_init_0 : decode cX0_init 0 = .ok (.aload_n 0, 1) := by decide +kernel
theorem dX0_init_1 : decode cX0_init 1 = .ok (.invokespecial 3, 3) := by decide +kernel
theorem dX0_init_4 : decode cX0_init 4 = .ok (.aload_n 0, 1) := by decide +kernel
theorem dX0_init_5 : decode cX0_init 5 = .ok (.iconst 4, 1) := by decide +kernel
theorem dX0_init_6 : decode cX0_init 6 = .ok (.newarray .int, 2) := by decide +kernel
theorem dX0_init_8 : decode cX0_init 8 = .ok (.putfield 9, 3) := by decide +kernel
theorem dX0_init_11 : decode cX0_init 11 = .ok (.aload_n 0, 1) := by decide +kernel
theorem dX0_init_12 : decode cX0_init 12 = .ok (.bipush 20, 2) := by decide +kernel
theorem dX0_init_14 : decode cX0_init 14 = .ok (.newarray .int, 2) := by decide +kernel
theorem dX0_init_16 : decode cX0_init 16 = .ok (.putfield 15, 3) := by decide +kernel
theorem dX0_init_19 : decode cX0_init 19 = .ok (.return_, 1) := by decide +kernel
theorem dX0_copyFrom_0 : decode cX0_copyFrom 0 = .ok (.aload_n 1, 1) := by decide +kernel
theorem dX0_copyFrom_1 : decode cX0_copyFrom 1 = .ok (.getfield 9, 3) := by decide +kernel
theorem dX0_copyFrom_4 : decode cX0_copyFrom 4 = .ok (.aload_n 0, 1) := by decide +kernel
theorem dX0_copyFrom_5 : decode cX0_copyFrom 5 = .ok (.getfield 9, 3) := by decide +kernel
theorem dX0_copyFrom_8 : decode cX0_copyFrom 8 = .ok (.invokestatic 18, 3) := by decide +kernel
theorem dX0_copyFrom_11 : decode cX0_copyFrom 11 = .ok (.aload_n 1, 1) := by decide +kernel
theorem dX0_copyFrom_12 : decode cX0_copyFrom 12 = .ok (.getfield 15, 3) := by decide +kernel
theorem dX0_copyFrom_15 : decode cX0_copyFrom 15 = .ok (.aload_n 0, 1) := by decide +kernel
theorem dX0_copyFrom_16 : decode cX0_copyFrom 16 = .ok (.getfield 15, 3) := by decide +kernel
theorem dX0_copyFrom_19 : decode cX0_copyFrom 19 = .ok (.invokestatic 18, 3) := by decide +kernel
theorem dX0_copyFrom_22 : decode cX0_copyFrom 22 = .ok (.aload_n 0, 1) := by decide +kernel
theorem dX0_copyFrom_23 : decode cX0_copyFrom 23 = .ok (.aload_n 1, 1) := by decide +kernel
theorem dX0_copyFrom_24 : decode cX0_copyFrom 24 = .ok (.getfield 22, 3) := by decide +kernel
theorem dX0_copyFrom_27 : decode cX0_copyFrom 27 = .ok (.putfield 22, 3) := by decide +kernel
theorem dX0_copyFrom_30 : decode cX0_copyFrom 30 = .ok (.aload_n 0, 1) := by decide +kernel
theorem dX0_copyFrom_31 : decode cX0_copyFrom 31 = .ok (.aload_n 1, 1) := by decide +kernel
theorem dX0_copyFrom_32 : decode cX0_copyFrom 32 = .ok (.getfield 26, 3) := by decide +kernel
theorem dX0_copyFrom_35 : decode cX0_copyFrom 35 = .ok (.putfield 26, 3) := by decide +kernel
theorem dX0_copyFrom_38 : decode cX0_copyFrom 38 = .ok (.return_, 1) := by decide +kernel
theorem dX0_open_0 : decode cX0_open 0 = .ok (.aload_n 0, 1) := by decide +kernel
theorem dX0_open_1 : decode cX0_open 1 = .ok (.dup, 1) := by decide +kernel
theorem dX0_open_2 : decode cX0_open 2 = .ok (.getfield 22, 3) := by decide +kernel
theorem dX0_open_5 : decode cX0_open 5 = .ok (.iconst 1, 1) := by decide +kernel
theorem dX0_open_6 : decode cX0_open 6 = .ok (.iadd, 1) := by decide +kernel
theorem dX0_open_7 : decode cX0_open 7 = .ok (.putfield 22, 3) := by decide +kernel
theorem dX0_open_10 : decode cX0_open 10 = .ok (.aload_n 0, 1) := by decide +kernel
theorem dX0_open_11 : decode cX0_open 11 = .ok (.getfield 9, 3) := by decide +kernel
theorem dX0_open_14 : decode cX0_open 14 = .ok (.aload_n 0, 1) := by decide +kernel
theorem dX0_open_15 : decode cX0_open 15 = .ok (.iconst 0, 1) := by decide +kernel
theorem dX0_open_16 : decode cX0_open 16 = .ok (.invokevirtual 29, 3) := by decide +kernel
theorem dX0_open_19 : decode cX0_open 19 = .ok (.iload_n 1, 1) := by decide +kernel
theorem dX0_open_20 : decode cX0_open 20 = .ok (.invokestatic 33, 3) := by decide +kernel
theorem dX0_open_23 : decode cX0_open 23 = .ok (.return_, 1) := by decide +kernel
theorem dX0_write_0 : decode cX0_write 0 = .ok (.aload_n 0, 1) := by decide +kernel
theorem dX0_write_1 : decode cX0_write 1 = .ok (.getfield 15, 3) := by decide +kernel
theorem dX0_write_4 : decode cX0_write 4 = .ok (.aload_n 0, 1) := by decide +kernel
theorem dX0_write_5 : decode cX0_write 5 = .ok (.iconst 0, 1) := by decide +kernel
theorem dX0_write_6 : decode cX0_write 6 = .ok (.invokevirtual 29, 3) := by decide +kernel
theorem dX0_write_9 : decode cX0_write 9 = .ok (.iconst 5, 1) := by decide +kernel
theorem dX0_write_10 : decode cX0_write 10 = .ok (.imul, 1) := by decide +kernel
theorem dX0_write_11 : decode cX0_write 11 = .ok (.iload_n 1, 1) := by decide +kernel
theorem dX0_write_12 : decode cX0_write 12 = .ok (.iadd, 1) := by decide +kernel
theorem dX0_write_13 : decode cX0_write 13 = .ok (.iload_n 2, 1) := by decide +kernel
theorem dX0_write_14 : decode cX0_write 14 = .ok (.invokestatic 33, 3) := by decide +kernel
theorem dX0_write_17 : decode cX0_write 17 = .ok (.return_, 1) := by decide +kernel
theorem dX0_size_0 : decode cX0_size 0 = .ok (.aload_n 0, 1) := by decide +kernel
theorem dX0_size_1 : decode cX0_size 1 = .ok (.getfield 22, 3) := by decide +kernel
theorem dX0_size_4 : decode cX0_size 4 = .ok (.iconst 4, 1) := by decide +kernel
theorem dX0_size_5 : decode cX0_size 5 = .ok (.invokestatic 37, 3) := by decide +kernel
theorem dX0_size_8 : decode cX0_size 8 = .ok (.ireturn, 1) := by decide +kernel
theorem dX0_has_0 : decode cX0_has 0 = .ok (.iload_n 1, 1) := by decide +kernel
theorem dX0_has_1 : decode cX0_has 1 = .ok (.aload_n 0, 1) := by decide +kernel
theorem dX0_has_2 : decode cX0_has 2 = .ok (.invokevirtual 43, 3) := by decide +kernel
theorem dX0_has_5 : decode cX0_has 5 = .ok (.if_icmp .ge 23, 3) := by decide +kernel
theorem dX0_has_8 : decode cX0_has 8 = .ok (.iload_n 2, 1) := by decide +kernel
theorem dX0_has_9 : decode cX0_has 9 = .ok (.aload_n 0, 1) := by decide +kernel
theorem dX0_has_10 : decode cX0_has 10 = .ok (.getfield 9, 3) := by decide +kernel
theorem dX0_has_13 : decode cX0_has 13 = .ok (.aload_n 0, 1) := by decide +kernel
theorem dX0_has_14 : decode cX0_has 14 = .ok (.iload_n 1, 1) := by decide +kernel
theorem dX0_has_15 : decode cX0_has 15 = .ok (.invokevirtual 29, 3) := by decide +kernel
theorem dX0_has_18 : decode cX0_has 18 = .ok (.invokestatic 47, 3) := by decide +kernel
theorem dX0_has_21 : decode cX0_has 21 = .ok (.if_icmp .ge 7, 3) := by decide +kernel
theorem dX0_has_24 : decode cX0_has 24 = .ok (.iconst 1, 1) := by decide +kernel
theorem dX0_has_25 : decode cX0_has 25 = .ok (.goto 4, 3) := by decide +kernel
theorem dX0_has_28 : decode cX0_has 28 = .ok (.iconst 0, 1) := by decide +kernel
theorem dX0_has_29 : decode cX0_has 29 = .ok (.ireturn, 1) := by decide +kernel
theorem dX0_errorAt_0 : decode cX0_errorAt 0 = .ok (.aload_n 0, 1) := by decide +kernel
theorem dX0_errorAt_1 : decode cX0_errorAt 1 = .ok (.getfield 15, 3) := by decide +kernel
theorem dX0_errorAt_4 : decode cX0_errorAt 4 = .ok (.aload_n 0, 1) := by decide +kernel
theorem dX0_errorAt_5 : decode cX0_errorAt 5 = .ok (.iload_n 1, 1) := by decide +kernel
theorem dX0_errorAt_6 : decode cX0_errorAt 6 = .ok (.invokevirtual 29, 3) := by decide +kernel
theorem dX0_errorAt_9 : decode cX0_errorAt 9 = .ok (.iconst 5, 1) := by decide +kernel
theorem dX0_errorAt_10 : decode cX0_errorAt 10 = .ok (.imul, 1) := by decide +kernel
theorem dX0_errorAt_11 : decode cX0_errorAt 11 = .ok (.iload_n 2, 1) := by decide +kernel
theorem dX0_errorAt_12 : decode cX0_errorAt 12 = .ok (.iadd, 1) := by decide +kernel
theorem dX0_errorAt_13 : decode cX0_errorAt 13 = .ok (.invokestatic 47, 3) := by decide +kernel
theorem dX0_errorAt_16 : decode cX0_errorAt 16 = .ok (.ireturn, 1) := by decide +kernel
theorem dX0_place_0 : decode cX0_place 0 = .ok (.aload_n 0, 1) := by decide +kernel
theorem dX0_place_1 : decode cX0_place 1 = .ok (.getfield 22, 3) := by decide +kernel
theorem dX0_place_4 : decode cX0_place 4 = .ok (.iconst 1, 1) := by decide +kernel
theorem dX0_place_5 : decode cX0_place 5 = .ok (.isub, 1) := by decide +kernel
theorem dX0_place_6 : decode cX0_place 6 = .ok (.iload_n 1, 1) := by decide +kernel
theorem dX0_place_7 : decode cX0_place 7 = .ok (.isub, 1) := by decide +kernel
theorem dX0_place_8 : decode cX0_place 8 = .ok (.iconst 4, 1) := by decide +kernel
theorem dX0_place_9 : decode cX0_place 9 = .ok (.invokestatic 51, 3) := by decide +kernel
theorem dX0_place_12 : decode cX0_place 12 = .ok (.ireturn, 1) := by decide +kernel
theorem dX1_init_0 : decode cX1_init 0 = .ok (.aload_n 0, 1) := by decide +kernel
theorem dX1_init_1 : decode cX1_init 1 = .ok (.invokespecial 3, 3) := by decide +kernel
theorem dX1_init_4 : decode cX1_init 4 = .ok (.aload_n 0, 1) := by decide +kernel
theorem dX1_init_5 : decode cX1_init 5 = .ok (.iload_n 1, 1) := by decide +kernel
theorem dX1_init_6 : decode cX1_init 6 = .ok (.putfield 9, 3) := by decide +kernel
theorem dX1_init_9 : decode cX1_init 9 = .ok (.return_, 1) := by decide +kernel
theorem dX1_copyFrom_0 : decode cX1_copyFrom 0 = .ok (.aload_n 0, 1) := by decide +kernel
theorem dX1_copyFrom_1 : decode cX1_copyFrom 1 = .ok (.aload_n 1, 1) := by decide +kernel
theorem dX1_copyFrom_2 : decode cX1_copyFrom 2 = .ok (.getfield 15, 3) := by decide +kernel
theorem dX1_copyFrom_5 : decode cX1_copyFrom 5 = .ok (.putfield 15, 3) := by decide +kernel
theorem dX1_copyFrom_8 : decode cX1_copyFrom 8 = .ok (.aload_n 0, 1) := by decide +kernel
theorem dX1_copyFrom_9 : decode cX1_copyFrom 9 = .ok (.aload_n 1, 1) := by decide +kernel
theorem dX1_copyFrom_10 : decode cX1_copyFrom 10 = .ok (.getfield 18, 3) := by decide +kernel
theorem dX1_copyFrom_13 : decode cX1_copyFrom 13 = .ok (.putfield 18, 3) := by decide +kernel
theorem dX1_copyFrom_16 : decode cX1_copyFrom 16 = .ok (.aload_n 0, 1) := by decide +kernel
theorem dX1_copyFrom_17 : decode cX1_copyFrom 17 = .ok (.aload_n 1, 1) := by decide +kernel
theorem dX1_copyFrom_18 : decode cX1_copyFrom 18 = .ok (.getfield 21, 3) := by decide +kernel
theorem dX1_copyFrom_21 : decode cX1_copyFrom 21 = .ok (.putfield 21, 3) := by decide +kernel
theorem dX1_copyFrom_24 : decode cX1_copyFrom 24 = .ok (.aload_n 0, 1) := by decide +kernel
theorem dX1_copyFrom_25 : decode cX1_copyFrom 25 = .ok (.aload_n 1, 1) := by decide +kernel
theorem dX1_copyFrom_26 : decode cX1_copyFrom 26 = .ok (.getfield 24, 3) := by decide +kernel
theorem dX1_copyFrom_29 : decode cX1_copyFrom 29 = .ok (.putfield 24, 3) := by decide +kernel
theorem dX1_copyFrom_32 : decode cX1_copyFrom 32 = .ok (.aload_n 0, 1) := by decide +kernel
theorem dX1_copyFrom_33 : decode cX1_copyFrom 33 = .ok (.aload_n 1, 1) := by decide +kernel
theorem dX1_copyFrom_34 : decode cX1_copyFrom 34 = .ok (.getfield 27, 3) := by decide +kernel
theorem dX1_copyFrom_37 : decode cX1_copyFrom 37 = .ok (.putfield 27, 3) := by decide +kernel
theorem dX1_copyFrom_40 : decode cX1_copyFrom 40 = .ok (.aload_n 0, 1) := by decide +kernel
theorem dX1_copyFrom_41 : decode cX1_copyFrom 41 = .ok (.aload_n 1, 1) := by decide +kernel
theorem dX1_copyFrom_42 : decode cX1_copyFrom 42 = .ok (.getfield 30, 3) := by decide +kernel
theorem dX1_copyFrom_45 : decode cX1_copyFrom 45 = .ok (.putfield 30, 3) := by decide +kernel
theorem dX1_copyFrom_48 : decode cX1_copyFrom 48 = .ok (.aload_n 0, 1) := by decide +kernel
theorem dX1_copyFrom_49 : decode cX1_copyFrom 49 = .ok (.aload_n 1, 1) := by decide +kernel
theorem dX1_copyFrom_50 : decode cX1_copyFrom 50 = .ok (.getfield 33, 3) := by decide +kernel
theorem dX1_copyFrom_53 : decode cX1_copyFrom 53 = .ok (.putfield 33, 3) := by decide +kernel
theorem dX1_copyFrom_56 : decode cX1_copyFrom 56 = .ok (.aload_n 0, 1) := by decide +kernel
theorem dX1_copyFrom_57 : decode cX1_copyFrom 57 = .ok (.aload_n 1, 1) := by decide +kernel
theorem dX1_copyFrom_58 : decode cX1_copyFrom 58 = .ok (.getfield 36, 3) := by decide +kernel
theorem dX1_copyFrom_61 : decode cX1_copyFrom 61 = .ok (.putfield 36, 3) := by decide +kernel
theorem dX1_copyFrom_64 : decode cX1_copyFrom 64 = .ok (.aload_n 0, 1) := by decide +kernel
theorem dX1_copyFrom_65 : decode cX1_copyFrom 65 = .ok (.aload_n 1, 1) := by decide +kernel
theorem dX1_copyFrom_66 : decode cX1_copyFrom 66 = .ok (.getfield 39, 3) := by decide +kernel
theorem dX1_copyFrom_69 : decode cX1_copyFrom 69 = .ok (.putfield 39, 3) := by decide +kernel
theorem dX1_copyFrom_72 : decode cX1_copyFrom 72 = .ok (.aload_n 0, 1) := by decide +kernel
theorem dX1_copyFrom_73 : decode cX1_copyFrom 73 = .ok (.aload_n 1, 1) := by decide +kernel
theorem dX1_copyFrom_74 : decode cX1_copyFrom 74 = .ok (.getfield 42, 3) := by decide +kernel
theorem dX1_copyFrom_77 : decode cX1_copyFrom 77 = .ok (.putfield 42, 3) := by decide +kernel
theorem dX1_copyFrom_80 : decode cX1_copyFrom 80 = .ok (.aload_n 0, 1) := by decide +kernel
theorem dX1_copyFrom_81 : decode cX1_copyFrom 81 = .ok (.aload_n 1, 1) := by decide +kernel
theorem dX1_copyFrom_82 : decode cX1_copyFrom 82 = .ok (.getfield 45, 3) := by decide +kernel
theorem dX1_copyFrom_85 : decode cX1_copyFrom 85 = .ok (.putfield 45, 3) := by decide +kernel
theorem dX1_copyFrom_88 : decode cX1_copyFrom 88 = .ok (.aload_n 0, 1) := by decide +kernel
theorem dX1_copyFrom_89 : decode cX1_copyFrom 89 = .ok (.aload_n 1, 1) := by decide +kernel
theorem dX1_copyFrom_90 : decode cX1_copyFrom 90 = .ok (.getfield 48, 3) := by decide +kernel
theorem dX1_copyFrom_93 : decode cX1_copyFrom 93 = .ok (.putfield 48, 3) := by decide +kernel
theorem dX1_copyFrom_96 : decode cX1_copyFrom 96 = .ok (.aload_n 0, 1) := by decide +kernel
theorem dX1_copyFrom_97 : decode cX1_copyFrom 97 = .ok (.aload_n 1, 1) := by decide +kernel
theorem dX1_copyFrom_98 : decode cX1_copyFrom 98 = .ok (.getfield 51, 3) := by decide +kernel
theorem dX1_copyFrom_101 : decode cX1_copyFrom 101 = .ok (.putfield 51, 3) := by decide +kernel
theorem dX1_copyFrom_104 : decode cX1_copyFrom 104 = .ok (.aload_n 0, 1) := by decide +kernel
theorem dX1_copyFrom_105 : decode cX1_copyFrom 105 = .ok (.aload_n 1, 1) := by decide +kernel
theorem dX1_copyFrom_106 : decode cX1_copyFrom 106 = .ok (.getfield 54, 3) := by decide +kernel
theorem dX1_copyFrom_109 : decode cX1_copyFrom 109 = .ok (.putfield 54, 3) := by decide +kernel
theorem dX1_copyFrom_112 : decode cX1_copyFrom 112 = .ok (.aload_n 0, 1) := by decide +kernel
theorem dX1_copyFrom_113 : decode cX1_copyFrom 113 = .ok (.aload_n 1, 1) := by decide +kernel
theorem dX1_copyFrom_114 : decode cX1_copyFrom 114 = .ok (.getfield 57, 3) := by decide +kernel
theorem dX1_copyFrom_117 : decode cX1_copyFrom 117 = .ok (.putfield 57, 3) := by decide +kernel
theorem dX1_copyFrom_120 : decode cX1_copyFrom 120 = .ok (.return_, 1) := by decide +kernel
theorem dX1_begin_0 : decode cX1_begin 0 = .ok (.aload_n 0, 1) := by decide +kernel
theorem dX1_begin_1 : decode cX1_begin 1 = .ok (.iload_n 1, 1) := by decide +kernel
theorem dX1_begin_2 : decode cX1_begin 2 = .ok (.putfield 15, 3) := by decide +kernel
theorem dX1_begin_5 : decode cX1_begin 5 = .ok (.aload_n 0, 1) := by decide +kernel
theorem dX1_begin_6 : decode cX1_begin 6 = .ok (.iload_n 2, 1) := by decide +kernel
theorem dX1_begin_7 : decode cX1_begin 7 = .ok (.putfield 18, 3) := by decide +kernel
theorem dX1_begin_10 : decode cX1_begin 10 = .ok (.aload_n 0, 1) := by decide +kernel
theorem dX1_begin_11 : decode cX1_begin 11 = .ok (.iload_n 3, 1) := by decide +kernel
theorem dX1_begin_12 : decode cX1_begin 12 = .ok (.putfield 21, 3) := by decide +kernel
theorem dX1_begin_15 : decode cX1_begin 15 = .ok (.aload_n 0, 1) := by decide +kernel
theorem dX1_begin_16 : decode cX1_begin 16 = .ok (.aload_n 0, 1) := by decide +kernel
theorem dX1_begin_17 : decode cX1_begin 17 = .ok (.getfield 9, 3) := by decide +kernel
theorem dX1_begin_20 : decode cX1_begin 20 = .ok (.putfield 24, 3) := by decide +kernel
theorem dX1_begin_23 : decode cX1_begin 23 = .ok (.aload_n 0, 1) := by decide +kernel
theorem dX1_begin_24 : decode cX1_begin 24 = .ok (.iload 4, 2) := by decide +kernel
theorem dX1_begin_26 : decode cX1_begin 26 = .ok (.putfield 54, 3) := by decide +kernel
theorem dX1_begin_29 : decode cX1_begin 29 = .ok (.return_, 1) := by decide +kernel
theorem dX1_has_0 : decode cX1_has 0 = .ok (.iload_n 1, 1) := by decide +kernel
theorem dX1_has_1 : decode cX1_has 1 = .ok (.lookupswitch 79 #[(2, 35), (7, 48), (8, 62)], 35) := by decide +kernel
theorem dX1_has_36 : decode cX1_has 36 = .ok (.aload_n 0, 1) := by decide +kernel
theorem dX1_has_37 : decode cX1_has 37 = .ok (.getfield 15, 3) := by decide +kernel
theorem dX1_has_40 : decode cX1_has 40 = .ok (.ifCond .eq 7, 3) := by decide +kernel
theorem dX1_has_43 : decode cX1_has 43 = .ok (.iconst 1, 1) := by decide +kernel
theorem dX1_has_44 : decode cX1_has 44 = .ok (.goto 4, 3) := by decide +kernel
theorem dX1_has_47 : decode cX1_has 47 = .ok (.iconst 0, 1) := by decide +kernel
theorem dX1_has_48 : decode cX1_has 48 = .ok (.ireturn, 1) := by decide +kernel
theorem dX1_has_49 : decode cX1_has 49 = .ok (.aload_n 0, 1) := by decide +kernel
theorem dX1_has_50 : decode cX1_has 50 = .ok (.getfield 15, 3) := by decide +kernel
theorem dX1_has_53 : decode cX1_has 53 = .ok (.iconst 2, 1) := by decide +kernel
theorem dX1_has_54 : decode cX1_has 54 = .ok (.if_icmp .ne 7, 3) := by decide +kernel
theorem dX1_has_57 : decode cX1_has 57 = .ok (.iconst 1, 1) := by decide +kernel
theorem dX1_has_58 : decode cX1_has 58 = .ok (.goto 4, 3) := by decide +kernel
theorem dX1_has_61 : decode cX1_has 61 = .ok (.iconst 0, 1) := by decide +kernel
theorem dX1_has_62 : decode cX1_has 62 = .ok (.ireturn, 1) := by decide +kernel
theorem dX1_has_63 : decode cX1_has 63 = .ok (.aload_n 0, 1) := by decide +kernel
theorem dX1_has_64 : decode cX1_has 64 = .ok (.getfield 24, 3) := by decide +kernel
theorem dX1_has_67 : decode cX1_has 67 = .ok (.aload_n 0, 1) := by decide +kernel
theorem dX1_has_68 : decode cX1_has 68 = .ok (.getfield 9, 3) := by decide +kernel
theorem dX1_has_71 : decode cX1_has 71 = .ok (.if_icmp .eq 7, 3) := by decide +kernel
theorem dX1_has_74 : decode cX1_has 74 = .ok (.iconst 1, 1) := by decide +kernel
theorem dX1_has_75 : decode cX1_has 75 = .ok (.goto 4, 3) := by decide +kernel
theorem dX1_has_78 : decode cX1_has 78 = .ok (.iconst 0, 1) := by decide +kernel
theorem dX1_has_79 : decode cX1_has 79 = .ok (.ireturn, 1) := by decide +kernel
theorem dX1_has_80 : decode cX1_has 80 = .ok (.iload_n 1, 1) := by decide +kernel
theorem dX1_has_81 : decode cX1_has 81 = .ok (.ifCond .lt 13, 3) := by decide +kernel
theorem dX1_has_84 : decode cX1_has 84 = .ok (.iload_n 1, 1) := by decide +kernel
theorem dX1_has_85 : decode cX1_has 85 = .ok (.bipush 11, 2) := by decide +kernel
theorem dX1_has_87 : decode cX1_has 87 = .ok (.if_icmp .gt 7, 3) := by decide +kernel
theorem dX1_has_90 : decode cX1_has 90 = .ok (.iconst 1, 1) := by decide +kernel
theorem dX1_has_91 : decode cX1_has 91 = .ok (.goto 4, 3) := by decide +kernel
theorem dX1_has_94 : decode cX1_has 94 = .ok (.iconst 0, 1) := by decide +kernel
theorem dX1_has_95 : decode cX1_has 95 = .ok (.ireturn, 1) := by decide +kernel
theorem dX1_figure_0 : decode cX1_figure 0 = .ok (.iload_n 1, 1) := by decide +kernel
theorem dX1_figure_1 : decode cX1_figure 1 = .ok (.tableswitch 114 0 10 #[59, 64, 69, 74, 79, 84, 89, 94, 99, 104, 109], 59) := by decide +kernel
theorem dX1_figure_60 : decode cX1_figure 60 = .ok (.aload_n 0, 1) := by decide +kernel
theorem dX1_figure_61 : decode cX1_figure 61 = .ok (.getfield 15, 3) := by decide +kernel
theorem dX1_figure_64 : decode cX1_figure 64 = .ok (.ireturn, 1) := by decide +kernel
theorem dX1_figure_65 : decode cX1_figure 65 = .ok (.aload_n 0, 1) := by decide +kernel
theorem dX1_figure_66 : decode cX1_figure 66 = .ok (.getfield 27, 3) := by decide +kernel
theorem dX1_figure_69 : decode cX1_figure 69 = .ok (.ireturn, 1) := by decide +kernel
theorem dX1_figure_70 : decode cX1_figure 70 = .ok (.aload_n 0, 1) := by decide +kernel
theorem dX1_figure_71 : decode cX1_figure 71 = .ok (.getfield 30, 3) := by decide +kernel
theorem dX1_figure_74 : decode cX1_figure 74 = .ok (.ireturn, 1) := by decide +kernel
theorem dX1_figure_75 : decode cX1_figure 75 = .ok (.aload_n 0, 1) := by decide +kernel
theorem dX1_figure_76 : decode cX1_figure 76 = .ok (.getfield 18, 3) := by decide +kernel
theorem dX1_figure_79 : decode cX1_figure 79 = .ok (.ireturn, 1) := by decide +kernel
theorem dX1_figure_80 : decode cX1_figure 80 = .ok (.aload_n 0, 1) := by decide +kernel
theorem dX1_figure_81 : decode cX1_figure 81 = .ok (.getfield 21, 3) := by decide +kernel
theorem dX1_figure_84 : decode cX1_figure 84 = .ok (.ireturn, 1) := by decide +kernel
theorem dX1_figure_85 : decode cX1_figure 85 = .ok (.aload_n 0, 1) := by decide +kernel
theorem dX1_figure_86 : decode cX1_figure 86 = .ok (.getfield 33, 3) := by decide +kernel
theorem dX1_figure_89 : decode cX1_figure 89 = .ok (.ireturn, 1) := by decide +kernel
theorem dX1_figure_90 : decode cX1_figure 90 = .ok (.aload_n 0, 1) := by decide +kernel
theorem dX1_figure_91 : decode cX1_figure 91 = .ok (.invokevirtual 60, 3) := by decide +kernel
theorem dX1_figure_94 : decode cX1_figure 94 = .ok (.ireturn, 1) := by decide +kernel
theorem dX1_figure_95 : decode cX1_figure 95 = .ok (.aload_n 0, 1) := by decide +kernel
theorem dX1_figure_96 : decode cX1_figure 96 = .ok (.getfield 42, 3) := by decide +kernel
theorem dX1_figure_99 : decode cX1_figure 99 = .ok (.ireturn, 1) := by decide +kernel
theorem dX1_figure_100 : decode cX1_figure 100 = .ok (.aload_n 0, 1) := by decide +kernel
theorem dX1_figure_101 : decode cX1_figure 101 = .ok (.getfield 24, 3) := by decide +kernel
theorem dX1_figure_104 : decode cX1_figure 104 = .ok (.ireturn, 1) := by decide +kernel
theorem dX1_figure_105 : decode cX1_figure 105 = .ok (.aload_n 0, 1) := by decide +kernel
theorem dX1_figure_106 : decode cX1_figure 106 = .ok (.getfield 48, 3) := by decide +kernel
theorem dX1_figure_109 : decode cX1_figure 109 = .ok (.ireturn, 1) := by decide +kernel
theorem dX1_figure_110 : decode cX1_figure 110 = .ok (.aload_n 0, 1) := by decide +kernel
theorem dX1_figure_111 : decode cX1_figure 111 = .ok (.getfield 51, 3) := by decide +kernel
theorem dX1_figure_114 : decode cX1_figure 114 = .ok (.ireturn, 1) := by decide +kernel
theorem dX1_figure_115 : decode cX1_figure 115 = .ok (.aload_n 0, 1) := by decide +kernel
theorem dX1_figure_116 : decode cX1_figure 116 = .ok (.getfield 39, 3) := by decide +kernel
theorem dX1_figure_119 : decode cX1_figure 119 = .ok (.ireturn, 1) := by decide +kernel
theorem dX1_dropsCounted_0 : decode cX1_dropsCounted 0 = .ok (.aload_n 0, 1) := by decide +kernel
theorem dX1_dropsCounted_1 : decode cX1_dropsCounted 1 = .ok (.getfield 15, 3) := by decide +kernel
theorem dX1_dropsCounted_4 : decode cX1_dropsCounted 4 = .ok (.ifCond .ne 9, 3) := by decide +kernel
theorem dX1_dropsCounted_7 : decode cX1_dropsCounted 7 = .ok (.aload_n 0, 1) := by decide +kernel
theorem dX1_dropsCounted_8 : decode cX1_dropsCounted 8 = .ok (.getfield 27, 3) := by decide +kernel
theorem dX1_dropsCounted_11 : decode cX1_dropsCounted 11 = .ok (.ineg, 1) := by decide +kernel
theorem dX1_dropsCounted_12 : decode cX1_dropsCounted 12 = .ok (.ireturn, 1) := by decide +kernel
theorem dX1_dropsCounted_13 : decode cX1_dropsCounted 13 = .ok (.aload_n 0, 1) := by decide +kernel
theorem dX1_dropsCounted_14 : decode cX1_dropsCounted 14 = .ok (.getfield 15, 3) := by decide +kernel
theorem dX1_dropsCounted_17 : decode cX1_dropsCounted 17 = .ok (.iconst 1, 1) := by decide +kernel
theorem dX1_dropsCounted_18 : decode cX1_dropsCounted 18 = .ok (.if_icmp .ne 10, 3) := by decide +kernel
theorem dX1_dropsCounted_21 : decode cX1_dropsCounted 21 = .ok (.aload_n 0, 1) := by decide +kernel
theorem dX1_dropsCounted_22 : decode cX1_dropsCounted 22 = .ok (.getfield 30, 3) := by decide +kernel
theorem dX1_dropsCounted_25 : decode cX1_dropsCounted 25 = .ok (.goto 12, 3) := by decide +kernel
theorem dX1_dropsCounted_28 : decode cX1_dropsCounted 28 = .ok (.aload_n 0, 1) := by decide +kernel
theorem dX1_dropsCounted_29 : decode cX1_dropsCounted 29 = .ok (.getfield 45, 3) := by decide +kernel
theorem dX1_dropsCounted_32 : decode cX1_dropsCounted 32 = .ok (.aload_n 0, 1) := by decide +kernel
theorem dX1_dropsCounted_33 : decode cX1_dropsCounted 33 = .ok (.getfield 30, 3) := by decide +kernel
theorem dX1_dropsCounted_36 : decode cX1_dropsCounted 36 = .ok (.iadd, 1) := by decide +kernel
theorem dX1_dropsCounted_37 : decode cX1_dropsCounted 37 = .ok (.ireturn, 1) := by decide +kernel
theorem dX1_hourTold_0 : decode cX1_hourTold 0 = .ok (.aload_n 0, 1) := by decide +kernel
theorem dX1_hourTold_1 : decode cX1_hourTold 1 = .ok (.getfield 54, 3) := by decide +kernel
theorem dX1_hourTold_4 : decode cX1_hourTold 4 = .ok (.aload_n 0, 1) := by decide +kernel
theorem dX1_hourTold_5 : decode cX1_hourTold 5 = .ok (.invokevirtual 64, 3) := by decide +kernel
theorem dX1_hourTold_8 : decode cX1_hourTold 8 = .ok (.aload_n 0, 1) := by decide +kernel
theorem dX1_hourTold_9 : decode cX1_hourTold 9 = .ok (.getfield 57, 3) := by decide +kernel
theorem dX1_hourTold_12 : decode cX1_hourTold 12 = .ok (.isub, 1) := by decide +kernel
theorem dX1_hourTold_13 : decode cX1_hourTold 13 = .ok (.aload_n 0, 1) := by decide +kernel
theorem dX1_hourTold_14 : decode cX1_hourTold 14 = .ok (.getfield 21, 3) := by decide +kernel
theorem dX1_hourTold_17 : decode cX1_hourTold 17 = .ok (.invokestatic 67, 3) := by decide +kernel
theorem dX1_hourTold_20 : decode cX1_hourTold 20 = .ok (.iadd, 1) := by decide +kernel
theorem dX1_hourTold_21 : decode cX1_hourTold 21 = .ok (.ireturn, 1) := by decide +kernel
theorem dX1_trueTo_0 : decode cX1_trueTo 0 = .ok (.aload_n 0, 1) := by decide +kernel
theorem dX1_trueTo_1 : decode cX1_trueTo 1 = .ok (.iload_n 1, 1) := by decide +kernel
theorem dX1_trueTo_2 : decode cX1_trueTo 2 = .ok (.putfield 54, 3) := by decide +kernel
theorem dX1_trueTo_5 : decode cX1_trueTo 5 = .ok (.aload_n 0, 1) := by decide +kernel
theorem dX1_trueTo_6 : decode cX1_trueTo 6 = .ok (.aload_n 0, 1) := by decide +kernel
theorem dX1_trueTo_7 : decode cX1_trueTo 7 = .ok (.invokevirtual 64, 3) := by decide +kernel
theorem dX1_trueTo_10 : decode cX1_trueTo 10 = .ok (.putfield 57, 3) := by decide +kernel
theorem dX1_trueTo_13 : decode cX1_trueTo 13 = .ok (.aload_n 0, 1) := by decide +kernel
theorem dX1_trueTo_14 : decode cX1_trueTo 14 = .ok (.dup, 1) := by decide +kernel
theorem dX1_trueTo_15 : decode cX1_trueTo 15 = .ok (.getfield 51, 3) := by decide +kernel
theorem dX1_trueTo_18 : decode cX1_trueTo 18 = .ok (.iconst 1, 1) := by decide +kernel
theorem dX1_trueTo_19 : decode cX1_trueTo 19 = .ok (.iadd, 1) := by decide +kernel
theorem dX1_trueTo_20 : decode cX1_trueTo 20 = .ok (.putfield 51, 3) := by decide +kernel
theorem dX1_trueTo_23 : decode cX1_trueTo 23 = .ok (.return_, 1) := by decide +kernel
theorem dX1_nextDrip_0 : decode cX1_nextDrip 0 = .ok (.aload_n 0, 1) := by decide +kernel
theorem dX1_nextDrip_1 : decode cX1_nextDrip 1 = .ok (.getfield 27, 3) := by decide +kernel
theorem dX1_nextDrip_4 : decode cX1_nextDrip 4 = .ok (.aload_n 0, 1) := by decide +kernel
theorem dX1_nextDrip_5 : decode cX1_nextDrip 5 = .ok (.getfield 18, 3) := by decide +kernel
theorem dX1_nextDrip_8 : decode cX1_nextDrip 8 = .ok (.aload_n 0, 1) := by decide +kernel
theorem dX1_nextDrip_9 : decode cX1_nextDrip 9 = .ok (.getfield 18, 3) := by decide +kernel
theorem dX1_nextDrip_12 : decode cX1_nextDrip 12 = .ok (.aload_n 0, 1) := by decide +kernel
theorem dX1_nextDrip_13 : decode cX1_nextDrip 13 = .ok (.getfield 27, 3) := by decide +kernel
theorem dX1_nextDrip_16 : decode cX1_nextDrip 16 = .ok (.imul, 1) := by decide +kernel
theorem dX1_nextDrip_17 : decode cX1_nextDrip 17 = .ok (.sipush 1000, 3) := by decide +kernel
theorem dX1_nextDrip_20 : decode cX1_nextDrip 20 = .ok (.idiv, 1) := by decide +kernel
theorem dX1_nextDrip_21 : decode cX1_nextDrip 21 = .ok (.iadd, 1) := by decide +kernel
theorem dX1_nextDrip_22 : decode cX1_nextDrip 22 = .ok (.invokestatic 71, 3) := by decide +kernel
theorem dX1_nextDrip_25 : decode cX1_nextDrip 25 = .ok (.ireturn, 1) := by decide +kernel
theorem dX1_letThrough_0 : decode cX1_letThrough 0 = .ok (.aload_n 0, 1) := by decide +kernel
theorem dX1_letThrough_1 : decode cX1_letThrough 1 = .ok (.invokevirtual 60, 3) := by decide +kernel
theorem dX1_letThrough_4 : decode cX1_letThrough 4 = .ok (.istore_n 1, 1) := by decide +kernel
theorem dX1_letThrough_5 : decode cX1_letThrough 5 = .ok (.aload_n 0, 1) := by decide +kernel
theorem dX1_letThrough_6 : decode cX1_letThrough 6 = .ok (.dup, 1) := by decide +kernel
theorem dX1_letThrough_7 : decode cX1_letThrough 7 = .ok (.getfield 27, 3) := by decide +kernel
theorem dX1_letThrough_10 : decode cX1_letThrough 10 = .ok (.iload_n 1, 1) := by decide +kernel
theorem dX1_letThrough_11 : decode cX1_letThrough 11 = .ok (.isub, 1) := by decide +kernel
theorem dX1_letThrough_12 : decode cX1_letThrough 12 = .ok (.putfield 27, 3) := by decide +kernel
theorem dX1_letThrough_15 : decode cX1_letThrough 15 = .ok (.aload_n 0, 1) := by decide +kernel
theorem dX1_letThrough_16 : decode cX1_letThrough 16 = .ok (.dup, 1) := by decide +kernel
theorem dX1_letThrough_17 : decode cX1_letThrough 17 = .ok (.getfield 33, 3) := by decide +kernel
theorem dX1_letThrough_20 : decode cX1_letThrough 20 = .ok (.iload_n 1, 1) := by decide +kernel
theorem dX1_letThrough_21 : decode cX1_letThrough 21 = .ok (.iadd, 1) := by decide +kernel
theorem dX1_letThrough_22 : decode cX1_letThrough 22 = .ok (.putfield 33, 3) := by decide +kernel
theorem dX1_letThrough_25 : decode cX1_letThrough 25 = .ok (.aload_n 0, 1) := by decide +kernel
theorem dX1_letThrough_26 : decode cX1_letThrough 26 = .ok (.dup, 1) := by decide +kernel
theorem dX1_letThrough_27 : decode cX1_letThrough 27 = .ok (.getfield 36, 3) := by decide +kernel
theorem dX1_letThrough_30 : decode cX1_letThrough 30 = .ok (.iload_n 1, 1) := by decide +kernel
theorem dX1_letThrough_31 : decode cX1_letThrough 31 = .ok (.iadd, 1) := by decide +kernel
theorem dX1_letThrough_32 : decode cX1_letThrough 32 = .ok (.putfield 36, 3) := by decide +kernel
theorem dX1_letThrough_35 : decode cX1_letThrough 35 = .ok (.iload_n 1, 1) := by decide +kernel
theorem dX1_letThrough_36 : decode cX1_letThrough 36 = .ok (.ireturn, 1) := by decide +kernel
theorem dX1_wearHole_0 : decode cX1_wearHole 0 = .ok (.aload_n 0, 1) := by decide +kernel
theorem dX1_wearHole_1 : decode cX1_wearHole 1 = .ok (.getfield 36, 3) := by decide +kernel
theorem dX1_wearHole_4 : decode cX1_wearHole 4 = .ok (.iload_n 1, 1) := by decide +kernel
theorem dX1_wearHole_5 : decode cX1_wearHole 5 = .ok (.invokestatic 67, 3) := by decide +kernel
theorem dX1_wearHole_8 : decode cX1_wearHole 8 = .ok (.istore_n 2, 1) := by decide +kernel
theorem dX1_wearHole_9 : decode cX1_wearHole 9 = .ok (.iload_n 2, 1) := by decide +kernel
theorem dX1_wearHole_10 : decode cX1_wearHole 10 = .ok (.bipush 60, 2) := by decide +kernel
theorem dX1_wearHole_12 : decode cX1_wearHole 12 = .ok (.aload_n 0, 1) := by decide +kernel
theorem dX1_wearHole_13 : decode cX1_wearHole 13 = .ok (.getfield 18, 3) := by decide +kernel
theorem dX1_wearHole_16 : decode cX1_wearHole 16 = .ok (.isub, 1) := by decide +kernel
theorem dX1_wearHole_17 : decode cX1_wearHole 17 = .ok (.invokestatic 71, 3) := by decide +kernel
theorem dX1_wearHole_20 : decode cX1_wearHole 20 = .ok (.istore_n 3, 1) := by decide +kernel
theorem dX1_wearHole_21 : decode cX1_wearHole 21 = .ok (.aload_n 0, 1) := by decide +kernel
theorem dX1_wearHole_22 : decode cX1_wearHole 22 = .ok (.dup, 1) := by decide +kernel
theorem dX1_wearHole_23 : decode cX1_wearHole 23 = .ok (.getfield 36, 3) := by decide +kernel
theorem dX1_wearHole_26 : decode cX1_wearHole 26 = .ok (.iload_n 2, 1) := by decide +kernel
theorem dX1_wearHole_27 : decode cX1_wearHole 27 = .ok (.iload_n 1, 1) := by decide +kernel
theorem dX1_wearHole_28 : decode cX1_wearHole 28 = .ok (.imul, 1) := by decide +kernel
theorem dX1_wearHole_29 : decode cX1_wearHole 29 = .ok (.isub, 1) := by decide +kernel
theorem dX1_wearHole_30 : decode cX1_wearHole 30 = .ok (.putfield 36, 3) := by decide +kernel
theorem dX1_wearHole_33 : decode cX1_wearHole 33 = .ok (.aload_n 0, 1) := by decide +kernel
theorem dX1_wearHole_34 : decode cX1_wearHole 34 = .ok (.dup, 1) := by decide +kernel
theorem dX1_wearHole_35 : decode cX1_wearHole 35 = .ok (.getfield 18, 3) := by decide +kernel
theorem dX1_wearHole_38 : decode cX1_wearHole 38 = .ok (.iload_n 3, 1) := by decide +kernel
theorem dX1_wearHole_39 : decode cX1_wearHole 39 = .ok (.iadd, 1) := by decide +kernel
theorem dX1_wearHole_40 : decode cX1_wearHole 40 = .ok (.putfield 18, 3) := by decide +kernel
theorem dX1_wearHole_43 : decode cX1_wearHole 43 = .ok (.aload_n 0, 1) := by decide +kernel
theorem dX1_wearHole_44 : decode cX1_wearHole 44 = .ok (.dup, 1) := by decide +kernel
theorem dX1_wearHole_45 : decode cX1_wearHole 45 = .ok (.getfield 39, 3) := by decide +kernel
theorem dX1_wearHole_48 : decode cX1_wearHole 48 = .ok (.iload_n 3, 1) := by decide +kernel
theorem dX1_wearHole_49 : decode cX1_wearHole 49 = .ok (.iadd, 1) := by decide +kernel
theorem dX1_wearHole_50 : decode cX1_wearHole 50 = .ok (.putfield 39, 3) := by decide +kernel
theorem dX1_wearHole_53 : decode cX1_wearHole 53 = .ok (.return_, 1) := by decide +kernel
theorem dX2_init_0 : decode cX2_init 0 = .ok (.aload_n 0, 1) := by decide +kernel
theorem dX2_init_1 : decode cX2_init 1 = .ok (.invokespecial 1, 3) := by decide +kernel
theorem dX2_init_4 : decode cX2_init 4 = .ok (.aload_n 0, 1) := by decide +kernel
theorem dX2_init_5 : decode cX2_init 5 = .ok (.sipush 2000, 3) := by decide +kernel
theorem dX2_init_8 : decode cX2_init 8 = .ok (.putfield 7, 3) := by decide +kernel
theorem dX2_init_11 : decode cX2_init 11 = .ok (.aload_n 0, 1) := by decide +kernel
theorem dX2_init_12 : decode cX2_init 12 = .ok (.sipush 240, 3) := by decide +kernel
theorem dX2_init_15 : decode cX2_init 15 = .ok (.putfield 13, 3) := by decide +kernel
theorem dX2_init_18 : decode cX2_init 18 = .ok (.aload_n 0, 1) := by decide +kernel
theorem dX2_init_19 : decode cX2_init 19 = .ok (.sipush 400, 3) := by decide +kernel
theorem dX2_init_22 : decode cX2_init 22 = .ok (.putfield 16, 3) := by decide +kernel
theorem dX2_init_25 : decode cX2_init 25 = .ok (.aload_n 0, 1) := by decide +kernel
theorem dX2_init_26 : decode cX2_init 26 = .ok (.bipush 20, 2) := by decide +kernel
theorem dX2_init_28 : decode cX2_init 28 = .ok (.putfield 19, 3) := by decide +kernel
theorem dX2_init_31 : decode cX2_init 31 = .ok (.aload_n 0, 1) := by decide +kernel
theorem dX2_init_32 : decode cX2_init 32 = .ok (.iconst 1, 1) := by decide +kernel
theorem dX2_init_33 : decode cX2_init 33 = .ok (.putfield 22, 3) := by decide +kernel
theorem dX2_init_36 : decode cX2_init 36 = .ok (.aload_n 0, 1) := by decide +kernel
theorem dX2_init_37 : decode cX2_init 37 = .ok (.iconst 0, 1) := by decide +kernel
theorem dX2_init_38 : decode cX2_init 38 = .ok (.putfield 25, 3) := by decide +kernel
theorem dX2_init_41 : decode cX2_init 41 = .ok (.return_, 1) := by decide +kernel
theorem dX2_copyFrom_0 : decode cX2_copyFrom 0 = .ok (.aload_n 0, 1) := by decide +kernel
theorem dX2_copyFrom_1 : decode cX2_copyFrom 1 = .ok (.aload_n 1, 1) := by decide +kernel
theorem dX2_copyFrom_2 : decode cX2_copyFrom 2 = .ok (.getfield 7, 3) := by decide +kernel
theorem dX2_copyFrom_5 : decode cX2_copyFrom 5 = .ok (.putfield 7, 3) := by decide +kernel
theorem dX2_copyFrom_8 : decode cX2_copyFrom 8 = .ok (.aload_n 0, 1) := by decide +kernel
theorem dX2_copyFrom_9 : decode cX2_copyFrom 9 = .ok (.aload_n 1, 1) := by decide +kernel
theorem dX2_copyFrom_10 : decode cX2_copyFrom 10 = .ok (.getfield 13, 3) := by decide +kernel
theorem dX2_copyFrom_13 : decode cX2_copyFrom 13 = .ok (.putfield 13, 3) := by decide +kernel
theorem dX2_copyFrom_16 : decode cX2_copyFrom 16 = .ok (.aload_n 0, 1) := by decide +kernel
theorem dX2_copyFrom_17 : decode cX2_copyFrom 17 = .ok (.aload_n 1, 1) := by decide +kernel
theorem dX2_copyFrom_18 : decode cX2_copyFrom 18 = .ok (.getfield 16, 3) := by decide +kernel
theorem dX2_copyFrom_21 : decode cX2_copyFrom 21 = .ok (.putfield 16, 3) := by decide +kernel
theorem dX2_copyFrom_24 : decode cX2_copyFrom 24 = .ok (.aload_n 0, 1) := by decide +kernel
theorem dX2_copyFrom_25 : decode cX2_copyFrom 25 = .ok (.aload_n 1, 1) := by decide +kernel
theorem dX2_copyFrom_26 : decode cX2_copyFrom 26 = .ok (.getfield 19, 3) := by decide +kernel
theorem dX2_copyFrom_29 : decode cX2_copyFrom 29 = .ok (.putfield 19, 3) := by decide +kernel
theorem dX2_copyFrom_32 : decode cX2_copyFrom 32 = .ok (.aload_n 0, 1) := by decide +kernel
theorem dX2_copyFrom_33 : decode cX2_copyFrom 33 = .ok (.aload_n 1, 1) := by decide +kernel
theorem dX2_copyFrom_34 : decode cX2_copyFrom 34 = .ok (.getfield 22, 3) := by decide +kernel
theorem dX2_copyFrom_37 : decode cX2_copyFrom 37 = .ok (.putfield 22, 3) := by decide +kernel
theorem dX2_copyFrom_40 : decode cX2_copyFrom 40 = .ok (.aload_n 0, 1) := by decide +kernel
theorem dX2_copyFrom_41 : decode cX2_copyFrom 41 = .ok (.aload_n 1, 1) := by decide +kernel
theorem dX2_copyFrom_42 : decode cX2_copyFrom 42 = .ok (.getfield 25, 3) := by decide +kernel
theorem dX2_copyFrom_45 : decode cX2_copyFrom 45 = .ok (.putfield 25, 3) := by decide +kernel
theorem dX2_copyFrom_48 : decode cX2_copyFrom 48 = .ok (.return_, 1) := by decide +kernel
theorem dX2_isInRange_0 : decode cX2_isInRange 0 = .ok (.iload_n 0, 1) := by decide +kernel
theorem dX2_isInRange_1 : decode cX2_isInRange 1 = .ok (.ifCond .lt 11, 3) := by decide +kernel
theorem dX2_isInRange_4 : decode cX2_isInRange 4 = .ok (.iload_n 0, 1) := by decide +kernel
theorem dX2_isInRange_5 : decode cX2_isInRange 5 = .ok (.getstatic 28, 3) := by decide +kernel
theorem dX2_isInRange_8 : decode cX2_isInRange 8 = .ok (.arraylength, 1) := by decide +kernel
theorem dX2_isInRange_9 : decode cX2_isInRange 9 = .ok (.if_icmp .lt 5, 3) := by decide +kernel
theorem dX2_isInRange_12 : decode cX2_isInRange 12 = .ok (.iconst 0, 1) := by decide +kernel
theorem dX2_isInRange_13 : decode cX2_isInRange 13 = .ok (.ireturn, 1) := by decide +kernel
theorem dX2_isInRange_14 : decode cX2_isInRange 14 = .ok (.iload_n 1, 1) := by decide +kernel
theorem dX2_isInRange_15 : decode cX2_isInRange 15 = .ok (.getstatic 28, 3) := by decide +kernel
theorem dX2_isInRange_18 : decode cX2_isInRange 18 = .ok (.iload_n 0, 1) := by decide +kernel
theorem dX2_isInRange_19 : decode cX2_isInRange 19 = .ok (.invokestatic 34, 3) := by decide +kernel
theorem dX2_isInRange_22 : decode cX2_isInRange 22 = .ok (.if_icmp .lt 18, 3) := by decide +kernel
theorem dX2_isInRange_25 : decode cX2_isInRange 25 = .ok (.iload_n 1, 1) := by decide +kernel
theorem dX2_isInRange_26 : decode cX2_isInRange 26 = .ok (.getstatic 38, 3) := by decide +kernel
theorem dX2_isInRange_29 : decode cX2_isInRange 29 = .ok (.iload_n 0, 1) := by decide +kernel
theorem dX2_isInRange_30 : decode cX2_isInRange 30 = .ok (.invokestatic 34, 3) := by decide +kernel
theorem dX2_isInRange_33 : decode cX2_isInRange 33 = .ok (.if_icmp .gt 7, 3) := by decide +kernel
theorem dX2_isInRange_36 : decode cX2_isInRange 36 = .ok (.iconst 1, 1) := by decide +kernel
theorem dX2_isInRange_37 : decode cX2_isInRange 37 = .ok (.goto 4, 3) := by decide +kernel
theorem dX2_isInRange_40 : decode cX2_isInRange 40 = .ok (.iconst 0, 1) := by decide +kernel
theorem dX2_isInRange_41 : decode cX2_isInRange 41 = .ok (.ireturn, 1) := by decide +kernel
theorem dX2_valueOf_0 : decode cX2_valueOf 0 = .ok (.iload_n 1, 1) := by decide +kernel
theorem dX2_valueOf_1 : decode cX2_valueOf 1 = .ok (.tableswitch 60 0 4 #[35, 40, 45, 50, 55], 35) := by decide +kernel
theorem dX2_valueOf_36 : decode cX2_valueOf 36 = .ok (.aload_n 0, 1) := by decide +kernel
theorem dX2_valueOf_37 : decode cX2_valueOf 37 = .ok (.getfield 7, 3) := by decide +kernel
theorem dX2_valueOf_40 : decode cX2_valueOf 40 = .ok (.ireturn, 1) := by decide +kernel
theorem dX2_valueOf_41 : decode cX2_valueOf 41 = .ok (.aload_n 0, 1) := by decide +kernel
theorem dX2_valueOf_42 : decode cX2_valueOf 42 = .ok (.getfield 13, 3) := by decide +kernel
theorem dX2_valueOf_45 : decode cX2_valueOf 45 = .ok (.ireturn, 1) := by decide +kernel
theorem dX2_valueOf_46 : decode cX2_valueOf 46 = .ok (.aload_n 0, 1) := by decide +kernel
theorem dX2_valueOf_47 : decode cX2_valueOf 47 = .ok (.getfield 16, 3) := by decide +kernel
theorem dX2_valueOf_50 : decode cX2_valueOf 50 = .ok (.ireturn, 1) := by decide +kernel
theorem dX2_valueOf_51 : decode cX2_valueOf 51 = .ok (.aload_n 0, 1) := by decide +kernel
theorem dX2_valueOf_52 : decode cX2_valueOf 52 = .ok (.getfield 19, 3) := by decide +kernel
theorem dX2_valueOf_55 : decode cX2_valueOf 55 = .ok (.ireturn, 1) := by decide +kernel
theorem dX2_valueOf_56 : decode cX2_valueOf 56 = .ok (.aload_n 0, 1) := by decide +kernel
theorem dX2_valueOf_57 : decode cX2_valueOf 57 = .ok (.getfield 22, 3) := by decide +kernel
theorem dX2_valueOf_60 : decode cX2_valueOf 60 = .ok (.ireturn, 1) := by decide +kernel
theorem dX2_valueOf_61 : decode cX2_valueOf 61 = .ok (.aload_n 0, 1) := by decide +kernel
theorem dX2_valueOf_62 : decode cX2_valueOf 62 = .ok (.getfield 25, 3) := by decide +kernel
theorem dX2_valueOf_65 : decode cX2_valueOf 65 = .ok (.ireturn, 1) := by decide +kernel
theorem dX2_change_0 : decode cX2_change 0 = .ok (.iload_n 1, 1) := by decide +kernel
theorem dX2_change_1 : decode cX2_change 1 = .ok (.tableswitch 75 0 4 #[35, 43, 51, 59, 67], 35) := by decide +kernel
theorem dX2_change_36 : decode cX2_change 36 = .ok (.aload_n 0, 1) := by decide +kernel
theorem dX2_change_37 : decode cX2_change 37 = .ok (.iload_n 2, 1) := by decide +kernel
theorem dX2_change_38 : decode cX2_change 38 = .ok (.putfield 7, 3) := by decide +kernel
theorem dX2_change_41 : decode cX2_change 41 = .ok (.goto 40, 3) := by decide +kernel
theorem dX2_change_44 : decode cX2_change 44 = .ok (.aload_n 0, 1) := by decide +kernel
theorem dX2_change_45 : decode cX2_change 45 = .ok (.iload_n 2, 1) := by decide +kernel
theorem dX2_change_46 : decode cX2_change 46 = .ok (.putfield 13, 3) := by decide +kernel
theorem dX2_change_49 : decode cX2_change 49 = .ok (.goto 32, 3) := by decide +kernel
theorem dX2_change_52 : decode cX2_change 52 = .ok (.aload_n 0, 1) := by decide +kernel
theorem dX2_change_53 : decode cX2_change 53 = .ok (.iload_n 2, 1) := by decide +kernel
theorem dX2_change_54 : decode cX2_change 54 = .ok (.putfield 16, 3) := by decide +kernel
theorem dX2_change_57 : decode cX2_change 57 = .ok (.goto 24, 3) := by decide +kernel
theorem dX2_change_60 : decode cX2_change 60 = .ok (.aload_n 0, 1) := by decide +kernel
theorem dX2_change_61 : decode cX2_change 61 = .ok (.iload_n 2, 1) := by decide +kernel
theorem dX2_change_62 : decode cX2_change 62 = .ok (.putfield 19, 3) := by decide +kernel
theorem dX2_change_65 : decode cX2_change 65 = .ok (.goto 16, 3) := by decide +kernel
theorem dX2_change_68 : decode cX2_change 68 = .ok (.aload_n 0, 1) := by decide +kernel
theorem dX2_change_69 : decode cX2_change 69 = .ok (.iload_n 2, 1) := by decide +kernel
theorem dX2_change_70 : decode cX2_change 70 = .ok (.putfield 22, 3) := by decide +kernel
theorem dX2_change_73 : decode cX2_change 73 = .ok (.goto 8, 3) := by decide +kernel
theorem dX2_change_76 : decode cX2_change 76 = .ok (.aload_n 0, 1) := by decide +kernel
theorem dX2_change_77 : decode cX2_change 77 = .ok (.iload_n 2, 1) := by decide +kernel
theorem dX2_change_78 : decode cX2_change 78 = .ok (.putfield 25, 3) := by decide +kernel
theorem dX2_change_81 : decode cX2_change 81 = .ok (.return_, 1) := by decide +kernel
theorem dX3_init_0 : decode cX3_init 0 = .ok (.aload_n 0, 1) := by decide +kernel
theorem dX3_init_1 : decode cX3_init 1 = .ok (.invokespecial 3, 3) := by decide +kernel
theorem dX3_init_4 : decode cX3_init 4 = .ok (.aload_n 0, 1) := by decide +kernel
theorem dX3_init_5 : decode cX3_init 5 = .ok (.iconst 5, 1) := by decide +kernel
theorem dX3_init_6 : decode cX3_init 6 = .ok (.anewarray 9, 3) := by decide +kernel
theorem dX3_init_9 : decode cX3_init 9 = .ok (.putfield 11, 3) := by decide +kernel
theorem dX3_init_12 : decode cX3_init 12 = .ok (.aload_n 0, 1) := by decide +kernel
theorem dX3_init_13 : decode cX3_init 13 = .ok (.new 17, 3) := by decide +kernel
theorem dX3_init_16 : decode cX3_init 16 = .ok (.dup, 1) := by decide +kernel
theorem dX3_init_17 : decode cX3_init 17 = .ok (.invokespecial 19, 3) := by decide +kernel
theorem dX3_init_20 : decode cX3_init 20 = .ok (.putfield 20, 3) := by decide +kernel
theorem dX3_init_23 : decode cX3_init 23 = .ok (.aload_n 0, 1) := by decide +kernel
theorem dX3_init_24 : decode cX3_init 24 = .ok (.new 24, 3) := by decide +kernel
theorem dX3_init_27 : decode cX3_init 27 = .ok (.dup, 1) := by decide +kernel
theorem dX3_init_28 : decode cX3_init 28 = .ok (.invokespecial 26, 3) := by decide +kernel
theorem dX3_init_31 : decode cX3_init 31 = .ok (.putfield 27, 3) := by decide +kernel
theorem dX3_init_34 : decode cX3_init 34 = .ok (.aload_n 0, 1) := by decide +kernel
theorem dX3_init_35 : decode cX3_init 35 = .ok (.sipush 20000, 3) := by decide +kernel
theorem dX3_init_38 : decode cX3_init 38 = .ok (.putfield 31, 3) := by decide +kernel
theorem dX3_init_41 : decode cX3_init 41 = .ok (.iconst 0, 1) := by decide +kernel
theorem dX3_init_42 : decode cX3_init 42 = .ok (.istore_n 1, 1) := by decide +kernel
theorem dX3_init_43 : decode cX3_init 43 = .ok (.iload_n 1, 1) := by decide +kernel
theorem dX3_init_44 : decode cX3_init 44 = .ok (.aload_n 0, 1) := by decide +kernel
theorem dX3_init_45 : decode cX3_init 45 = .ok (.getfield 11, 3) := by decide +kernel
theorem dX3_init_48 : decode cX3_init 48 = .ok (.arraylength, 1) := by decide +kernel
theorem dX3_init_49 : decode cX3_init 49 = .ok (.if_icmp .ge 23, 3) := by decide +kernel
theorem dX3_init_52 : decode cX3_init 52 = .ok (.aload_n 0, 1) := by decide +kernel
theorem dX3_init_53 : decode cX3_init 53 = .ok (.getfield 11, 3) := by decide +kernel
theorem dX3_init_56 : decode cX3_init 56 = .ok (.iload_n 1, 1) := by decide +kernel
theorem dX3_init_57 : decode cX3_init 57 = .ok (.new 9, 3) := by decide +kernel
theorem dX3_init_60 : decode cX3_init 60 = .ok (.dup, 1) := by decide +kernel
theorem dX3_init_61 : decode cX3_init 61 = .ok (.iload_n 1, 1) := by decide +kernel
theorem dX3_init_62 : decode cX3_init 62 = .ok (.invokespecial 35, 3) := by decide +kernel
theorem dX3_init_65 : decode cX3_init 65 = .ok (.aastore, 1) := by decide +kernel
theorem dX3_init_66 : decode cX3_init 66 = .ok (.iinc 1 1, 3) := by decide +kernel
theorem dX3_init_69 : decode cX3_init 69 = .ok (.goto (-26), 3) := by decide +kernel
theorem dX3_init_72 : decode cX3_init 72 = .ok (.return_, 1) := by decide +kernel
theorem dX3_copyFrom_0 : decode cX3_copyFrom 0 = .ok (.iconst 0, 1) := by decide +kernel
theorem dX3_copyFrom_1 : decode cX3_copyFrom 1 = .ok (.istore_n 2, 1) := by decide +kernel
theorem dX3_copyFrom_2 : decode cX3_copyFrom 2 = .ok (.iload_n 2, 1) := by decide +kernel
theorem dX3_copyFrom_3 : decode cX3_copyFrom 3 = .ok (.aload_n 0, 1) := by decide +kernel
theorem dX3_copyFrom_4 : decode cX3_copyFrom 4 = .ok (.getfield 11, 3) := by decide +kernel
theorem dX3_copyFrom_7 : decode cX3_copyFrom 7 = .ok (.arraylength, 1) := by decide +kernel
theorem dX3_copyFrom_8 : decode cX3_copyFrom 8 = .ok (.if_icmp .ge 33, 3) := by decide +kernel
theorem dX3_copyFrom_11 : decode cX3_copyFrom 11 = .ok (.iload_n 2, 1) := by decide +kernel
theorem dX3_copyFrom_12 : decode cX3_copyFrom 12 = .ok (.aload_n 1, 1) := by decide +kernel
theorem dX3_copyFrom_13 : decode cX3_copyFrom 13 = .ok (.getfield 11, 3) := by decide +kernel
theorem dX3_copyFrom_16 : decode cX3_copyFrom 16 = .ok (.arraylength, 1) := by decide +kernel
theorem dX3_copyFrom_17 : decode cX3_copyFrom 17 = .ok (.if_icmp .ge 24, 3) := by decide +kernel
theorem dX3_copyFrom_20 : decode cX3_copyFrom 20 = .ok (.aload_n 0, 1) := by decide +kernel
theorem dX3_copyFrom_21 : decode cX3_copyFrom 21 = .ok (.getfield 11, 3) := by decide +kernel
theorem dX3_copyFrom_24 : decode cX3_copyFrom 24 = .ok (.iload_n 2, 1) := by decide +kernel
theorem dX3_copyFrom_25 : decode cX3_copyFrom 25 = .ok (.aaload, 1) := by decide +kernel
theorem dX3_copyFrom_26 : decode cX3_copyFrom 26 = .ok (.aload_n 1, 1) := by decide +kernel
theorem dX3_copyFrom_27 : decode cX3_copyFrom 27 = .ok (.getfield 11, 3) := by decide +kernel
theorem dX3_copyFrom_30 : decode cX3_copyFrom 30 = .ok (.iload_n 2, 1) := by decide +kernel
theorem dX3_copyFrom_31 : decode cX3_copyFrom 31 = .ok (.aaload, 1) := by decide +kernel
theorem dX3_copyFrom_32 : decode cX3_copyFrom 32 = .ok (.invokevirtual 38, 3) := by decide +kernel
theorem dX3_copyFrom_35 : decode cX3_copyFrom 35 = .ok (.iinc 2 1, 3) := by decide +kernel
theorem dX3_copyFrom_38 : decode cX3_copyFrom 38 = .ok (.goto (-36), 3) := by decide +kernel
theorem dX3_copyFrom_41 : decode cX3_copyFrom 41 = .ok (.aload_n 0, 1) := by decide +kernel
theorem dX3_copyFrom_42 : decode cX3_copyFrom 42 = .ok (.getfield 20, 3) := by decide +kernel
theorem dX3_copyFrom_45 : decode cX3_copyFrom 45 = .ok (.aload_n 1, 1) := by decide +kernel
theorem dX3_copyFrom_46 : decode cX3_copyFrom 46 = .ok (.getfield 20, 3) := by decide +kernel
theorem dX3_copyFrom_49 : decode cX3_copyFrom 49 = .ok (.invokevirtual 42, 3) := by decide +kernel
theorem dX3_copyFrom_52 : decode cX3_copyFrom 52 = .ok (.aload_n 0, 1) := by decide +kernel
theorem dX3_copyFrom_53 : decode cX3_copyFrom 53 = .ok (.getfield 27, 3) := by decide +kernel
theorem dX3_copyFrom_56 : decode cX3_copyFrom 56 = .ok (.aload_n 1, 1) := by decide +kernel
theorem dX3_copyFrom_57 : decode cX3_copyFrom 57 = .ok (.getfield 27, 3) := by decide +kernel
theorem dX3_copyFrom_60 : decode cX3_copyFrom 60 = .ok (.invokevirtual 45, 3) := by decide +kernel
theorem dX3_copyFrom_63 : decode cX3_copyFrom 63 = .ok (.aload_n 0, 1) := by decide +kernel
theorem dX3_copyFrom_64 : decode cX3_copyFrom 64 = .ok (.aload_n 1, 1) := by decide +kernel
theorem dX3_copyFrom_65 : decode cX3_copyFrom 65 = .ok (.getfield 48, 3) := by decide +kernel
theorem dX3_copyFrom_68 : decode cX3_copyFrom 68 = .ok (.putfield 48, 3) := by decide +kernel
theorem dX3_copyFrom_71 : decode cX3_copyFrom 71 = .ok (.aload_n 0, 1) := by decide +kernel
theorem dX3_copyFrom_72 : decode cX3_copyFrom 72 = .ok (.aload_n 1, 1) := by decide +kernel
theorem dX3_copyFrom_73 : decode cX3_copyFrom 73 = .ok (.getfield 51, 3) := by decide +kernel
theorem dX3_copyFrom_76 : decode cX3_copyFrom 76 = .ok (.putfield 51, 3) := by decide +kernel
theorem dX3_copyFrom_79 : decode cX3_copyFrom 79 = .ok (.aload_n 0, 1) := by decide +kernel
theorem dX3_copyFrom_80 : decode cX3_copyFrom 80 = .ok (.aload_n 1, 1) := by decide +kernel
theorem dX3_copyFrom_81 : decode cX3_copyFrom 81 = .ok (.getfield 31, 3) := by decide +kernel
theorem dX3_copyFrom_84 : decode cX3_copyFrom 84 = .ok (.putfield 31, 3) := by decide +kernel
theorem dX3_copyFrom_87 : decode cX3_copyFrom 87 = .ok (.aload_n 0, 1) := by decide +kernel
theorem dX3_copyFrom_88 : decode cX3_copyFrom 88 = .ok (.aload_n 1, 1) := by decide +kernel
theorem dX3_copyFrom_89 : decode cX3_copyFrom 89 = .ok (.getfield 54, 3) := by decide +kernel
theorem dX3_copyFrom_92 : decode cX3_copyFrom 92 = .ok (.putfield 54, 3) := by decide +kernel
theorem dX3_copyFrom_95 : decode cX3_copyFrom 95 = .ok (.aload_n 0, 1) := by decide +kernel
theorem dX3_copyFrom_96 : decode cX3_copyFrom 96 = .ok (.aload_n 1, 1) := by decide +kernel
theorem dX3_copyFrom_97 : decode cX3_copyFrom 97 = .ok (.getfield 57, 3) := by decide +kernel
theorem dX3_copyFrom_100 : decode cX3_copyFrom 100 = .ok (.putfield 57, 3) := by decide +kernel
theorem dX3_copyFrom_103 : decode cX3_copyFrom 103 = .ok (.aload_n 0, 1) := by decide +kernel
theorem dX3_copyFrom_104 : decode cX3_copyFrom 104 = .ok (.aload_n 1, 1) := by decide +kernel
theorem dX3_copyFrom_105 : decode cX3_copyFrom 105 = .ok (.getfield 60, 3) := by decide +kernel
theorem dX3_copyFrom_108 : decode cX3_copyFrom 108 = .ok (.putfield 60, 3) := by decide +kernel
theorem dX3_copyFrom_111 : decode cX3_copyFrom 111 = .ok (.aload_n 0, 1) := by decide +kernel
theorem dX3_copyFrom_112 : decode cX3_copyFrom 112 = .ok (.aload_n 1, 1) := by decide +kernel
theorem dX3_copyFrom_113 : decode cX3_copyFrom 113 = .ok (.getfield 63, 3) := by decide +kernel
theorem dX3_copyFrom_116 : decode cX3_copyFrom 116 = .ok (.putfield 63, 3) := by decide +kernel
theorem dX3_copyFrom_119 : decode cX3_copyFrom 119 = .ok (.aload_n 0, 1) := by decide +kernel
theorem dX3_copyFrom_120 : decode cX3_copyFrom 120 = .ok (.aload_n 1, 1) := by decide +kernel
theorem dX3_copyFrom_121 : decode cX3_copyFrom 121 = .ok (.getfield 66, 3) := by decide +kernel
theorem dX3_copyFrom_124 : decode cX3_copyFrom 124 = .ok (.putfield 66, 3) := by decide +kernel
theorem dX3_copyFrom_127 : decode cX3_copyFrom 127 = .ok (.aload_n 0, 1) := by decide +kernel
theorem dX3_copyFrom_128 : decode cX3_copyFrom 128 = .ok (.aload_n 1, 1) := by decide +kernel
theorem dX3_copyFrom_129 : decode cX3_copyFrom 129 = .ok (.getfield 69, 3) := by decide +kernel
theorem dX3_copyFrom_132 : decode cX3_copyFrom 132 = .ok (.putfield 69, 3) := by decide +kernel
theorem dX3_copyFrom_135 : decode cX3_copyFrom 135 = .ok (.aload_n 0, 1) := by decide +kernel
theorem dX3_copyFrom_136 : decode cX3_copyFrom 136 = .ok (.aload_n 1, 1) := by decide +kernel
theorem dX3_copyFrom_137 : decode cX3_copyFrom 137 = .ok (.getfield 72, 3) := by decide +kernel
theorem dX3_copyFrom_140 : decode cX3_copyFrom 140 = .ok (.putfield 72, 3) := by decide +kernel
theorem dX3_copyFrom_143 : decode cX3_copyFrom 143 = .ok (.return_, 1) := by decide +kernel
theorem dX3_clockAt_0 : decode cX3_clockAt 0 = .ok (.iload_n 1, 1) := by decide +kernel
theorem dX3_clockAt_1 : decode cX3_clockAt 1 = .ok (.ifCond .lt 29, 3) := by decide +kernel
theorem dX3_clockAt_4 : decode cX3_clockAt 4 = .ok (.iload_n 1, 1) := by decide +kernel
theorem dX3_clockAt_5 : decode cX3_clockAt 5 = .ok (.aload_n 0, 1) := by decide +kernel
theorem dX3_clockAt_6 : decode cX3_clockAt 6 = .ok (.getfield 48, 3) := by decide +kernel
theorem dX3_clockAt_9 : decode cX3_clockAt 9 = .ok (.if_icmp .ge 21, 3) := by decide +kernel
theorem dX3_clockAt_12 : decode cX3_clockAt 12 = .ok (.iload_n 1, 1) := by decide +kernel
theorem dX3_clockAt_13 : decode cX3_clockAt 13 = .ok (.aload_n 0, 1) := by decide +kernel
theorem dX3_clockAt_14 : decode cX3_clockAt 14 = .ok (.getfield 11, 3) := by decide +kernel
theorem dX3_clockAt_17 : decode cX3_clockAt 17 = .ok (.arraylength, 1) := by decide +kernel
theorem dX3_clockAt_18 : decode cX3_clockAt 18 = .ok (.if_icmp .ge 12, 3) := by decide +kernel
theorem dX3_clockAt_21 : decode cX3_clockAt 21 = .ok (.aload_n 0, 1) := by decide +kernel
theorem dX3_clockAt_22 : decode cX3_clockAt 22 = .ok (.getfield 11, 3) := by decide +kernel
theorem dX3_clockAt_25 : decode cX3_clockAt 25 = .ok (.iload_n 1, 1) := by decide +kernel
theorem dX3_clockAt_26 : decode cX3_clockAt 26 = .ok (.aaload, 1) := by decide +kernel
theorem dX3_clockAt_27 : decode cX3_clockAt 27 = .ok (.goto 4, 3) := by decide +kernel
theorem dX3_clockAt_30 : decode cX3_clockAt 30 = .ok (.aconst_null, 1) := by decide +kernel
theorem dX3_clockAt_31 : decode cX3_clockAt 31 = .ok (.areturn, 1) := by decide +kernel
theorem dX3_addClock_0 : decode cX3_addClock 0 = .ok (.iload_n 1, 1) := by decide +kernel
theorem dX3_addClock_1 : decode cX3_addClock 1 = .ok (.ifCond .lt 31, 3) := by decide +kernel
theorem dX3_addClock_4 : decode cX3_addClock 4 = .ok (.iload_n 1, 1) := by decide +kernel
theorem dX3_addClock_5 : decode cX3_addClock 5 = .ok (.iconst 2, 1) := by decide +kernel
theorem dX3_addClock_6 : decode cX3_addClock 6 = .ok (.if_icmp .gt 26, 3) := by decide +kernel
theorem dX3_addClock_9 : decode cX3_addClock 9 = .ok (.iload_n 2, 1) := by decide +kernel
theorem dX3_addClock_10 : decode cX3_addClock 10 = .ok (.iconst 1, 1) := by decide +kernel
theorem dX3_addClock_11 : decode cX3_addClock 11 = .ok (.if_icmp .lt 21, 3) := by decide +kernel
theorem dX3_addClock_14 : decode cX3_addClock 14 = .ok (.iload_n 2, 1) := by decide +kernel
theorem dX3_addClock_15 : decode cX3_addClock 15 = .ok (.bipush 60, 2) := by decide +kernel
theorem dX3_addClock_17 : decode cX3_addClock 17 = .ok (.if_icmp .gt 15, 3) := by decide +kernel
theorem dX3_addClock_20 : decode cX3_addClock 20 = .ok (.iload_n 3, 1) := by decide +kernel
theorem dX3_addClock_21 : decode cX3_addClock 21 = .ok (.iconst 1, 1) := by decide +kernel
theorem dX3_addClock_22 : decode cX3_addClock 22 = .ok (.if_icmp .lt 10, 3) := by decide +kernel
theorem dX3_addClock_25 : decode cX3_addClock 25 = .ok (.iload_n 3, 1) := by decide +kernel
theorem dX3_addClock_26 : decode cX3_addClock 26 = .ok (.sipush 500, 3) := by decide +kernel
theorem dX3_addClock_29 : decode cX3_addClock 29 = .ok (.if_icmp .le 6, 3) := by decide +kernel
theorem dX3_addClock_32 : decode cX3_addClock 32 = .ok (.ldc 75, 2) := by decide +kernel
theorem dX3_addClock_34 : decode cX3_addClock 34 = .ok (.ireturn, 1) := by decide +kernel
theorem dX3_addClock_35 : decode cX3_addClock 35 = .ok (.aload_n 0, 1) := by decide +kernel
theorem dX3_addClock_36 : decode cX3_addClock 36 = .ok (.getfield 48, 3) := by decide +kernel
theorem dX3_addClock_39 : decode cX3_addClock 39 = .ok (.ifCond .lt 15, 3) := by decide +kernel
theorem dX3_addClock_42 : decode cX3_addClock 42 = .ok (.aload_n 0, 1) := by decide +kernel
theorem dX3_addClock_43 : decode cX3_addClock 43 = .ok (.getfield 48, 3) := by decide +kernel
theorem dX3_addClock_46 : decode cX3_addClock 46 = .ok (.aload_n 0, 1) := by decide +kernel
theorem dX3_addClock_47 : decode cX3_addClock 47 = .ok (.getfield 11, 3) := by decide +kernel
theorem dX3_addClock_50 : decode cX3_addClock 50 = .ok (.arraylength, 1) := by decide +kernel
theorem dX3_addClock_51 : decode cX3_addClock 51 = .ok (.if_icmp .lt 6, 3) := by decide +kernel
theorem dX3_addClock_54 : decode cX3_addClock 54 = .ok (.ldc 76, 2) := by decide +kernel
theorem dX3_addClock_56 : decode cX3_addClock 56 = .ok (.ireturn, 1) := by decide +kernel
theorem dX3_addClock_57 : decode cX3_addClock 57 = .ok (.aload_n 0, 1) := by decide +kernel
theorem dX3_addClock_58 : decode cX3_addClock 58 = .ok (.getfield 11, 3) := by decide +kernel
theorem dX3_addClock_61 : decode cX3_addClock 61 = .ok (.aload_n 0, 1) := by decide +kernel
theorem dX3_addClock_62 : decode cX3_addClock 62 = .ok (.getfield 48, 3) := by decide +kernel
theorem dX3_addClock_65 : decode cX3_addClock 65 = .ok (.aaload, 1) := by decide +kernel
theorem dX3_addClock_66 : decode cX3_addClock 66 = .ok (.iload_n 1, 1) := by decide +kernel
theorem dX3_addClock_67 : decode cX3_addClock 67 = .ok (.iload_n 2, 1) := by decide +kernel
theorem dX3_addClock_68 : decode cX3_addClock 68 = .ok (.iload_n 3, 1) := by decide +kernel
theorem dX3_addClock_69 : decode cX3_addClock 69 = .ok (.aload_n 0, 1) := by decide +kernel
theorem dX3_addClock_70 : decode cX3_addClock 70 = .ok (.invokevirtual 77, 3) := by decide +kernel
theorem dX3_addClock_73 : decode cX3_addClock 73 = .ok (.invokevirtual 81, 3) := by decide +kernel
theorem dX3_addClock_76 : decode cX3_addClock 76 = .ok (.aload_n 0, 1) := by decide +kernel
theorem dX3_addClock_77 : decode cX3_addClock 77 = .ok (.dup, 1) := by decide +kernel
theorem dX3_addClock_78 : decode cX3_addClock 78 = .ok (.getfield 48, 3) := by decide +kernel
theorem dX3_addClock_81 : decode cX3_addClock 81 = .ok (.iconst 1, 1) := by decide +kernel
theorem dX3_addClock_82 : decode cX3_addClock 82 = .ok (.iadd, 1) := by decide +kernel
theorem dX3_addClock_83 : decode cX3_addClock 83 = .ok (.putfield 48, 3) := by decide +kernel
theorem dX3_addClock_86 : decode cX3_addClock 86 = .ok (.aload_n 0, 1) := by decide +kernel
theorem dX3_addClock_87 : decode cX3_addClock 87 = .ok (.getfield 48, 3) := by decide +kernel
theorem dX3_addClock_90 : decode cX3_addClock 90 = .ok (.iconst 1, 1) := by decide +kernel
theorem dX3_addClock_91 : decode cX3_addClock 91 = .ok (.isub, 1) := by decide +kernel
theorem dX3_addClock_92 : decode cX3_addClock 92 = .ok (.ireturn, 1) := by decide +kernel
theorem dX3_leadOn_0 : decode cX3_leadOn 0 = .ok (.aload_n 0, 1) := by decide +kernel
theorem dX3_leadOn_1 : decode cX3_leadOn 1 = .ok (.iload_n 1, 1) := by decide +kernel
theorem dX3_leadOn_2 : decode cX3_leadOn 2 = .ok (.invokevirtual 85, 3) := by decide +kernel
theorem dX3_leadOn_5 : decode cX3_leadOn 5 = .ok (.astore_n 3, 1) := by decide +kernel
theorem dX3_leadOn_6 : decode cX3_leadOn 6 = .ok (.aload_n 3, 1) := by decide +kernel
theorem dX3_leadOn_7 : decode cX3_leadOn 7 = .ok (.ifnull 16, 3) := by decide +kernel
theorem dX3_leadOn_10 : decode cX3_leadOn 10 = .ok (.aload_n 0, 1) := by decide +kernel
theorem dX3_leadOn_11 : decode cX3_leadOn 11 = .ok (.iload_n 2, 1) := by decide +kernel
theorem dX3_leadOn_12 : decode cX3_leadOn 12 = .ok (.invokevirtual 85, 3) := by decide +kernel
theorem dX3_leadOn_15 : decode cX3_leadOn 15 = .ok (.ifnull 8, 3) := by decide +kernel
theorem dX3_leadOn_18 : decode cX3_leadOn 18 = .ok (.iload_n 2, 1) := by decide +kernel
theorem dX3_leadOn_19 : decode cX3_leadOn 19 = .ok (.iload_n 1, 1) := by decide +kernel
theorem dX3_leadOn_20 : decode cX3_leadOn 20 = .ok (.if_icmp .ge 6, 3) := by decide +kernel
theorem dX3_leadOn_23 : decode cX3_leadOn 23 = .ok (.ldc 75, 2) := by decide +kernel
theorem dX3_leadOn_25 : decode cX3_leadOn 25 = .ok (.ireturn, 1) := by decide +kernel
theorem dX3_leadOn_26 : decode cX3_leadOn 26 = .ok (.aload_n 3, 1) := by decide +kernel
theorem dX3_leadOn_27 : decode cX3_leadOn 27 = .ok (.getfield 89, 3) := by decide +kernel
theorem dX3_leadOn_30 : decode cX3_leadOn 30 = .ok (.iconst 1, 1) := by decide +kernel
theorem dX3_leadOn_31 : decode cX3_leadOn 31 = .ok (.if_icmp .ne 6, 3) := by decide +kernel
theorem dX3_leadOn_34 : decode cX3_leadOn 34 = .ok (.ldc 92, 2) := by decide +kernel
theorem dX3_leadOn_36 : decode cX3_leadOn 36 = .ok (.ireturn, 1) := by decide +kernel
theorem dX3_leadOn_37 : decode cX3_leadOn 37 = .ok (.aload_n 3, 1) := by decide +kernel
theorem dX3_leadOn_38 : decode cX3_leadOn 38 = .ok (.getfield 93, 3) := by decide +kernel
theorem dX3_leadOn_41 : decode cX3_leadOn 41 = .ok (.istore 4, 2) := by decide +kernel
theorem dX3_leadOn_43 : decode cX3_leadOn 43 = .ok (.aload_n 3, 1) := by decide +kernel
theorem dX3_leadOn_44 : decode cX3_leadOn 44 = .ok (.iload_n 2, 1) := by decide +kernel
theorem dX3_leadOn_45 : decode cX3_leadOn 45 = .ok (.putfield 93, 3) := by decide +kernel
theorem dX3_leadOn_48 : decode cX3_leadOn 48 = .ok (.iload 4, 2) := by decide +kernel
theorem dX3_leadOn_50 : decode cX3_leadOn 50 = .ok (.ireturn, 1) := by decide +kernel
theorem dX3_pourJug_0 : decode cX3_pourJug 0 = .ok (.aload_n 0, 1) := by decide +kernel
theorem dX3_pourJug_1 : decode cX3_pourJug 1 = .ok (.iload_n 1, 1) := by decide +kernel
theorem dX3_pourJug_2 : decode cX3_pourJug 2 = .ok (.invokevirtual 85, 3) := by decide +kernel
theorem dX3_pourJug_5 : decode cX3_pourJug 5 = .ok (.astore_n 3, 1) := by decide +kernel
theorem dX3_pourJug_6 : decode cX3_pourJug 6 = .ok (.aload_n 3, 1) := by decide +kernel
theorem dX3_pourJug_7 : decode cX3_pourJug 7 = .ok (.ifnull 10, 3) := by decide +kernel
theorem dX3_pourJug_10 : decode cX3_pourJug 10 = .ok (.iload_n 2, 1) := by decide +kernel
theorem dX3_pourJug_11 : decode cX3_pourJug 11 = .ok (.invokestatic 96, 3) := by decide +kernel
theorem dX3_pourJug_14 : decode cX3_pourJug 14 = .ok (.ifCond .ne 6, 3) := by decide +kernel
theorem dX3_pourJug_17 : decode cX3_pourJug 17 = .ok (.ldc 75, 2) := by decide +kernel
theorem dX3_pourJug_19 : decode cX3_pourJug 19 = .ok (.ireturn, 1) := by decide +kernel
theorem dX3_pourJug_20 : decode cX3_pourJug 20 = .ok (.aload_n 0, 1) := by decide +kernel
theorem dX3_pourJug_21 : decode cX3_pourJug 21 = .ok (.aload_n 3, 1) := by decide +kernel
theorem dX3_pourJug_22 : decode cX3_pourJug 22 = .ok (.iload_n 2, 1) := by decide +kernel
theorem dX3_pourJug_23 : decode cX3_pourJug 23 = .ok (.invokevirtual 100, 3) := by decide +kernel
theorem dX3_pourJug_26 : decode cX3_pourJug 26 = .ok (.ifCond .eq 6, 3) := by decide +kernel
theorem dX3_pourJug_29 : decode cX3_pourJug 29 = .ok (.ldc 92, 2) := by decide +kernel
theorem dX3_pourJug_31 : decode cX3_pourJug 31 = .ok (.ireturn, 1) := by decide +kernel
theorem dX3_pourJug_32 : decode cX3_pourJug 32 = .ok (.getstatic 104, 3) := by decide +kernel
theorem dX3_pourJug_35 : decode cX3_pourJug 35 = .ok (.iload_n 2, 1) := by decide +kernel
theorem dX3_pourJug_36 : decode cX3_pourJug 36 = .ok (.invokestatic 108, 3) := by decide +kernel
theorem dX3_pourJug_39 : decode cX3_pourJug 39 = .ok (.istore 4, 2) := by decide +kernel
theorem dX3_pourJug_41 : decode cX3_pourJug 41 = .ok (.aload_n 0, 1) := by decide +kernel
theorem dX3_pourJug_42 : decode cX3_pourJug 42 = .ok (.dup, 1) := by decide +kernel
theorem dX3_pourJug_43 : decode cX3_pourJug 43 = .ok (.getfield 31, 3) := by decide +kernel
theorem dX3_pourJug_46 : decode cX3_pourJug 46 = .ok (.iload 4, 2) := by decide +kernel
theorem dX3_pourJug_48 : decode cX3_pourJug 48 = .ok (.isub, 1) := by decide +kernel
theorem dX3_pourJug_49 : decode cX3_pourJug 49 = .ok (.putfield 31, 3) := by decide +kernel
theorem dX3_pourJug_52 : decode cX3_pourJug 52 = .ok (.aload_n 0, 1) := by decide +kernel
theorem dX3_pourJug_53 : decode cX3_pourJug 53 = .ok (.dup, 1) := by decide +kernel
theorem dX3_pourJug_54 : decode cX3_pourJug 54 = .ok (.getfield 60, 3) := by decide +kernel
theorem dX3_pourJug_57 : decode cX3_pourJug 57 = .ok (.iload 4, 2) := by decide +kernel
theorem dX3_pourJug_59 : decode cX3_pourJug 59 = .ok (.iadd, 1) := by decide +kernel
theorem dX3_pourJug_60 : decode cX3_pourJug 60 = .ok (.putfield 60, 3) := by decide +kernel
theorem dX3_pourJug_63 : decode cX3_pourJug 63 = .ok (.aload_n 0, 1) := by decide +kernel
theorem dX3_pourJug_64 : decode cX3_pourJug 64 = .ok (.dup, 1) := by decide +kernel
theorem dX3_pourJug_65 : decode cX3_pourJug 65 = .ok (.getfield 63, 3) := by decide +kernel
theorem dX3_pourJug_68 : decode cX3_pourJug 68 = .ok (.iconst 1, 1) := by decide +kernel
theorem dX3_pourJug_69 : decode cX3_pourJug 69 = .ok (.iadd, 1) := by decide +kernel
theorem dX3_pourJug_70 : decode cX3_pourJug 70 = .ok (.putfield 63, 3) := by decide +kernel
theorem dX3_pourJug_73 : decode cX3_pourJug 73 = .ok (.aload_n 3, 1) := by decide +kernel
theorem dX3_pourJug_74 : decode cX3_pourJug 74 = .ok (.dup, 1) := by decide +kernel
theorem dX3_pourJug_75 : decode cX3_pourJug 75 = .ok (.getfield 112, 3) := by decide +kernel
theorem dX3_pourJug_78 : decode cX3_pourJug 78 = .ok (.iload 4, 2) := by decide +kernel
theorem dX3_pourJug_80 : decode cX3_pourJug 80 = .ok (.iadd, 1) := by decide +kernel
theorem dX3_pourJug_81 : decode cX3_pourJug 81 = .ok (.putfield 112, 3) := by decide +kernel
theorem dX3_pourJug_84 : decode cX3_pourJug 84 = .ok (.aload_n 0, 1) := by decide +kernel
theorem dX3_pourJug_85 : decode cX3_pourJug 85 = .ok (.aload_n 3, 1) := by decide +kernel
theorem dX3_pourJug_86 : decode cX3_pourJug 86 = .ok (.iload 4, 2) := by decide +kernel
theorem dX3_pourJug_88 : decode cX3_pourJug 88 = .ok (.invokevirtual 115, 3) := by decide +kernel
theorem dX3_pourJug_91 : decode cX3_pourJug 91 = .ok (.ireturn, 1) := by decide +kernel
theorem dX3_narrow_0 : decode cX3_narrow 0 = .ok (.aload_n 0, 1) := by decide +kernel
theorem dX3_narrow_1 : decode cX3_narrow 1 = .ok (.iload_n 1, 1) := by decide +kernel
theorem dX3_narrow_2 : decode cX3_narrow 2 = .ok (.invokevirtual 85, 3) := by decide +kernel
theorem dX3_narrow_5 : decode cX3_narrow 5 = .ok (.astore_n 3, 1) := by decide +kernel
theorem dX3_narrow_6 : decode cX3_narrow 6 = .ok (.aload_n 3, 1) := by decide +kernel
theorem dX3_narrow_7 : decode cX3_narrow 7 = .ok (.ifnull 14, 3) := by decide +kernel
theorem dX3_narrow_10 : decode cX3_narrow 10 = .ok (.iload_n 2, 1) := by decide +kernel
theorem dX3_narrow_11 : decode cX3_narrow 11 = .ok (.iconst 1, 1) := by decide +kernel
theorem dX3_narrow_12 : decode cX3_narrow 12 = .ok (.if_icmp .lt 9, 3) := by decide +kernel
theorem dX3_narrow_15 : decode cX3_narrow 15 = .ok (.iload_n 2, 1) := by decide +kernel
theorem dX3_narrow_16 : decode cX3_narrow 16 = .ok (.bipush 60, 2) := by decide +kernel
theorem dX3_narrow_18 : decode cX3_narrow 18 = .ok (.if_icmp .lt 6, 3) := by decide +kernel
theorem dX3_narrow_21 : decode cX3_narrow 21 = .ok (.ldc 75, 2) := by decide +kernel
theorem dX3_narrow_23 : decode cX3_narrow 23 = .ok (.ireturn, 1) := by decide +kernel
theorem dX3_narrow_24 : decode cX3_narrow 24 = .ok (.aload_n 3, 1) := by decide +kernel
theorem dX3_narrow_25 : decode cX3_narrow 25 = .ok (.getfield 118, 3) := by decide +kernel
theorem dX3_narrow_28 : decode cX3_narrow 28 = .ok (.iload_n 2, 1) := by decide +kernel
theorem dX3_narrow_29 : decode cX3_narrow 29 = .ok (.isub, 1) := by decide +kernel
theorem dX3_narrow_30 : decode cX3_narrow 30 = .ok (.iconst 1, 1) := by decide +kernel
theorem dX3_narrow_31 : decode cX3_narrow 31 = .ok (.if_icmp .ge 6, 3) := by decide +kernel
theorem dX3_narrow_34 : decode cX3_narrow 34 = .ok (.ldc 92, 2) := by decide +kernel
theorem dX3_narrow_36 : decode cX3_narrow 36 = .ok (.ireturn, 1) := by decide +kernel
theorem dX3_narrow_37 : decode cX3_narrow 37 = .ok (.aload_n 3, 1) := by decide +kernel
theorem dX3_narrow_38 : decode cX3_narrow 38 = .ok (.dup, 1) := by decide +kernel
theorem dX3_narrow_39 : decode cX3_narrow 39 = .ok (.getfield 118, 3) := by decide +kernel
theorem dX3_narrow_42 : decode cX3_narrow 42 = .ok (.iload_n 2, 1) := by decide +kernel
theorem dX3_narrow_43 : decode cX3_narrow 43 = .ok (.isub, 1) := by decide +kernel
theorem dX3_narrow_44 : decode cX3_narrow 44 = .ok (.putfield 118, 3) := by decide +kernel
theorem dX3_narrow_47 : decode cX3_narrow 47 = .ok (.aload_n 3, 1) := by decide +kernel
theorem dX3_narrow_48 : decode cX3_narrow 48 = .ok (.getfield 118, 3) := by decide +kernel
theorem dX3_narrow_51 : decode cX3_narrow 51 = .ok (.ireturn, 1) := by decide +kernel
theorem dX3_changePitch_0 : decode cX3_changePitch 0 = .ok (.aload_n 0, 1) := by decide +kernel
theorem dX3_changePitch_1 : decode cX3_changePitch 1 = .ok (.iload_n 1, 1) := by decide +kernel
theorem dX3_changePitch_2 : decode cX3_changePitch 2 = .ok (.invokevirtual 85, 3) := by decide +kernel
theorem dX3_changePitch_5 : decode cX3_changePitch 5 = .ok (.astore_n 3, 1) := by decide +kernel
theorem dX3_changePitch_6 : decode cX3_changePitch 6 = .ok (.aload_n 3, 1) := by decide +kernel
theorem dX3_changePitch_7 : decode cX3_changePitch 7 = .ok (.ifnull 15, 3) := by decide +kernel
theorem dX3_changePitch_10 : decode cX3_changePitch 10 = .ok (.iload_n 2, 1) := by decide +kernel
theorem dX3_changePitch_11 : decode cX3_changePitch 11 = .ok (.iconst 1, 1) := by decide +kernel
theorem dX3_changePitch_12 : decode cX3_changePitch 12 = .ok (.if_icmp .lt 10, 3) := by decide +kernel
theorem dX3_changePitch_15 : decode cX3_changePitch 15 = .ok (.iload_n 2, 1) := by decide +kernel
theorem dX3_changePitch_16 : decode cX3_changePitch 16 = .ok (.sipush 500, 3) := by decide +kernel
theorem dX3_changePitch_19 : decode cX3_changePitch 19 = .ok (.if_icmp .le 6, 3) := by decide +kernel
theorem dX3_changePitch_22 : decode cX3_changePitch 22 = .ok (.ldc 75, 2) := by decide +kernel
theorem dX3_changePitch_24 : decode cX3_changePitch 24 = .ok (.ireturn, 1) := by decide +kernel
theorem dX3_changePitch_25 : decode cX3_changePitch 25 = .ok (.aload_n 3, 1) := by decide +kernel
theorem dX3_changePitch_26 : decode cX3_changePitch 26 = .ok (.getfield 121, 3) := by decide +kernel
theorem dX3_changePitch_29 : decode cX3_changePitch 29 = .ok (.istore 4, 2) := by decide +kernel
theorem dX3_changePitch_31 : decode cX3_changePitch 31 = .ok (.aload_n 3, 1) := by decide +kernel
theorem dX3_changePitch_32 : decode cX3_changePitch 32 = .ok (.iload_n 2, 1) := by decide +kernel
theorem dX3_changePitch_33 : decode cX3_changePitch 33 = .ok (.putfield 121, 3) := by decide +kernel
theorem dX3_changePitch_36 : decode cX3_changePitch 36 = .ok (.aload_n 3, 1) := by decide +kernel
theorem dX3_changePitch_37 : decode cX3_changePitch 37 = .ok (.aload_n 0, 1) := by decide +kernel
theorem dX3_changePitch_38 : decode cX3_changePitch 38 = .ok (.invokevirtual 77, 3) := by decide +kernel
theorem dX3_changePitch_41 : decode cX3_changePitch 41 = .ok (.invokevirtual 124, 3) := by decide +kernel
theorem dX3_changePitch_44 : decode cX3_changePitch 44 = .ok (.iload 4, 2) := by decide +kernel
theorem dX3_changePitch_46 : decode cX3_changePitch 46 = .ok (.ireturn, 1) := by decide +kernel
theorem dX3_trueClock_0 : decode cX3_trueClock 0 = .ok (.aload_n 0, 1) := by decide +kernel
theorem dX3_trueClock_1 : decode cX3_trueClock 1 = .ok (.iload_n 1, 1) := by decide +kernel
theorem dX3_trueClock_2 : decode cX3_trueClock 2 = .ok (.invokevirtual 85, 3) := by decide +kernel
theorem dX3_trueClock_5 : decode cX3_trueClock 5 = .ok (.astore_n 2, 1) := by decide +kernel
theorem dX3_trueClock_6 : decode cX3_trueClock 6 = .ok (.aload_n 2, 1) := by decide +kernel
theorem dX3_trueClock_7 : decode cX3_trueClock 7 = .ok (.ifnonnull 6, 3) := by decide +kernel
theorem dX3_trueClock_10 : decode cX3_trueClock 10 = .ok (.ldc 75, 2) := by decide +kernel
theorem dX3_trueClock_12 : decode cX3_trueClock 12 = .ok (.ireturn, 1) := by decide +kernel
theorem dX3_trueClock_13 : decode cX3_trueClock 13 = .ok (.aload_n 0, 1) := by decide +kernel
theorem dX3_trueClock_14 : decode cX3_trueClock 14 = .ok (.aload_n 2, 1) := by decide +kernel
theorem dX3_trueClock_15 : decode cX3_trueClock 15 = .ok (.invokevirtual 127, 3) := by decide +kernel
theorem dX3_trueClock_18 : decode cX3_trueClock 18 = .ok (.istore_n 3, 1) := by decide +kernel
theorem dX3_trueClock_19 : decode cX3_trueClock 19 = .ok (.aload_n 2, 1) := by decide +kernel
theorem dX3_trueClock_20 : decode cX3_trueClock 20 = .ok (.aload_n 0, 1) := by decide +kernel
theorem dX3_trueClock_21 : decode cX3_trueClock 21 = .ok (.invokevirtual 77, 3) := by decide +kernel
theorem dX3_trueClock_24 : decode cX3_trueClock 24 = .ok (.invokevirtual 124, 3) := by decide +kernel
theorem dX3_trueClock_27 : decode cX3_trueClock 27 = .ok (.iload_n 3, 1) := by decide +kernel
theorem dX3_trueClock_28 : decode cX3_trueClock 28 = .ok (.sipush 10000, 3) := by decide +kernel
theorem dX3_trueClock_31 : decode cX3_trueClock 31 = .ok (.iadd, 1) := by decide +kernel
theorem dX3_trueClock_32 : decode cX3_trueClock 32 = .ok (.ireturn, 1) := by decide +kernel
theorem dX3_passTicks_0 : decode cX3_passTicks 0 = .ok (.iload_n 1, 1) := by decide +kernel
theorem dX3_passTicks_1 : decode cX3_passTicks 1 = .ok (.iconst 1, 1) := by decide +kernel
theorem dX3_passTicks_2 : decode cX3_passTicks 2 = .ok (.if_icmp .lt 10, 3) := by decide +kernel
theorem dX3_passTicks_5 : decode cX3_passTicks 5 = .ok (.iload_n 1, 1) := by decide +kernel
theorem dX3_passTicks_6 : decode cX3_passTicks 6 = .ok (.sipush 999, 3) := by decide +kernel
theorem dX3_passTicks_9 : decode cX3_passTicks 9 = .ok (.if_icmp .le 6, 3) := by decide +kernel
theorem dX3_passTicks_12 : decode cX3_passTicks 12 = .ok (.ldc 75, 2) := by decide +kernel
theorem dX3_passTicks_14 : decode cX3_passTicks 14 = .ok (.ireturn, 1) := by decide +kernel
theorem dX3_passTicks_15 : decode cX3_passTicks 15 = .ok (.aload_n 0, 1) := by decide +kernel
theorem dX3_passTicks_16 : decode cX3_passTicks 16 = .ok (.getfield 51, 3) := by decide +kernel
theorem dX3_passTicks_19 : decode cX3_passTicks 19 = .ok (.iload_n 1, 1) := by decide +kernel
theorem dX3_passTicks_20 : decode cX3_passTicks 20 = .ok (.iadd, 1) := by decide +kernel
theorem dX3_passTicks_21 : decode cX3_passTicks 21 = .ok (.ldc 131, 2) := by decide +kernel
theorem dX3_passTicks_23 : decode cX3_passTicks 23 = .ok (.if_icmp .le 6, 3) := by decide +kernel
theorem dX3_passTicks_26 : decode cX3_passTicks 26 = .ok (.ldc 76, 2) := by decide +kernel
theorem dX3_passTicks_28 : decode cX3_passTicks 28 = .ok (.ireturn, 1) := by decide +kernel
theorem dX3_passTicks_29 : decode cX3_passTicks 29 = .ok (.iconst 0, 1) := by decide +kernel
theorem dX3_passTicks_30 : decode cX3_passTicks 30 = .ok (.istore_n 2, 1) := by decide +kernel
theorem dX3_passTicks_31 : decode cX3_passTicks 31 = .ok (.iconst 0, 1) := by decide +kernel
theorem dX3_passTicks_32 : decode cX3_passTicks 32 = .ok (.istore_n 3, 1) := by decide +kernel
theorem dX3_passTicks_33 : decode cX3_passTicks 33 = .ok (.iload_n 3, 1) := by decide +kernel
theorem dX3_passTicks_34 : decode cX3_passTicks 34 = .ok (.iload_n 1, 1) := by decide +kernel
theorem dX3_passTicks_35 : decode cX3_passTicks 35 = .ok (.if_icmp .ge 43, 3) := by decide +kernel
theorem dX3_passTicks_38 : decode cX3_passTicks 38 = .ok (.iload_n 2, 1) := by decide +kernel
theorem dX3_passTicks_39 : decode cX3_passTicks 39 = .ok (.aload_n 0, 1) := by decide +kernel
theorem dX3_passTicks_40 : decode cX3_passTicks 40 = .ok (.aload_n 0, 1) := by decide +kernel
theorem dX3_passTicks_41 : decode cX3_passTicks 41 = .ok (.getfield 48, 3) := by decide +kernel
theorem dX3_passTicks_44 : decode cX3_passTicks 44 = .ok (.iconst 1, 1) := by decide +kernel
theorem dX3_passTicks_45 : decode cX3_passTicks 45 = .ok (.isub, 1) := by decide +kernel
theorem dX3_passTicks_46 : decode cX3_passTicks 46 = .ok (.invokevirtual 132, 3) := by decide +kernel
theorem dX3_passTicks_49 : decode cX3_passTicks 49 = .ok (.iadd, 1) := by decide +kernel
theorem dX3_passTicks_50 : decode cX3_passTicks 50 = .ok (.istore_n 2, 1) := by decide +kernel
theorem dX3_passTicks_51 : decode cX3_passTicks 51 = .ok (.aload_n 0, 1) := by decide +kernel
theorem dX3_passTicks_52 : decode cX3_passTicks 52 = .ok (.dup, 1) := by decide +kernel
theorem dX3_passTicks_53 : decode cX3_passTicks 53 = .ok (.getfield 51, 3) := by decide +kernel
theorem dX3_passTicks_56 : decode cX3_passTicks 56 = .ok (.iconst 1, 1) := by decide +kernel
theorem dX3_passTicks_57 : decode cX3_passTicks 57 = .ok (.iadd, 1) := by decide +kernel
theorem dX3_passTicks_58 : decode cX3_passTicks 58 = .ok (.putfield 51, 3) := by decide +kernel
theorem dX3_passTicks_61 : decode cX3_passTicks 61 = .ok (.aload_n 0, 1) := by decide +kernel
theorem dX3_passTicks_62 : decode cX3_passTicks 62 = .ok (.invokevirtual 136, 3) := by decide +kernel
theorem dX3_passTicks_65 : decode cX3_passTicks 65 = .ok (.ifCond .eq 7, 3) := by decide +kernel
theorem dX3_passTicks_68 : decode cX3_passTicks 68 = .ok (.aload_n 0, 1) := by decide +kernel
theorem dX3_passTicks_69 : decode cX3_passTicks 69 = .ok (.invokevirtual 140, 3) := by decide +kernel
theorem dX3_passTicks_72 : decode cX3_passTicks 72 = .ok (.iinc 3 1, 3) := by decide +kernel
theorem dX3_passTicks_75 : decode cX3_passTicks 75 = .ok (.goto (-42), 3) := by decide +kernel
theorem dX3_passTicks_78 : decode cX3_passTicks 78 = .ok (.iload_n 2, 1) := by decide +kernel
theorem dX3_passTicks_79 : decode cX3_passTicks 79 = .ok (.ireturn, 1) := by decide +kernel
theorem dX3_changeSetting_0 : decode cX3_changeSetting 0 = .ok (.iload_n 1, 1) := by decide +kernel
theorem dX3_changeSetting_1 : decode cX3_changeSetting 1 = .ok (.iload_n 2, 1) := by decide +kernel
theorem dX3_changeSetting_2 : decode cX3_changeSetting 2 = .ok (.invokestatic 143, 3) := by decide +kernel
theorem dX3_changeSetting_5 : decode cX3_changeSetting 5 = .ok (.ifCond .ne 6, 3) := by decide +kernel
theorem dX3_changeSetting_8 : decode cX3_changeSetting 8 = .ok (.ldc 75, 2) := by decide +kernel
theorem dX3_changeSetting_10 : decode cX3_changeSetting 10 = .ok (.ireturn, 1) := by decide +kernel
theorem dX3_changeSetting_11 : decode cX3_changeSetting 11 = .ok (.aload_n 0, 1) := by decide +kernel
theorem dX3_changeSetting_12 : decode cX3_changeSetting 12 = .ok (.getfield 20, 3) := by decide +kernel
theorem dX3_changeSetting_15 : decode cX3_changeSetting 15 = .ok (.iload_n 1, 1) := by decide +kernel
theorem dX3_changeSetting_16 : decode cX3_changeSetting 16 = .ok (.invokevirtual 147, 3) := by decide +kernel
theorem dX3_changeSetting_19 : decode cX3_changeSetting 19 = .ok (.istore_n 3, 1) := by decide +kernel
theorem dX3_changeSetting_20 : decode cX3_changeSetting 20 = .ok (.aload_n 0, 1) := by decide +kernel
theorem dX3_changeSetting_21 : decode cX3_changeSetting 21 = .ok (.getfield 20, 3) := by decide +kernel
theorem dX3_changeSetting_24 : decode cX3_changeSetting 24 = .ok (.iload_n 1, 1) := by decide +kernel
theorem dX3_changeSetting_25 : decode cX3_changeSetting 25 = .ok (.iload_n 2, 1) := by decide +kernel
theorem dX3_changeSetting_26 : decode cX3_changeSetting 26 = .ok (.invokevirtual 150, 3) := by decide +kernel
theorem dX3_changeSetting_29 : decode cX3_changeSetting 29 = .ok (.iload_n 3, 1) := by decide +kernel
theorem dX3_changeSetting_30 : decode cX3_changeSetting 30 = .ok (.ireturn, 1) := by decide +kernel
theorem dX3_drip_0 : decode cX3_drip 0 = .ok (.iconst 0, 1) := by decide +kernel
theorem dX3_drip_1 : decode cX3_drip 1 = .ok (.istore_n 2, 1) := by decide +kernel
theorem dX3_drip_2 : decode cX3_drip 2 = .ok (.iconst 0, 1) := by decide +kernel
theorem dX3_drip_3 : decode cX3_drip 3 = .ok (.istore_n 3, 1) := by decide +kernel
theorem dX3_drip_4 : decode cX3_drip 4 = .ok (.iload_n 3, 1) := by decide +kernel
theorem dX3_drip_5 : decode cX3_drip 5 = .ok (.iload_n 1, 1) := by decide +kernel
theorem dX3_drip_6 : decode cX3_drip 6 = .ok (.if_icmp .gt 39, 3) := by decide +kernel
theorem dX3_drip_9 : decode cX3_drip 9 = .ok (.iload_n 3, 1) := by decide +kernel
theorem dX3_drip_10 : decode cX3_drip 10 = .ok (.aload_n 0, 1) := by decide +kernel
theorem dX3_drip_11 : decode cX3_drip 11 = .ok (.getfield 48, 3) := by decide +kernel
theorem dX3_drip_14 : decode cX3_drip 14 = .ok (.if_icmp .ge 31, 3) := by decide +kernel
theorem dX3_drip_17 : decode cX3_drip 17 = .ok (.iload_n 3, 1) := by decide +kernel
theorem dX3_drip_18 : decode cX3_drip 18 = .ok (.aload_n 0, 1) := by decide +kernel
theorem dX3_drip_19 : decode cX3_drip 19 = .ok (.getfield 11, 3) := by decide +kernel
theorem dX3_drip_22 : decode cX3_drip 22 = .ok (.arraylength, 1) := by decide +kernel
theorem dX3_drip_23 : decode cX3_drip 23 = .ok (.if_icmp .ge 22, 3) := by decide +kernel
theorem dX3_drip_26 : decode cX3_drip 26 = .ok (.iload_n 2, 1) := by decide +kernel
theorem dX3_drip_27 : decode cX3_drip 27 = .ok (.aload_n 0, 1) := by decide +kernel
theorem dX3_drip_28 : decode cX3_drip 28 = .ok (.aload_n 0, 1) := by decide +kernel
theorem dX3_drip_29 : decode cX3_drip 29 = .ok (.getfield 11, 3) := by decide +kernel
theorem dX3_drip_32 : decode cX3_drip 32 = .ok (.iload_n 3, 1) := by decide +kernel
theorem dX3_drip_33 : decode cX3_drip 33 = .ok (.aaload, 1) := by decide +kernel
theorem dX3_drip_34 : decode cX3_drip 34 = .ok (.invokevirtual 154, 3) := by decide +kernel
theorem dX3_drip_37 : decode cX3_drip 37 = .ok (.iadd, 1) := by decide +kernel
theorem dX3_drip_38 : decode cX3_drip 38 = .ok (.istore_n 2, 1) := by decide +kernel
theorem dX3_drip_39 : decode cX3_drip 39 = .ok (.iinc 3 1, 3) := by decide +kernel
theorem dX3_drip_42 : decode cX3_drip 42 = .ok (.goto (-38), 3) := by decide +kernel
theorem dX3_drip_45 : decode cX3_drip 45 = .ok (.iload_n 2, 1) := by decide +kernel
theorem dX3_drip_46 : decode cX3_drip 46 = .ok (.ireturn, 1) := by decide +kernel
theorem dX3_dripOf_0 : decode cX3_dripOf 0 = .ok (.aload_n 1, 1) := by decide +kernel
theorem dX3_dripOf_1 : decode cX3_dripOf 1 = .ok (.invokevirtual 157, 3) := by decide +kernel
theorem dX3_dripOf_4 : decode cX3_dripOf 4 = .ok (.istore_n 2, 1) := by decide +kernel
theorem dX3_dripOf_5 : decode cX3_dripOf 5 = .ok (.aload_n 0, 1) := by decide +kernel
theorem dX3_dripOf_6 : decode cX3_dripOf 6 = .ok (.dup, 1) := by decide +kernel
theorem dX3_dripOf_7 : decode cX3_dripOf 7 = .ok (.getfield 66, 3) := by decide +kernel
theorem dX3_dripOf_10 : decode cX3_dripOf 10 = .ok (.iload_n 2, 1) := by decide +kernel
theorem dX3_dripOf_11 : decode cX3_dripOf 11 = .ok (.iadd, 1) := by decide +kernel
theorem dX3_dripOf_12 : decode cX3_dripOf 12 = .ok (.putfield 66, 3) := by decide +kernel
theorem dX3_dripOf_15 : decode cX3_dripOf 15 = .ok (.aload_n 1, 1) := by decide +kernel
theorem dX3_dripOf_16 : decode cX3_dripOf 16 = .ok (.getfield 89, 3) := by decide +kernel
theorem dX3_dripOf_19 : decode cX3_dripOf 19 = .ok (.ifCond .ne 12, 3) := by decide +kernel
theorem dX3_dripOf_22 : decode cX3_dripOf 22 = .ok (.aload_n 0, 1) := by decide +kernel
theorem dX3_dripOf_23 : decode cX3_dripOf 23 = .ok (.aload_n 1, 1) := by decide +kernel
theorem dX3_dripOf_24 : decode cX3_dripOf 24 = .ok (.iload_n 2, 1) := by decide +kernel
theorem dX3_dripOf_25 : decode cX3_dripOf 25 = .ok (.invokevirtual 160, 3) := by decide +kernel
theorem dX3_dripOf_28 : decode cX3_dripOf 28 = .ok (.goto 69, 3) := by decide +kernel
theorem dX3_dripOf_31 : decode cX3_dripOf 31 = .ok (.aload_n 1, 1) := by decide +kernel
theorem dX3_dripOf_32 : decode cX3_dripOf 32 = .ok (.getfield 89, 3) := by decide +kernel
theorem dX3_dripOf_35 : decode cX3_dripOf 35 = .ok (.iconst 1, 1) := by decide +kernel
theorem dX3_dripOf_36 : decode cX3_dripOf 36 = .ok (.if_icmp .ne 41, 3) := by decide +kernel
theorem dX3_dripOf_39 : decode cX3_dripOf 39 = .ok (.iload_n 2, 1) := by decide +kernel
theorem dX3_dripOf_40 : decode cX3_dripOf 40 = .ok (.aload_n 0, 1) := by decide +kernel
theorem dX3_dripOf_41 : decode cX3_dripOf 41 = .ok (.aload_n 1, 1) := by decide +kernel
theorem dX3_dripOf_42 : decode cX3_dripOf 42 = .ok (.getfield 164, 3) := by decide +kernel
theorem dX3_dripOf_45 : decode cX3_dripOf 45 = .ok (.invokevirtual 167, 3) := by decide +kernel
theorem dX3_dripOf_48 : decode cX3_dripOf 48 = .ok (.invokestatic 170, 3) := by decide +kernel
theorem dX3_dripOf_51 : decode cX3_dripOf 51 = .ok (.istore_n 3, 1) := by decide +kernel
theorem dX3_dripOf_52 : decode cX3_dripOf 52 = .ok (.aload_n 1, 1) := by decide +kernel
theorem dX3_dripOf_53 : decode cX3_dripOf 53 = .ok (.dup, 1) := by decide +kernel
theorem dX3_dripOf_54 : decode cX3_dripOf 54 = .ok (.getfield 164, 3) := by decide +kernel
theorem dX3_dripOf_57 : decode cX3_dripOf 57 = .ok (.iload_n 3, 1) := by decide +kernel
theorem dX3_dripOf_58 : decode cX3_dripOf 58 = .ok (.iadd, 1) := by decide +kernel
theorem dX3_dripOf_59 : decode cX3_dripOf 59 = .ok (.putfield 164, 3) := by decide +kernel
theorem dX3_dripOf_62 : decode cX3_dripOf 62 = .ok (.aload_n 0, 1) := by decide +kernel
theorem dX3_dripOf_63 : decode cX3_dripOf 63 = .ok (.dup, 1) := by decide +kernel
theorem dX3_dripOf_64 : decode cX3_dripOf 64 = .ok (.getfield 57, 3) := by decide +kernel
theorem dX3_dripOf_67 : decode cX3_dripOf 67 = .ok (.iload_n 2, 1) := by decide +kernel
theorem dX3_dripOf_68 : decode cX3_dripOf 68 = .ok (.iload_n 3, 1) := by decide +kernel
theorem dX3_dripOf_69 : decode cX3_dripOf 69 = .ok (.isub, 1) := by decide +kernel
theorem dX3_dripOf_70 : decode cX3_dripOf 70 = .ok (.iadd, 1) := by decide +kernel
theorem dX3_dripOf_71 : decode cX3_dripOf 71 = .ok (.putfield 57, 3) := by decide +kernel
theorem dX3_dripOf_74 : decode cX3_dripOf 74 = .ok (.goto 23, 3) := by decide +kernel
theorem dX3_dripOf_77 : decode cX3_dripOf 77 = .ok (.aload_n 1, 1) := by decide +kernel
theorem dX3_dripOf_78 : decode cX3_dripOf 78 = .ok (.dup, 1) := by decide +kernel
theorem dX3_dripOf_79 : decode cX3_dripOf 79 = .ok (.getfield 164, 3) := by decide +kernel
theorem dX3_dripOf_82 : decode cX3_dripOf 82 = .ok (.iload_n 2, 1) := by decide +kernel
theorem dX3_dripOf_83 : decode cX3_dripOf 83 = .ok (.iadd, 1) := by decide +kernel
theorem dX3_dripOf_84 : decode cX3_dripOf 84 = .ok (.putfield 164, 3) := by decide +kernel
theorem dX3_dripOf_87 : decode cX3_dripOf 87 = .ok (.aload_n 0, 1) := by decide +kernel
theorem dX3_dripOf_88 : decode cX3_dripOf 88 = .ok (.aload_n 1, 1) := by decide +kernel
theorem dX3_dripOf_89 : decode cX3_dripOf 89 = .ok (.aload_n 0, 1) := by decide +kernel
theorem dX3_dripOf_90 : decode cX3_dripOf 90 = .ok (.aload_n 1, 1) := by decide +kernel
theorem dX3_dripOf_91 : decode cX3_dripOf 91 = .ok (.invokevirtual 176, 3) := by decide +kernel
theorem dX3_dripOf_94 : decode cX3_dripOf 94 = .ok (.invokevirtual 160, 3) := by decide +kernel
theorem dX3_dripOf_97 : decode cX3_dripOf 97 = .ok (.aload_n 1, 1) := by decide +kernel
theorem dX3_dripOf_98 : decode cX3_dripOf 98 = .ok (.aload_n 0, 1) := by decide +kernel
theorem dX3_dripOf_99 : decode cX3_dripOf 99 = .ok (.getfield 20, 3) := by decide +kernel
theorem dX3_dripOf_102 : decode cX3_dripOf 102 = .ok (.getfield 179, 3) := by decide +kernel
theorem dX3_dripOf_105 : decode cX3_dripOf 105 = .ok (.invokevirtual 182, 3) := by decide +kernel
theorem dX3_dripOf_108 : decode cX3_dripOf 108 = .ok (.iload_n 2, 1) := by decide +kernel
theorem dX3_dripOf_109 : decode cX3_dripOf 109 = .ok (.ireturn, 1) := by decide +kernel
theorem dX3_strokeOf_0 : decode cX3_strokeOf 0 = .ok (.aload_n 1, 1) := by decide +kernel
theorem dX3_strokeOf_1 : decode cX3_strokeOf 1 = .ok (.getfield 164, 3) := by decide +kernel
theorem dX3_strokeOf_4 : decode cX3_strokeOf 4 = .ok (.aload_n 0, 1) := by decide +kernel
theorem dX3_strokeOf_5 : decode cX3_strokeOf 5 = .ok (.getfield 20, 3) := by decide +kernel
theorem dX3_strokeOf_8 : decode cX3_strokeOf 8 = .ok (.getfield 185, 3) := by decide +kernel
theorem dX3_strokeOf_11 : decode cX3_strokeOf 11 = .ok (.if_icmp .ge 5, 3) := by decide +kernel
theorem dX3_strokeOf_14 : decode cX3_strokeOf 14 = .ok (.iconst 0, 1) := by decide +kernel
theorem dX3_strokeOf_15 : decode cX3_strokeOf 15 = .ok (.ireturn, 1) := by decide +kernel
theorem dX3_strokeOf_16 : decode cX3_strokeOf 16 = .ok (.aload_n 1, 1) := by decide +kernel
theorem dX3_strokeOf_17 : decode cX3_strokeOf 17 = .ok (.getfield 164, 3) := by decide +kernel
theorem dX3_strokeOf_20 : decode cX3_strokeOf 20 = .ok (.istore_n 2, 1) := by decide +kernel
theorem dX3_strokeOf_21 : decode cX3_strokeOf 21 = .ok (.aload_n 1, 1) := by decide +kernel
theorem dX3_strokeOf_22 : decode cX3_strokeOf 22 = .ok (.iconst 0, 1) := by decide +kernel
theorem dX3_strokeOf_23 : decode cX3_strokeOf 23 = .ok (.putfield 164, 3) := by decide +kernel
theorem dX3_strokeOf_26 : decode cX3_strokeOf 26 = .ok (.aload_n 1, 1) := by decide +kernel
theorem dX3_strokeOf_27 : decode cX3_strokeOf 27 = .ok (.dup, 1) := by decide +kernel
theorem dX3_strokeOf_28 : decode cX3_strokeOf 28 = .ok (.getfield 188, 3) := by decide +kernel
theorem dX3_strokeOf_31 : decode cX3_strokeOf 31 = .ok (.iconst 1, 1) := by decide +kernel
theorem dX3_strokeOf_32 : decode cX3_strokeOf 32 = .ok (.iadd, 1) := by decide +kernel
theorem dX3_strokeOf_33 : decode cX3_strokeOf 33 = .ok (.putfield 188, 3) := by decide +kernel
theorem dX3_strokeOf_36 : decode cX3_strokeOf 36 = .ok (.aload_n 1, 1) := by decide +kernel
theorem dX3_strokeOf_37 : decode cX3_strokeOf 37 = .ok (.dup, 1) := by decide +kernel
theorem dX3_strokeOf_38 : decode cX3_strokeOf 38 = .ok (.getfield 191, 3) := by decide +kernel
theorem dX3_strokeOf_41 : decode cX3_strokeOf 41 = .ok (.aload_n 0, 1) := by decide +kernel
theorem dX3_strokeOf_42 : decode cX3_strokeOf 42 = .ok (.getfield 20, 3) := by decide +kernel
theorem dX3_strokeOf_45 : decode cX3_strokeOf 45 = .ok (.getfield 185, 3) := by decide +kernel
theorem dX3_strokeOf_48 : decode cX3_strokeOf 48 = .ok (.iadd, 1) := by decide +kernel
theorem dX3_strokeOf_49 : decode cX3_strokeOf 49 = .ok (.putfield 191, 3) := by decide +kernel
theorem dX3_strokeOf_52 : decode cX3_strokeOf 52 = .ok (.aload_n 0, 1) := by decide +kernel
theorem dX3_strokeOf_53 : decode cX3_strokeOf 53 = .ok (.dup, 1) := by decide +kernel
theorem dX3_strokeOf_54 : decode cX3_strokeOf 54 = .ok (.getfield 72, 3) := by decide +kernel
theorem dX3_strokeOf_57 : decode cX3_strokeOf 57 = .ok (.iload_n 2, 1) := by decide +kernel
theorem dX3_strokeOf_58 : decode cX3_strokeOf 58 = .ok (.iadd, 1) := by decide +kernel
theorem dX3_strokeOf_59 : decode cX3_strokeOf 59 = .ok (.putfield 72, 3) := by decide +kernel
theorem dX3_strokeOf_62 : decode cX3_strokeOf 62 = .ok (.iload_n 2, 1) := by decide +kernel
theorem dX3_strokeOf_63 : decode cX3_strokeOf 63 = .ok (.ireturn, 1) := by decide +kernel
theorem dX3_goOn_0 : decode cX3_goOn 0 = .ok (.aload_n 1, 1) := by decide +kernel
theorem dX3_goOn_1 : decode cX3_goOn 1 = .ok (.getfield 93, 3) := by decide +kernel
theorem dX3_goOn_4 : decode cX3_goOn 4 = .ok (.aload_n 1, 1) := by decide +kernel
theorem dX3_goOn_5 : decode cX3_goOn 5 = .ok (.getfield 194, 3) := by decide +kernel
theorem dX3_goOn_8 : decode cX3_goOn 8 = .ok (.if_icmp .ne 7, 3) := by decide +kernel
theorem dX3_goOn_11 : decode cX3_goOn 11 = .ok (.aconst_null, 1) := by decide +kernel
theorem dX3_goOn_12 : decode cX3_goOn 12 = .ok (.goto 11, 3) := by decide +kernel
theorem dX3_goOn_15 : decode cX3_goOn 15 = .ok (.aload_n 0, 1) := by decide +kernel
theorem dX3_goOn_16 : decode cX3_goOn 16 = .ok (.aload_n 1, 1) := by decide +kernel
theorem dX3_goOn_17 : decode cX3_goOn 17 = .ok (.getfield 93, 3) := by decide +kernel
theorem dX3_goOn_20 : decode cX3_goOn 20 = .ok (.invokevirtual 85, 3) := by decide +kernel
theorem dX3_goOn_23 : decode cX3_goOn 23 = .ok (.astore_n 3, 1) := by decide +kernel
theorem dX3_goOn_24 : decode cX3_goOn 24 = .ok (.aload_n 3, 1) := by decide +kernel
theorem dX3_goOn_25 : decode cX3_goOn 25 = .ok (.ifnonnull 16, 3) := by decide +kernel
theorem dX3_goOn_28 : decode cX3_goOn 28 = .ok (.aload_n 0, 1) := by decide +kernel
theorem dX3_goOn_29 : decode cX3_goOn 29 = .ok (.dup, 1) := by decide +kernel
theorem dX3_goOn_30 : decode cX3_goOn 30 = .ok (.getfield 54, 3) := by decide +kernel
theorem dX3_goOn_33 : decode cX3_goOn 33 = .ok (.iload_n 2, 1) := by decide +kernel
theorem dX3_goOn_34 : decode cX3_goOn 34 = .ok (.iadd, 1) := by decide +kernel
theorem dX3_goOn_35 : decode cX3_goOn 35 = .ok (.putfield 54, 3) := by decide +kernel
theorem dX3_goOn_38 : decode cX3_goOn 38 = .ok (.goto 10, 3) := by decide +kernel
theorem dX3_goOn_41 : decode cX3_goOn 41 = .ok (.aload_n 0, 1) := by decide +kernel
theorem dX3_goOn_42 : decode cX3_goOn 42 = .ok (.aload_n 3, 1) := by decide +kernel
theorem dX3_goOn_43 : decode cX3_goOn 43 = .ok (.iload_n 2, 1) := by decide +kernel
theorem dX3_goOn_44 : decode cX3_goOn 44 = .ok (.invokevirtual 115, 3) := by decide +kernel
theorem dX3_goOn_47 : decode cX3_goOn 47 = .ok (.pop, 1) := by decide +kernel
theorem dX3_goOn_48 : decode cX3_goOn 48 = .ok (.return_, 1) := by decide +kernel
theorem dX3_enterUpper_0 : decode cX3_enterUpper 0 = .ok (.iload_n 2, 1) := by decide +kernel
theorem dX3_enterUpper_1 : decode cX3_enterUpper 1 = .ok (.aload_n 0, 1) := by decide +kernel
theorem dX3_enterUpper_2 : decode cX3_enterUpper 2 = .ok (.aload_n 1, 1) := by decide +kernel
theorem dX3_enterUpper_3 : decode cX3_enterUpper 3 = .ok (.getfield 197, 3) := by decide +kernel
theorem dX3_enterUpper_6 : decode cX3_enterUpper 6 = .ok (.invokevirtual 167, 3) := by decide +kernel
theorem dX3_enterUpper_9 : decode cX3_enterUpper 9 = .ok (.invokestatic 170, 3) := by decide +kernel
theorem dX3_enterUpper_12 : decode cX3_enterUpper 12 = .ok (.istore_n 3, 1) := by decide +kernel
theorem dX3_enterUpper_13 : decode cX3_enterUpper 13 = .ok (.aload_n 1, 1) := by decide +kernel
theorem dX3_enterUpper_14 : decode cX3_enterUpper 14 = .ok (.dup, 1) := by decide +kernel
theorem dX3_enterUpper_15 : decode cX3_enterUpper 15 = .ok (.getfield 197, 3) := by decide +kernel
theorem dX3_enterUpper_18 : decode cX3_enterUpper 18 = .ok (.iload_n 3, 1) := by decide +kernel
theorem dX3_enterUpper_19 : decode cX3_enterUpper 19 = .ok (.iadd, 1) := by decide +kernel
theorem dX3_enterUpper_20 : decode cX3_enterUpper 20 = .ok (.putfield 197, 3) := by decide +kernel
theorem dX3_enterUpper_23 : decode cX3_enterUpper 23 = .ok (.aload_n 0, 1) := by decide +kernel
theorem dX3_enterUpper_24 : decode cX3_enterUpper 24 = .ok (.dup, 1) := by decide +kernel
theorem dX3_enterUpper_25 : decode cX3_enterUpper 25 = .ok (.getfield 69, 3) := by decide +kernel
theorem dX3_enterUpper_28 : decode cX3_enterUpper 28 = .ok (.iload_n 3, 1) := by decide +kernel
theorem dX3_enterUpper_29 : decode cX3_enterUpper 29 = .ok (.iadd, 1) := by decide +kernel
theorem dX3_enterUpper_30 : decode cX3_enterUpper 30 = .ok (.putfield 69, 3) := by decide +kernel
theorem dX3_enterUpper_33 : decode cX3_enterUpper 33 = .ok (.aload_n 0, 1) := by decide +kernel
theorem dX3_enterUpper_34 : decode cX3_enterUpper 34 = .ok (.dup, 1) := by decide +kernel
theorem dX3_enterUpper_35 : decode cX3_enterUpper 35 = .ok (.getfield 57, 3) := by decide +kernel
theorem dX3_enterUpper_38 : decode cX3_enterUpper 38 = .ok (.iload_n 2, 1) := by decide +kernel
theorem dX3_enterUpper_39 : decode cX3_enterUpper 39 = .ok (.iload_n 3, 1) := by decide +kernel
theorem dX3_enterUpper_40 : decode cX3_enterUpper 40 = .ok (.isub, 1) := by decide +kernel
theorem dX3_enterUpper_41 : decode cX3_enterUpper 41 = .ok (.iadd, 1) := by decide +kernel
theorem dX3_enterUpper_42 : decode cX3_enterUpper 42 = .ok (.putfield 57, 3) := by decide +kernel
theorem dX3_enterUpper_45 : decode cX3_enterUpper 45 = .ok (.iload_n 2, 1) := by decide +kernel
theorem dX3_enterUpper_46 : decode cX3_enterUpper 46 = .ok (.iload_n 3, 1) := by decide +kernel
theorem dX3_enterUpper_47 : decode cX3_enterUpper 47 = .ok (.isub, 1) := by decide +kernel
theorem dX3_enterUpper_48 : decode cX3_enterUpper 48 = .ok (.ireturn, 1) := by decide +kernel
theorem dX3_roomAbove_0 : decode cX3_roomAbove 0 = .ok (.iload_n 1, 1) := by decide +kernel
theorem dX3_roomAbove_1 : decode cX3_roomAbove 1 = .ok (.aload_n 0, 1) := by decide +kernel
theorem dX3_roomAbove_2 : decode cX3_roomAbove 2 = .ok (.getfield 20, 3) := by decide +kernel
theorem dX3_roomAbove_5 : decode cX3_roomAbove 5 = .ok (.getfield 200, 3) := by decide +kernel
theorem dX3_roomAbove_8 : decode cX3_roomAbove 8 = .ok (.if_icmp .ge 15, 3) := by decide +kernel
theorem dX3_roomAbove_11 : decode cX3_roomAbove 11 = .ok (.aload_n 0, 1) := by decide +kernel
theorem dX3_roomAbove_12 : decode cX3_roomAbove 12 = .ok (.getfield 20, 3) := by decide +kernel
theorem dX3_roomAbove_15 : decode cX3_roomAbove 15 = .ok (.getfield 200, 3) := by decide +kernel
theorem dX3_roomAbove_18 : decode cX3_roomAbove 18 = .ok (.iload_n 1, 1) := by decide +kernel
theorem dX3_roomAbove_19 : decode cX3_roomAbove 19 = .ok (.isub, 1) := by decide +kernel
theorem dX3_roomAbove_20 : decode cX3_roomAbove 20 = .ok (.goto 4, 3) := by decide +kernel
theorem dX3_roomAbove_23 : decode cX3_roomAbove 23 = .ok (.iconst 0, 1) := by decide +kernel
theorem dX3_roomAbove_24 : decode cX3_roomAbove 24 = .ok (.ireturn, 1) := by decide +kernel
theorem dX3_whyNotPoured_0 : decode cX3_whyNotPoured 0 = .ok (.aload_n 0, 1) := by decide +kernel
theorem dX3_whyNotPoured_1 : decode cX3_whyNotPoured 1 = .ok (.getfield 31, 3) := by decide +kernel
theorem dX3_whyNotPoured_4 : decode cX3_whyNotPoured 4 = .ok (.getstatic 104, 3) := by decide +kernel
theorem dX3_whyNotPoured_7 : decode cX3_whyNotPoured 7 = .ok (.iload_n 2, 1) := by decide +kernel
theorem dX3_whyNotPoured_8 : decode cX3_whyNotPoured 8 = .ok (.invokestatic 108, 3) := by decide +kernel
theorem dX3_whyNotPoured_11 : decode cX3_whyNotPoured 11 = .ok (.if_icmp .ge 5, 3) := by decide +kernel
theorem dX3_whyNotPoured_14 : decode cX3_whyNotPoured 14 = .ok (.iconst 1, 1) := by decide +kernel
theorem dX3_whyNotPoured_15 : decode cX3_whyNotPoured 15 = .ok (.ireturn, 1) := by decide +kernel
theorem dX3_whyNotPoured_16 : decode cX3_whyNotPoured 16 = .ok (.aload_n 0, 1) := by decide +kernel
theorem dX3_whyNotPoured_17 : decode cX3_whyNotPoured 17 = .ok (.aload_n 1, 1) := by decide +kernel
theorem dX3_whyNotPoured_18 : decode cX3_whyNotPoured 18 = .ok (.getfield 197, 3) := by decide +kernel
theorem dX3_whyNotPoured_21 : decode cX3_whyNotPoured 21 = .ok (.invokevirtual 167, 3) := by decide +kernel
theorem dX3_whyNotPoured_24 : decode cX3_whyNotPoured 24 = .ok (.ifCond .ne 7, 3) := by decide +kernel
theorem dX3_whyNotPoured_27 : decode cX3_whyNotPoured 27 = .ok (.iconst 2, 1) := by decide +kernel
theorem dX3_whyNotPoured_28 : decode cX3_whyNotPoured 28 = .ok (.goto 4, 3) := by decide +kernel
theorem dX3_whyNotPoured_31 : decode cX3_whyNotPoured 31 = .ok (.iconst 0, 1) := by decide +kernel
theorem dX3_whyNotPoured_32 : decode cX3_whyNotPoured 32 = .ok (.ireturn, 1) := by decide +kernel
theorem dX3_isEmpty_0 : decode cX3_isEmpty 0 = .ok (.aload_n 0, 1) := by decide +kernel
theorem dX3_isEmpty_1 : decode cX3_isEmpty 1 = .ok (.iload_n 1, 1) := by decide +kernel
theorem dX3_isEmpty_2 : decode cX3_isEmpty 2 = .ok (.invokevirtual 85, 3) := by decide +kernel
theorem dX3_isEmpty_5 : decode cX3_isEmpty 5 = .ok (.astore_n 2, 1) := by decide +kernel
theorem dX3_isEmpty_6 : decode cX3_isEmpty 6 = .ok (.aload_n 2, 1) := by decide +kernel
theorem dX3_isEmpty_7 : decode cX3_isEmpty 7 = .ok (.ifnull 14, 3) := by decide +kernel
theorem dX3_isEmpty_10 : decode cX3_isEmpty 10 = .ok (.aload_n 2, 1) := by decide +kernel
theorem dX3_isEmpty_11 : decode cX3_isEmpty 11 = .ok (.getfield 197, 3) := by decide +kernel
theorem dX3_isEmpty_14 : decode cX3_isEmpty 14 = .ok (.ifCond .ne 7, 3) := by decide +kernel
theorem dX3_isEmpty_17 : decode cX3_isEmpty 17 = .ok (.iconst 1, 1) := by decide +kernel
theorem dX3_isEmpty_18 : decode cX3_isEmpty 18 = .ok (.goto 4, 3) := by decide +kernel
theorem dX3_isEmpty_21 : decode cX3_isEmpty 21 = .ok (.iconst 0, 1) := by decide +kernel
theorem dX3_isEmpty_22 : decode cX3_isEmpty 22 = .ok (.ireturn, 1) := by decide +kernel
theorem dX3_together_0 : decode cX3_together 0 = .ok (.iconst 0, 1) := by decide +kernel
theorem dX3_together_1 : decode cX3_together 1 = .ok (.istore_n 2, 1) := by decide +kernel
theorem dX3_together_2 : decode cX3_together 2 = .ok (.iconst 0, 1) := by decide +kernel
theorem dX3_together_3 : decode cX3_together 3 = .ok (.istore_n 3, 1) := by decide +kernel
theorem dX3_together_4 : decode cX3_together 4 = .ok (.iload_n 3, 1) := by decide +kernel
theorem dX3_together_5 : decode cX3_together 5 = .ok (.aload_n 0, 1) := by decide +kernel
theorem dX3_together_6 : decode cX3_together 6 = .ok (.getfield 48, 3) := by decide +kernel
theorem dX3_together_9 : decode cX3_together 9 = .ok (.if_icmp .ge 31, 3) := by decide +kernel
theorem dX3_together_12 : decode cX3_together 12 = .ok (.iload_n 3, 1) := by decide +kernel
theorem dX3_together_13 : decode cX3_together 13 = .ok (.aload_n 0, 1) := by decide +kernel
theorem dX3_together_14 : decode cX3_together 14 = .ok (.getfield 11, 3) := by decide +kernel
theorem dX3_together_17 : decode cX3_together 17 = .ok (.arraylength, 1) := by decide +kernel
theorem dX3_together_18 : decode cX3_together 18 = .ok (.if_icmp .ge 22, 3) := by decide +kernel
theorem dX3_together_21 : decode cX3_together 21 = .ok (.iload_n 2, 1) := by decide +kernel
theorem dX3_together_22 : decode cX3_together 22 = .ok (.aload_n 0, 1) := by decide +kernel
theorem dX3_together_23 : decode cX3_together 23 = .ok (.getfield 11, 3) := by decide +kernel
theorem dX3_together_26 : decode cX3_together 26 = .ok (.iload_n 3, 1) := by decide +kernel
theorem dX3_together_27 : decode cX3_together 27 = .ok (.aaload, 1) := by decide +kernel
theorem dX3_together_28 : decode cX3_together 28 = .ok (.iload_n 1, 1) := by decide +kernel
theorem dX3_together_29 : decode cX3_together 29 = .ok (.invokevirtual 203, 3) := by decide +kernel
theorem dX3_together_32 : decode cX3_together 32 = .ok (.iadd, 1) := by decide +kernel
theorem dX3_together_33 : decode cX3_together 33 = .ok (.istore_n 2, 1) := by decide +kernel
theorem dX3_together_34 : decode cX3_together 34 = .ok (.iinc 3 1, 3) := by decide +kernel
theorem dX3_together_37 : decode cX3_together 37 = .ok (.goto (-33), 3) := by decide +kernel
theorem dX3_together_40 : decode cX3_together 40 = .ok (.iload_n 2, 1) := by decide +kernel
theorem dX3_together_41 : decode cX3_together 41 = .ok (.ireturn, 1) := by decide +kernel
theorem dX3_allWater_0 : decode cX3_allWater 0 = .ok (.aload_n 0, 1) := by decide +kernel
theorem dX3_allWater_1 : decode cX3_allWater 1 = .ok (.getfield 31, 3) := by decide +kernel
theorem dX3_allWater_4 : decode cX3_allWater 4 = .ok (.aload_n 0, 1) := by decide +kernel
theorem dX3_allWater_5 : decode cX3_allWater 5 = .ok (.iconst 1, 1) := by decide +kernel
theorem dX3_allWater_6 : decode cX3_allWater 6 = .ok (.invokevirtual 206, 3) := by decide +kernel
theorem dX3_allWater_9 : decode cX3_allWater 9 = .ok (.iadd, 1) := by decide +kernel
theorem dX3_allWater_10 : decode cX3_allWater 10 = .ok (.aload_n 0, 1) := by decide +kernel
theorem dX3_allWater_11 : decode cX3_allWater 11 = .ok (.iconst 2, 1) := by decide +kernel
theorem dX3_allWater_12 : decode cX3_allWater 12 = .ok (.invokevirtual 206, 3) := by decide +kernel
theorem dX3_allWater_15 : decode cX3_allWater 15 = .ok (.iadd, 1) := by decide +kernel
theorem dX3_allWater_16 : decode cX3_allWater 16 = .ok (.aload_n 0, 1) := by decide +kernel
theorem dX3_allWater_17 : decode cX3_allWater 17 = .ok (.getfield 54, 3) := by decide +kernel
theorem dX3_allWater_20 : decode cX3_allWater 20 = .ok (.iadd, 1) := by decide +kernel
theorem dX3_allWater_21 : decode cX3_allWater 21 = .ok (.aload_n 0, 1) := by decide +kernel
theorem dX3_allWater_22 : decode cX3_allWater 22 = .ok (.getfield 57, 3) := by decide +kernel
theorem dX3_allWater_25 : decode cX3_allWater 25 = .ok (.iadd, 1) := by decide +kernel
theorem dX3_allWater_26 : decode cX3_allWater 26 = .ok (.ireturn, 1) := by decide +kernel
theorem dX3_trueHour_0 : decode cX3_trueHour 0 = .ok (.aload_n 0, 1) := by decide +kernel
theorem dX3_trueHour_1 : decode cX3_trueHour 1 = .ok (.getfield 51, 3) := by decide +kernel
theorem dX3_trueHour_4 : decode cX3_trueHour 4 = .ok (.aload_n 0, 1) := by decide +kernel
theorem dX3_trueHour_5 : decode cX3_trueHour 5 = .ok (.getfield 20, 3) := by decide +kernel
theorem dX3_trueHour_8 : decode cX3_trueHour 8 = .ok (.getfield 209, 3) := by decide +kernel
theorem dX3_trueHour_11 : decode cX3_trueHour 11 = .ok (.invokestatic 212, 3) := by decide +kernel
theorem dX3_trueHour_14 : decode cX3_trueHour 14 = .ok (.ireturn, 1) := by decide +kernel
theorem dX3_errorOf_0 : decode cX3_errorOf 0 = .ok (.aload_n 1, 1) := by decide +kernel
theorem dX3_errorOf_1 : decode cX3_errorOf 1 = .ok (.invokevirtual 215, 3) := by decide +kernel
theorem dX3_errorOf_4 : decode cX3_errorOf 4 = .ok (.aload_n 0, 1) := by decide +kernel
theorem dX3_errorOf_5 : decode cX3_errorOf 5 = .ok (.invokevirtual 77, 3) := by decide +kernel
theorem dX3_errorOf_8 : decode cX3_errorOf 8 = .ok (.isub, 1) := by decide +kernel
theorem dX3_errorOf_9 : decode cX3_errorOf 9 = .ok (.ireturn, 1) := by decide +kernel
theorem dX3_noonTicks_0 : decode cX3_noonTicks 0 = .ok (.bipush 12, 2) := by decide +kernel
theorem dX3_noonTicks_2 : decode cX3_noonTicks 2 = .ok (.aload_n 0, 1) := by decide +kernel
theorem dX3_noonTicks_3 : decode cX3_noonTicks 3 = .ok (.getfield 20, 3) := by decide +kernel
theorem dX3_noonTicks_6 : decode cX3_noonTicks 6 = .ok (.getfield 209, 3) := by decide +kernel
theorem dX3_noonTicks_9 : decode cX3_noonTicks 9 = .ok (.imul, 1) := by decide +kernel
theorem dX3_noonTicks_10 : decode cX3_noonTicks 10 = .ok (.ireturn, 1) := by decide +kernel
theorem dX3_untilNoon_0 : decode cX3_untilNoon 0 = .ok (.aload_n 0, 1) := by decide +kernel
theorem dX3_untilNoon_1 : decode cX3_untilNoon 1 = .ok (.invokevirtual 218, 3) := by decide +kernel
theorem dX3_untilNoon_4 : decode cX3_untilNoon 4 = .ok (.istore_n 1, 1) := by decide +kernel
theorem dX3_untilNoon_5 : decode cX3_untilNoon 5 = .ok (.iload_n 1, 1) := by decide +kernel
theorem dX3_untilNoon_6 : decode cX3_untilNoon 6 = .ok (.aload_n 0, 1) := by decide +kernel
theorem dX3_untilNoon_7 : decode cX3_untilNoon 7 = .ok (.getfield 51, 3) := by decide +kernel
theorem dX3_untilNoon_10 : decode cX3_untilNoon 10 = .ok (.aload_n 0, 1) := by decide +kernel
theorem dX3_untilNoon_11 : decode cX3_untilNoon 11 = .ok (.getfield 51, 3) := by decide +kernel
theorem dX3_untilNoon_14 : decode cX3_untilNoon 14 = .ok (.iload_n 1, 1) := by decide +kernel
theorem dX3_untilNoon_15 : decode cX3_untilNoon 15 = .ok (.invokestatic 212, 3) := by decide +kernel
theorem dX3_untilNoon_18 : decode cX3_untilNoon 18 = .ok (.iload_n 1, 1) := by decide +kernel
theorem dX3_untilNoon_19 : decode cX3_untilNoon 19 = .ok (.imul, 1) := by decide +kernel
theorem dX3_untilNoon_20 : decode cX3_untilNoon 20 = .ok (.isub, 1) := by decide +kernel
theorem dX3_untilNoon_21 : decode cX3_untilNoon 21 = .ok (.isub, 1) := by decide +kernel
theorem dX3_untilNoon_22 : decode cX3_untilNoon 22 = .ok (.ireturn, 1) := by decide +kernel
theorem dX3_isNoon_0 : decode cX3_isNoon 0 = .ok (.aload_n 0, 1) := by decide +kernel
theorem dX3_isNoon_1 : decode cX3_isNoon 1 = .ok (.invokevirtual 221, 3) := by decide +kernel
theorem dX3_isNoon_4 : decode cX3_isNoon 4 = .ok (.aload_n 0, 1) := by decide +kernel
theorem dX3_isNoon_5 : decode cX3_isNoon 5 = .ok (.invokevirtual 218, 3) := by decide +kernel
theorem dX3_isNoon_8 : decode cX3_isNoon 8 = .ok (.if_icmp .ne 7, 3) := by decide +kernel
theorem dX3_isNoon_11 : decode cX3_isNoon 11 = .ok (.iconst 1, 1) := by decide +kernel
theorem dX3_isNoon_12 : decode cX3_isNoon 12 = .ok (.goto 4, 3) := by decide +kernel
theorem dX3_isNoon_15 : decode cX3_isNoon 15 = .ok (.iconst 0, 1) := by decide +kernel
theorem dX3_isNoon_16 : decode cX3_isNoon 16 = .ok (.ireturn, 1) := by decide +kernel
theorem dX3_isOff_0 : decode cX3_isOff 0 = .ok (.iload_n 1, 1) := by decide +kernel
theorem dX3_isOff_1 : decode cX3_isOff 1 = .ok (.invokestatic 224, 3) := by decide +kernel
theorem dX3_isOff_4 : decode cX3_isOff 4 = .ok (.aload_n 0, 1) := by decide +kernel
theorem dX3_isOff_5 : decode cX3_isOff 5 = .ok (.getfield 20, 3) := by decide +kernel
theorem dX3_isOff_8 : decode cX3_isOff 8 = .ok (.getfield 227, 3) := by decide +kernel
theorem dX3_isOff_11 : decode cX3_isOff 11 = .ok (.if_icmp .le 7, 3) := by decide +kernel
theorem dX3_isOff_14 : decode cX3_isOff 14 = .ok (.iconst 1, 1) := by decide +kernel
theorem dX3_isOff_15 : decode cX3_isOff 15 = .ok (.goto 4, 3) := by decide +kernel
theorem dX3_isOff_18 : decode cX3_isOff 18 = .ok (.iconst 0, 1) := by decide +kernel
theorem dX3_isOff_19 : decode cX3_isOff 19 = .ok (.ireturn, 1) := by decide +kernel
theorem dX3_noonComes_0 : decode cX3_noonComes 0 = .ok (.aload_n 0, 1) := by decide +kernel
theorem dX3_noonComes_1 : decode cX3_noonComes 1 = .ok (.getfield 27, 3) := by decide +kernel
theorem dX3_noonComes_4 : decode cX3_noonComes 4 = .ok (.aload_n 0, 1) := by decide +kernel
theorem dX3_noonComes_5 : decode cX3_noonComes 5 = .ok (.getfield 48, 3) := by decide +kernel
theorem dX3_noonComes_8 : decode cX3_noonComes 8 = .ok (.invokevirtual 230, 3) := by decide +kernel
theorem dX3_noonComes_11 : decode cX3_noonComes 11 = .ok (.iconst 0, 1) := by decide +kernel
theorem dX3_noonComes_12 : decode cX3_noonComes 12 = .ok (.istore_n 1, 1) := by decide +kernel
theorem dX3_noonComes_13 : decode cX3_noonComes 13 = .ok (.iload_n 1, 1) := by decide +kernel
theorem dX3_noonComes_14 : decode cX3_noonComes 14 = .ok (.aload_n 0, 1) := by decide +kernel
theorem dX3_noonComes_15 : decode cX3_noonComes 15 = .ok (.getfield 48, 3) := by decide +kernel
theorem dX3_noonComes_18 : decode cX3_noonComes 18 = .ok (.if_icmp .ge 80, 3) := by decide +kernel
theorem dX3_noonComes_21 : decode cX3_noonComes 21 = .ok (.iload_n 1, 1) := by decide +kernel
theorem dX3_noonComes_22 : decode cX3_noonComes 22 = .ok (.aload_n 0, 1) := by decide +kernel
theorem dX3_noonComes_23 : decode cX3_noonComes 23 = .ok (.getfield 11, 3) := by decide +kernel
theorem dX3_noonComes_26 : decode cX3_noonComes 26 = .ok (.arraylength, 1) := by decide +kernel
theorem dX3_noonComes_27 : decode cX3_noonComes 27 = .ok (.if_icmp .ge 71, 3) := by decide +kernel
theorem dX3_noonComes_30 : decode cX3_noonComes 30 = .ok (.aload_n 0, 1) := by decide +kernel
theorem dX3_noonComes_31 : decode cX3_noonComes 31 = .ok (.getfield 11, 3) := by decide +kernel
theorem dX3_noonComes_34 : decode cX3_noonComes 34 = .ok (.iload_n 1, 1) := by decide +kernel
theorem dX3_noonComes_35 : decode cX3_noonComes 35 = .ok (.aaload, 1) := by decide +kernel
theorem dX3_noonComes_36 : decode cX3_noonComes 36 = .ok (.astore_n 2, 1) := by decide +kernel
theorem dX3_noonComes_37 : decode cX3_noonComes 37 = .ok (.aload_n 0, 1) := by decide +kernel
theorem dX3_noonComes_38 : decode cX3_noonComes 38 = .ok (.aload_n 2, 1) := by decide +kernel
theorem dX3_noonComes_39 : decode cX3_noonComes 39 = .ok (.invokevirtual 127, 3) := by decide +kernel
theorem dX3_noonComes_42 : decode cX3_noonComes 42 = .ok (.istore_n 3, 1) := by decide +kernel
theorem dX3_noonComes_43 : decode cX3_noonComes 43 = .ok (.aload_n 0, 1) := by decide +kernel
theorem dX3_noonComes_44 : decode cX3_noonComes 44 = .ok (.getfield 27, 3) := by decide +kernel
theorem dX3_noonComes_47 : decode cX3_noonComes 47 = .ok (.iload_n 1, 1) := by decide +kernel
theorem dX3_noonComes_48 : decode cX3_noonComes 48 = .ok (.iload_n 3, 1) := by decide +kernel
theorem dX3_noonComes_49 : decode cX3_noonComes 49 = .ok (.invokevirtual 233, 3) := by decide +kernel
theorem dX3_noonComes_52 : decode cX3_noonComes 52 = .ok (.aload_n 0, 1) := by decide +kernel
theorem dX3_noonComes_53 : decode cX3_noonComes 53 = .ok (.iload_n 3, 1) := by decide +kernel
theorem dX3_noonComes_54 : decode cX3_noonComes 54 = .ok (.invokevirtual 236, 3) := by decide +kernel
theorem dX3_noonComes_57 : decode cX3_noonComes 57 = .ok (.ifCond .eq 35, 3) := by decide +kernel
theorem dX3_noonComes_60 : decode cX3_noonComes 60 = .ok (.aload_n 0, 1) := by decide +kernel
theorem dX3_noonComes_61 : decode cX3_noonComes 61 = .ok (.getfield 27, 3) := by decide +kernel
theorem dX3_noonComes_64 : decode cX3_noonComes 64 = .ok (.dup, 1) := by decide +kernel
theorem dX3_noonComes_65 : decode cX3_noonComes 65 = .ok (.getfield 239, 3) := by decide +kernel
theorem dX3_noonComes_68 : decode cX3_noonComes 68 = .ok (.iconst 1, 1) := by decide +kernel
theorem dX3_noonComes_69 : decode cX3_noonComes 69 = .ok (.iadd, 1) := by decide +kernel
theorem dX3_noonComes_70 : decode cX3_noonComes 70 = .ok (.putfield 239, 3) := by decide +kernel
theorem dX3_noonComes_73 : decode cX3_noonComes 73 = .ok (.aload_n 0, 1) := by decide +kernel
theorem dX3_noonComes_74 : decode cX3_noonComes 74 = .ok (.getfield 20, 3) := by decide +kernel
theorem dX3_noonComes_77 : decode cX3_noonComes 77 = .ok (.getfield 242, 3) := by decide +kernel
theorem dX3_noonComes_80 : decode cX3_noonComes 80 = .ok (.iconst 1, 1) := by decide +kernel
theorem dX3_noonComes_81 : decode cX3_noonComes 81 = .ok (.if_icmp .ne 11, 3) := by decide +kernel
theorem dX3_noonComes_84 : decode cX3_noonComes 84 = .ok (.aload_n 2, 1) := by decide +kernel
theorem dX3_noonComes_85 : decode cX3_noonComes 85 = .ok (.aload_n 0, 1) := by decide +kernel
theorem dX3_noonComes_86 : decode cX3_noonComes 86 = .ok (.invokevirtual 77, 3) := by decide +kernel
theorem dX3_noonComes_89 : decode cX3_noonComes 89 = .ok (.invokevirtual 124, 3) := by decide +kernel
theorem dX3_noonComes_92 : decode cX3_noonComes 92 = .ok (.iinc 1 1, 3) := by decide +kernel
theorem dX3_noonComes_95 : decode cX3_noonComes 95 = .ok (.goto (-82), 3) := by decide +kernel
theorem dX3_noonComes_98 : decode cX3_noonComes 98 = .ok (.return_, 1) := by decide +kernel
theorem dX3_clocksOff_0 : decode cX3_clocksOff 0 = .ok (.iconst 0, 1) := by decide +kernel
theorem dX3_clocksOff_1 : decode cX3_clocksOff 1 = .ok (.istore_n 1, 1) := by decide +kernel
theorem dX3_clocksOff_2 : decode cX3_clocksOff 2 = .ok (.iconst 0, 1) := by decide +kernel
theorem dX3_clocksOff_3 : decode cX3_clocksOff 3 = .ok (.istore_n 2, 1) := by decide +kernel
theorem dX3_clocksOff_4 : decode cX3_clocksOff 4 = .ok (.iload_n 2, 1) := by decide +kernel
theorem dX3_clocksOff_5 : decode cX3_clocksOff 5 = .ok (.aload_n 0, 1) := by decide +kernel
theorem dX3_clocksOff_6 : decode cX3_clocksOff 6 = .ok (.getfield 48, 3) := by decide +kernel
theorem dX3_clocksOff_9 : decode cX3_clocksOff 9 = .ok (.if_icmp .ge 41, 3) := by decide +kernel
theorem dX3_clocksOff_12 : decode cX3_clocksOff 12 = .ok (.iload_n 2, 1) := by decide +kernel
theorem dX3_clocksOff_13 : decode cX3_clocksOff 13 = .ok (.aload_n 0, 1) := by decide +kernel
theorem dX3_clocksOff_14 : decode cX3_clocksOff 14 = .ok (.getfield 11, 3) := by decide +kernel
theorem dX3_clocksOff_17 : decode cX3_clocksOff 17 = .ok (.arraylength, 1) := by decide +kernel
theorem dX3_clocksOff_18 : decode cX3_clocksOff 18 = .ok (.if_icmp .ge 32, 3) := by decide +kernel
theorem dX3_clocksOff_21 : decode cX3_clocksOff 21 = .ok (.aload_n 0, 1) := by decide +kernel
theorem dX3_clocksOff_22 : decode cX3_clocksOff 22 = .ok (.aload_n 0, 1) := by decide +kernel
theorem dX3_clocksOff_23 : decode cX3_clocksOff 23 = .ok (.aload_n 0, 1) := by decide +kernel
theorem dX3_clocksOff_24 : decode cX3_clocksOff 24 = .ok (.getfield 11, 3) := by decide +kernel
theorem dX3_clocksOff_27 : decode cX3_clocksOff 27 = .ok (.iload_n 2, 1) := by decide +kernel
theorem dX3_clocksOff_28 : decode cX3_clocksOff 28 = .ok (.aaload, 1) := by decide +kernel
theorem dX3_clocksOff_29 : decode cX3_clocksOff 29 = .ok (.invokevirtual 127, 3) := by decide +kernel
theorem dX3_clocksOff_32 : decode cX3_clocksOff 32 = .ok (.invokevirtual 236, 3) := by decide +kernel
theorem dX3_clocksOff_35 : decode cX3_clocksOff 35 = .ok (.ifCond .eq 9, 3) := by decide +kernel
theorem dX3_clocksOff_38 : decode cX3_clocksOff 38 = .ok (.iload_n 1, 1) := by decide +kernel
theorem dX3_clocksOff_39 : decode cX3_clocksOff 39 = .ok (.iconst 1, 1) := by decide +kernel
theorem dX3_clocksOff_40 : decode cX3_clocksOff 40 = .ok (.iload_n 2, 1) := by decide +kernel
theorem dX3_clocksOff_41 : decode cX3_clocksOff 41 = .ok (.ishl, 1) := by decide +kernel
theorem dX3_clocksOff_42 : decode cX3_clocksOff 42 = .ok (.ior, 1) := by decide +kernel
theorem dX3_clocksOff_43 : decode cX3_clocksOff 43 = .ok (.istore_n 1, 1) := by decide +kernel
theorem dX3_clocksOff_44 : decode cX3_clocksOff 44 = .ok (.iinc 2 1, 3) := by decide +kernel
theorem dX3_clocksOff_47 : decode cX3_clocksOff 47 = .ok (.goto (-43), 3) := by decide +kernel
theorem dX3_clocksOff_50 : decode cX3_clocksOff 50 = .ok (.iload_n 1, 1) := by decide +kernel
theorem dX3_clocksOff_51 : decode cX3_clocksOff 51 = .ok (.ireturn, 1) := by decide +kernel
theorem dX3_clocksEmpty_0 : decode cX3_clocksEmpty 0 = .ok (.iconst 0, 1) := by decide +kernel
theorem dX3_clocksEmpty_1 : decode cX3_clocksEmpty 1 = .ok (.istore_n 1, 1) := by decide +kernel
theorem dX3_clocksEmpty_2 : decode cX3_clocksEmpty 2 = .ok (.iconst 0, 1) := by decide +kernel
theorem dX3_clocksEmpty_3 : decode cX3_clocksEmpty 3 = .ok (.istore_n 2, 1) := by decide +kernel
