theorem dX6_lead_7 : decode cX6_lead 7 = .ok (.iload_n 2, 1) := by decide +kernel
theorem dX6_lead_8 : decode cX6_lead 8 = .ok (.invokevirtual 153, 3) := by decide +kernel
theorem dX6_lead_11 : decode cX6_lead 11 = .ok (.invokevirtual 150, 3) := by decide +kernel
theorem dX6_lead_14 : decode cX6_lead 14 = .ok (.ireturn, 1) := by decide +kernel
theorem dX6_pour_0 : decode cX6_pour 0 = .ok (.aload_n 0, 1) := by decide +kernel
theorem dX6_pour_1 : decode cX6_pour 1 = .ok (.invokevirtual 143, 3) := by decide +kernel
theorem dX6_pour_4 : decode cX6_pour 4 = .ok (.aload_n 0, 1) := by decide +kernel
theorem dX6_pour_5 : decode cX6_pour 5 = .ok (.aload_n 0, 1) := by decide +kernel
theorem dX6_pour_6 : decode cX6_pour 6 = .ok (.iload_n 1, 1) := by decide +kernel
theorem dX6_pour_7 : decode cX6_pour 7 = .ok (.iload_n 2, 1) := by decide +kernel
theorem dX6_pour_8 : decode cX6_pour 8 = .ok (.invokevirtual 156, 3) := by decide +kernel
theorem dX6_pour_11 : decode cX6_pour 11 = .ok (.invokevirtual 150, 3) := by decide +kernel
theorem dX6_pour_14 : decode cX6_pour 14 = .ok (.ireturn, 1) := by decide +kernel
theorem dX6_wax_0 : decode cX6_wax 0 = .ok (.aload_n 0, 1) := by decide +kernel
theorem dX6_wax_1 : decode cX6_wax 1 = .ok (.invokevirtual 143, 3) := by decide +kernel
theorem dX6_wax_4 : decode cX6_wax 4 = .ok (.aload_n 0, 1) := by decide +kernel
theorem dX6_wax_5 : decode cX6_wax 5 = .ok (.aload_n 0, 1) := by decide +kernel
theorem dX6_wax_6 : decode cX6_wax 6 = .ok (.iload_n 1, 1) := by decide +kernel
theorem dX6_wax_7 : decode cX6_wax 7 = .ok (.iload_n 2, 1) := by decide +kernel
theorem dX6_wax_8 : decode cX6_wax 8 = .ok (.invokevirtual 159, 3) := by decide +kernel
theorem dX6_wax_11 : decode cX6_wax 11 = .ok (.invokevirtual 150, 3) := by decide +kernel
theorem dX6_wax_14 : decode cX6_wax 14 = .ok (.ireturn, 1) := by decide +kernel
theorem dX6_pitch_0 : decode cX6_pitch 0 = .ok (.aload_n 0, 1) := by decide +kernel
theorem dX6_pitch_1 : decode cX6_pitch 1 = .ok (.invokevirtual 143, 3) := by decide +kernel
theorem dX6_pitch_4 : decode cX6_pitch 4 = .ok (.aload_n 0, 1) := by decide +kernel
theorem dX6_pitch_5 : decode cX6_pitch 5 = .ok (.aload_n 0, 1) := by decide +kernel
theorem dX6_pitch_6 : decode cX6_pitch 6 = .ok (.iload_n 1, 1) := by decide +kernel
theorem dX6_pitch_7 : decode cX6_pitch 7 = .ok (.iload_n 2, 1) := by decide +kernel
theorem dX6_pitch_8 : decode cX6_pitch 8 = .ok (.invokevirtual 162, 3) := by decide +kernel
theorem dX6_pitch_11 : decode cX6_pitch 11 = .ok (.invokevirtual 150, 3) := by decide +kernel
theorem dX6_pitch_14 : decode cX6_pitch 14 = .ok (.ireturn, 1) := by decide +kernel
theorem dX6_trueUp_0 : decode cX6_trueUp 0 = .ok (.aload_n 0, 1) := by decide +kernel
theorem dX6_trueUp_1 : decode cX6_trueUp 1 = .ok (.invokevirtual 143, 3) := by decide +kernel
theorem dX6_trueUp_4 : decode cX6_trueUp 4 = .ok (.aload_n 0, 1) := by decide +kernel
theorem dX6_trueUp_5 : decode cX6_trueUp 5 = .ok (.aload_n 0, 1) := by decide +kernel
theorem dX6_trueUp_6 : decode cX6_trueUp 6 = .ok (.iload_n 1, 1) := by decide +kernel
theorem dX6_trueUp_7 : decode cX6_trueUp 7 = .ok (.invokevirtual 165, 3) := by decide +kernel
theorem dX6_trueUp_10 : decode cX6_trueUp 10 = .ok (.invokevirtual 150, 3) := by decide +kernel
theorem dX6_trueUp_13 : decode cX6_trueUp 13 = .ok (.ireturn, 1) := by decide +kernel
theorem dX6_ticks_0 : decode cX6_ticks 0 = .ok (.aload_n 0, 1) := by decide +kernel
theorem dX6_ticks_1 : decode cX6_ticks 1 = .ok (.invokevirtual 143, 3) := by decide +kernel
theorem dX6_ticks_4 : decode cX6_ticks 4 = .ok (.aload_n 0, 1) := by decide +kernel
theorem dX6_ticks_5 : decode cX6_ticks 5 = .ok (.aload_n 0, 1) := by decide +kernel
theorem dX6_ticks_6 : decode cX6_ticks 6 = .ok (.iload_n 1, 1) := by decide +kernel
theorem dX6_ticks_7 : decode cX6_ticks 7 = .ok (.invokevirtual 168, 3) := by decide +kernel
theorem dX6_ticks_10 : decode cX6_ticks 10 = .ok (.invokevirtual 150, 3) := by decide +kernel
theorem dX6_ticks_13 : decode cX6_ticks 13 = .ok (.ireturn, 1) := by decide +kernel
theorem dX6_set_0 : decode cX6_set 0 = .ok (.aload_n 0, 1) := by decide +kernel
theorem dX6_set_1 : decode cX6_set 1 = .ok (.invokevirtual 143, 3) := by decide +kernel
theorem dX6_set_4 : decode cX6_set 4 = .ok (.aload_n 0, 1) := by decide +kernel
theorem dX6_set_5 : decode cX6_set 5 = .ok (.aload_n 0, 1) := by decide +kernel
theorem dX6_set_6 : decode cX6_set 6 = .ok (.iload_n 1, 1) := by decide +kernel
theorem dX6_set_7 : decode cX6_set 7 = .ok (.iload_n 2, 1) := by decide +kernel
theorem dX6_set_8 : decode cX6_set 8 = .ok (.invokevirtual 171, 3) := by decide +kernel
theorem dX6_set_11 : decode cX6_set 11 = .ok (.invokevirtual 150, 3) := by decide +kernel
theorem dX6_set_14 : decode cX6_set 14 = .ok (.ireturn, 1) := by decide +kernel
theorem dX6_keep_0 : decode cX6_keep 0 = .ok (.iload_n 1, 1) := by decide +kernel
theorem dX6_keep_1 : decode cX6_keep 1 = .ok (.iconst 0, 1) := by decide +kernel
theorem dX6_keep_2 : decode cX6_keep 2 = .ok (.iconst 1, 1) := by decide +kernel
theorem dX6_keep_3 : decode cX6_keep 3 = .ok (.invokestatic 36, 3) := by decide +kernel
theorem dX6_keep_6 : decode cX6_keep 6 = .ok (.ifCond .ne 6, 3) := by decide +kernel
theorem dX6_keep_9 : decode cX6_keep 9 = .ok (.ldc 35, 2) := by decide +kernel
theorem dX6_keep_11 : decode cX6_keep 11 = .ok (.ireturn, 1) := by decide +kernel
theorem dX6_keep_12 : decode cX6_keep 12 = .ok (.iconst 0, 1) := by decide +kernel
theorem dX6_keep_13 : decode cX6_keep 13 = .ok (.istore_n 2, 1) := by decide +kernel
theorem dX6_keep_14 : decode cX6_keep 14 = .ok (.iload_n 2, 1) := by decide +kernel
theorem dX6_keep_15 : decode cX6_keep 15 = .ok (.bipush 120, 2) := by decide +kernel
theorem dX6_keep_17 : decode cX6_keep 17 = .ok (.if_icmp .ge 26, 3) := by decide +kernel
theorem dX6_keep_20 : decode cX6_keep 20 = .ok (.aload_n 0, 1) := by decide +kernel
theorem dX6_keep_21 : decode cX6_keep 21 = .ok (.getfield 19, 3) := by decide +kernel
theorem dX6_keep_24 : decode cX6_keep 24 = .ok (.bipush 120, 2) := by decide +kernel
theorem dX6_keep_26 : decode cX6_keep 26 = .ok (.iload_n 1, 1) := by decide +kernel
theorem dX6_keep_27 : decode cX6_keep 27 = .ok (.imul, 1) := by decide +kernel
theorem dX6_keep_28 : decode cX6_keep 28 = .ok (.iload_n 2, 1) := by decide +kernel
theorem dX6_keep_29 : decode cX6_keep 29 = .ok (.iadd, 1) := by decide +kernel
theorem dX6_keep_30 : decode cX6_keep 30 = .ok (.aload_n 0, 1) := by decide +kernel
theorem dX6_keep_31 : decode cX6_keep 31 = .ok (.getfield 7, 3) := by decide +kernel
theorem dX6_keep_34 : decode cX6_keep 34 = .ok (.iload_n 2, 1) := by decide +kernel
theorem dX6_keep_35 : decode cX6_keep 35 = .ok (.iaload, 1) := by decide +kernel
theorem dX6_keep_36 : decode cX6_keep 36 = .ok (.iastore, 1) := by decide +kernel
theorem dX6_keep_37 : decode cX6_keep 37 = .ok (.iinc 2 1, 3) := by decide +kernel
theorem dX6_keep_40 : decode cX6_keep 40 = .ok (.goto (-26), 3) := by decide +kernel
theorem dX6_keep_43 : decode cX6_keep 43 = .ok (.aload_n 0, 1) := by decide +kernel
theorem dX6_keep_44 : decode cX6_keep 44 = .ok (.getfield 22, 3) := by decide +kernel
theorem dX6_keep_47 : decode cX6_keep 47 = .ok (.iload_n 1, 1) := by decide +kernel
theorem dX6_keep_48 : decode cX6_keep 48 = .ok (.iconst 1, 1) := by decide +kernel
theorem dX6_keep_49 : decode cX6_keep 49 = .ok (.bastore, 1) := by decide +kernel
theorem dX6_keep_50 : decode cX6_keep 50 = .ok (.aload_n 0, 1) := by decide +kernel
theorem dX6_keep_51 : decode cX6_keep 51 = .ok (.getfield 7, 3) := by decide +kernel
theorem dX6_keep_54 : decode cX6_keep 54 = .ok (.bipush 19, 2) := by decide +kernel
theorem dX6_keep_56 : decode cX6_keep 56 = .ok (.iaload, 1) := by decide +kernel
theorem dX6_keep_57 : decode cX6_keep 57 = .ok (.ireturn, 1) := by decide +kernel
theorem dX6_back_0 : decode cX6_back 0 = .ok (.iload_n 1, 1) := by decide +kernel
theorem dX6_back_1 : decode cX6_back 1 = .ok (.iconst 0, 1) := by decide +kernel
theorem dX6_back_2 : decode cX6_back 2 = .ok (.iconst 1, 1) := by decide +kernel
theorem dX6_back_3 : decode cX6_back 3 = .ok (.invokestatic 36, 3) := by decide +kernel
theorem dX6_back_6 : decode cX6_back 6 = .ok (.ifCond .ne 6, 3) := by decide +kernel
theorem dX6_back_9 : decode cX6_back 9 = .ok (.ldc 35, 2) := by decide +kernel
theorem dX6_back_11 : decode cX6_back 11 = .ok (.ireturn, 1) := by decide +kernel
theorem dX6_back_12 : decode cX6_back 12 = .ok (.aload_n 0, 1) := by decide +kernel
theorem dX6_back_13 : decode cX6_back 13 = .ok (.getfield 22, 3) := by decide +kernel
theorem dX6_back_16 : decode cX6_back 16 = .ok (.iload_n 1, 1) := by decide +kernel
theorem dX6_back_17 : decode cX6_back 17 = .ok (.baload, 1) := by decide +kernel
theorem dX6_back_18 : decode cX6_back 18 = .ok (.ifCond .ne 6, 3) := by decide +kernel
theorem dX6_back_21 : decode cX6_back 21 = .ok (.ldc 128, 2) := by decide +kernel
theorem dX6_back_23 : decode cX6_back 23 = .ok (.ireturn, 1) := by decide +kernel
theorem dX6_back_24 : decode cX6_back 24 = .ok (.aload_n 0, 1) := by decide +kernel
theorem dX6_back_25 : decode cX6_back 25 = .ok (.invokevirtual 143, 3) := by decide +kernel
theorem dX6_back_28 : decode cX6_back 28 = .ok (.iconst 0, 1) := by decide +kernel
theorem dX6_back_29 : decode cX6_back 29 = .ok (.istore_n 2, 1) := by decide +kernel
theorem dX6_back_30 : decode cX6_back 30 = .ok (.iload_n 2, 1) := by decide +kernel
theorem dX6_back_31 : decode cX6_back 31 = .ok (.bipush 120, 2) := by decide +kernel
theorem dX6_back_33 : decode cX6_back 33 = .ok (.if_icmp .ge 26, 3) := by decide +kernel
theorem dX6_back_36 : decode cX6_back 36 = .ok (.aload_n 0, 1) := by decide +kernel
theorem dX6_back_37 : decode cX6_back 37 = .ok (.getfield 7, 3) := by decide +kernel
theorem dX6_back_40 : decode cX6_back 40 = .ok (.iload_n 2, 1) := by decide +kernel
theorem dX6_back_41 : decode cX6_back 41 = .ok (.aload_n 0, 1) := by decide +kernel
theorem dX6_back_42 : decode cX6_back 42 = .ok (.getfield 19, 3) := by decide +kernel
theorem dX6_back_45 : decode cX6_back 45 = .ok (.bipush 120, 2) := by decide +kernel
theorem dX6_back_47 : decode cX6_back 47 = .ok (.iload_n 1, 1) := by decide +kernel
theorem dX6_back_48 : decode cX6_back 48 = .ok (.imul, 1) := by decide +kernel
theorem dX6_back_49 : decode cX6_back 49 = .ok (.iload_n 2, 1) := by decide +kernel
theorem dX6_back_50 : decode cX6_back 50 = .ok (.iadd, 1) := by decide +kernel
theorem dX6_back_51 : decode cX6_back 51 = .ok (.iaload, 1) := by decide +kernel
theorem dX6_back_52 : decode cX6_back 52 = .ok (.iastore, 1) := by decide +kernel
theorem dX6_back_53 : decode cX6_back 53 = .ok (.iinc 2 1, 3) := by decide +kernel
theorem dX6_back_56 : decode cX6_back 56 = .ok (.goto (-26), 3) := by decide +kernel
theorem dX6_back_59 : decode cX6_back 59 = .ok (.aload_n 0, 1) := by decide +kernel
theorem dX6_back_60 : decode cX6_back 60 = .ok (.aload_n 0, 1) := by decide +kernel
theorem dX6_back_61 : decode cX6_back 61 = .ok (.getfield 7, 3) := by decide +kernel
theorem dX6_back_64 : decode cX6_back 64 = .ok (.bipush 19, 2) := by decide +kernel
theorem dX6_back_66 : decode cX6_back 66 = .ok (.iaload, 1) := by decide +kernel
theorem dX6_back_67 : decode cX6_back 67 = .ok (.invokevirtual 150, 3) := by decide +kernel
theorem dX6_back_70 : decode cX6_back 70 = .ok (.ireturn, 1) := by decide +kernel
theorem dX6_undo_0 : decode cX6_undo 0 = .ok (.aload_n 0, 1) := by decide +kernel
theorem dX6_undo_1 : decode cX6_undo 1 = .ok (.getfield 44, 3) := by decide +kernel
theorem dX6_undo_4 : decode cX6_undo 4 = .ok (.ifCond .ne 6, 3) := by decide +kernel
theorem dX6_undo_7 : decode cX6_undo 7 = .ok (.ldc 128, 2) := by decide +kernel
theorem dX6_undo_9 : decode cX6_undo 9 = .ok (.ireturn, 1) := by decide +kernel
theorem dX6_undo_10 : decode cX6_undo 10 = .ok (.aload_n 0, 1) := by decide +kernel
theorem dX6_undo_11 : decode cX6_undo 11 = .ok (.dup, 1) := by decide +kernel
theorem dX6_undo_12 : decode cX6_undo 12 = .ok (.getfield 44, 3) := by decide +kernel
theorem dX6_undo_15 : decode cX6_undo 15 = .ok (.iconst 1, 1) := by decide +kernel
theorem dX6_undo_16 : decode cX6_undo 16 = .ok (.isub, 1) := by decide +kernel
theorem dX6_undo_17 : decode cX6_undo 17 = .ok (.putfield 44, 3) := by decide +kernel
theorem dX6_undo_20 : decode cX6_undo 20 = .ok (.iconst 0, 1) := by decide +kernel
theorem dX6_undo_21 : decode cX6_undo 21 = .ok (.istore_n 1, 1) := by decide +kernel
theorem dX6_undo_22 : decode cX6_undo 22 = .ok (.iload_n 1, 1) := by decide +kernel
theorem dX6_undo_23 : decode cX6_undo 23 = .ok (.bipush 120, 2) := by decide +kernel
theorem dX6_undo_25 : decode cX6_undo 25 = .ok (.if_icmp .ge 29, 3) := by decide +kernel
theorem dX6_undo_28 : decode cX6_undo 28 = .ok (.aload_n 0, 1) := by decide +kernel
theorem dX6_undo_29 : decode cX6_undo 29 = .ok (.getfield 7, 3) := by decide +kernel
theorem dX6_undo_32 : decode cX6_undo 32 = .ok (.iload_n 1, 1) := by decide +kernel
theorem dX6_undo_33 : decode cX6_undo 33 = .ok (.aload_n 0, 1) := by decide +kernel
theorem dX6_undo_34 : decode cX6_undo 34 = .ok (.getfield 16, 3) := by decide +kernel
theorem dX6_undo_37 : decode cX6_undo 37 = .ok (.bipush 120, 2) := by decide +kernel
theorem dX6_undo_39 : decode cX6_undo 39 = .ok (.aload_n 0, 1) := by decide +kernel
theorem dX6_undo_40 : decode cX6_undo 40 = .ok (.getfield 44, 3) := by decide +kernel
theorem dX6_undo_43 : decode cX6_undo 43 = .ok (.imul, 1) := by decide +kernel
theorem dX6_undo_44 : decode cX6_undo 44 = .ok (.iload_n 1, 1) := by decide +kernel
theorem dX6_undo_45 : decode cX6_undo 45 = .ok (.iadd, 1) := by decide +kernel
theorem dX6_undo_46 : decode cX6_undo 46 = .ok (.iaload, 1) := by decide +kernel
theorem dX6_undo_47 : decode cX6_undo 47 = .ok (.iastore, 1) := by decide +kernel
theorem dX6_undo_48 : decode cX6_undo 48 = .ok (.iinc 1 1, 3) := by decide +kernel
theorem dX6_undo_51 : decode cX6_undo 51 = .ok (.goto (-29), 3) := by decide +kernel
theorem dX6_undo_54 : decode cX6_undo 54 = .ok (.aload_n 0, 1) := by decide +kernel
theorem dX6_undo_55 : decode cX6_undo 55 = .ok (.getfield 44, 3) := by decide +kernel
theorem dX6_undo_58 : decode cX6_undo 58 = .ok (.ireturn, 1) := by decide +kernel
theorem dX6_property_0 : decode cX6_property 0 = .ok (.aload_n 0, 1) := by decide +kernel
theorem dX6_property_1 : decode cX6_property 1 = .ok (.iload_n 1, 1) := by decide +kernel
theorem dX6_property_2 : decode cX6_property 2 = .ok (.iconst 0, 1) := by decide +kernel
theorem dX6_property_3 : decode cX6_property 3 = .ok (.invokevirtual 48, 3) := by decide +kernel
theorem dX6_property_6 : decode cX6_property 6 = .ok (.istore_n 3, 1) := by decide +kernel
theorem dX6_property_7 : decode cX6_property 7 = .ok (.iload_n 2, 1) := by decide +kernel
theorem dX6_property_8 : decode cX6_property 8 = .ok (.tableswitch 169 0 10 #[60, 62, 69, 85, 92, 99, 107, 113, 131, 153, 161], 60) := by decide +kernel
theorem dX6_property_68 : decode cX6_property 68 = .ok (.iload_n 3, 1) := by decide +kernel
theorem dX6_property_69 : decode cX6_property 69 = .ok (.ireturn, 1) := by decide +kernel
theorem dX6_property_70 : decode cX6_property 70 = .ok (.aload_n 0, 1) := by decide +kernel
theorem dX6_property_71 : decode cX6_property 71 = .ok (.iload_n 1, 1) := by decide +kernel
theorem dX6_property_72 : decode cX6_property 72 = .ok (.iconst 3, 1) := by decide +kernel
theorem dX6_property_73 : decode cX6_property 73 = .ok (.invokevirtual 48, 3) := by decide +kernel
theorem dX6_property_76 : decode cX6_property 76 = .ok (.ireturn, 1) := by decide +kernel
theorem dX6_property_77 : decode cX6_property 77 = .ok (.iload_n 3, 1) := by decide +kernel
theorem dX6_property_78 : decode cX6_property 78 = .ok (.ifCond .ne 8, 3) := by decide +kernel
theorem dX6_property_81 : decode cX6_property 81 = .ok (.ldc 174, 2) := by decide +kernel
theorem dX6_property_83 : decode cX6_property 83 = .ok (.goto 9, 3) := by decide +kernel
theorem dX6_property_86 : decode cX6_property 86 = .ok (.aload_n 0, 1) := by decide +kernel
theorem dX6_property_87 : decode cX6_property 87 = .ok (.iload_n 1, 1) := by decide +kernel
theorem dX6_property_88 : decode cX6_property 88 = .ok (.iconst 4, 1) := by decide +kernel
theorem dX6_property_89 : decode cX6_property 89 = .ok (.invokevirtual 48, 3) := by decide +kernel
theorem dX6_property_92 : decode cX6_property 92 = .ok (.ireturn, 1) := by decide +kernel
theorem dX6_property_93 : decode cX6_property 93 = .ok (.aload_n 0, 1) := by decide +kernel
theorem dX6_property_94 : decode cX6_property 94 = .ok (.iload_n 1, 1) := by decide +kernel
theorem dX6_property_95 : decode cX6_property 95 = .ok (.iconst 1, 1) := by decide +kernel
theorem dX6_property_96 : decode cX6_property 96 = .ok (.invokevirtual 48, 3) := by decide +kernel
theorem dX6_property_99 : decode cX6_property 99 = .ok (.ireturn, 1) := by decide +kernel
theorem dX6_property_100 : decode cX6_property 100 = .ok (.aload_n 0, 1) := by decide +kernel
theorem dX6_property_101 : decode cX6_property 101 = .ok (.iload_n 1, 1) := by decide +kernel
theorem dX6_property_102 : decode cX6_property 102 = .ok (.iconst 2, 1) := by decide +kernel
theorem dX6_property_103 : decode cX6_property 103 = .ok (.invokevirtual 48, 3) := by decide +kernel
theorem dX6_property_106 : decode cX6_property 106 = .ok (.ireturn, 1) := by decide +kernel
theorem dX6_property_107 : decode cX6_property 107 = .ok (.aload_n 0, 1) := by decide +kernel
theorem dX6_property_108 : decode cX6_property 108 = .ok (.iload_n 1, 1) := by decide +kernel
theorem dX6_property_109 : decode cX6_property 109 = .ok (.bipush 6, 2) := by decide +kernel
theorem dX6_property_111 : decode cX6_property 111 = .ok (.invokevirtual 48, 3) := by decide +kernel
theorem dX6_property_114 : decode cX6_property 114 = .ok (.ireturn, 1) := by decide +kernel
theorem dX6_property_115 : decode cX6_property 115 = .ok (.aload_n 0, 1) := by decide +kernel
theorem dX6_property_116 : decode cX6_property 116 = .ok (.iload_n 1, 1) := by decide +kernel
theorem dX6_property_117 : decode cX6_property 117 = .ok (.invokevirtual 90, 3) := by decide +kernel
theorem dX6_property_120 : decode cX6_property 120 = .ok (.ireturn, 1) := by decide +kernel
theorem dX6_property_121 : decode cX6_property 121 = .ok (.iload_n 3, 1) := by decide +kernel
theorem dX6_property_122 : decode cX6_property 122 = .ok (.iconst 2, 1) := by decide +kernel
theorem dX6_property_123 : decode cX6_property 123 = .ok (.if_icmp .ne 13, 3) := by decide +kernel
theorem dX6_property_126 : decode cX6_property 126 = .ok (.aload_n 0, 1) := by decide +kernel
theorem dX6_property_127 : decode cX6_property 127 = .ok (.iload_n 1, 1) := by decide +kernel
theorem dX6_property_128 : decode cX6_property 128 = .ok (.bipush 8, 2) := by decide +kernel
theorem dX6_property_130 : decode cX6_property 130 = .ok (.invokevirtual 48, 3) := by decide +kernel
theorem dX6_property_133 : decode cX6_property 133 = .ok (.goto 5, 3) := by decide +kernel
theorem dX6_property_136 : decode cX6_property 136 = .ok (.ldc 174, 2) := by decide +kernel
theorem dX6_property_138 : decode cX6_property 138 = .ok (.ireturn, 1) := by decide +kernel
theorem dX6_property_139 : decode cX6_property 139 = .ok (.aload_n 0, 1) := by decide +kernel
theorem dX6_property_140 : decode cX6_property 140 = .ok (.iload_n 1, 1) := by decide +kernel
theorem dX6_property_141 : decode cX6_property 141 = .ok (.iconst 5, 1) := by decide +kernel
theorem dX6_property_142 : decode cX6_property 142 = .ok (.invokevirtual 48, 3) := by decide +kernel
theorem dX6_property_145 : decode cX6_property 145 = .ok (.iload_n 1, 1) := by decide +kernel
theorem dX6_property_146 : decode cX6_property 146 = .ok (.if_icmp .ne 8, 3) := by decide +kernel
theorem dX6_property_149 : decode cX6_property 149 = .ok (.ldc 174, 2) := by decide +kernel
theorem dX6_property_151 : decode cX6_property 151 = .ok (.goto 9, 3) := by decide +kernel
theorem dX6_property_154 : decode cX6_property 154 = .ok (.aload_n 0, 1) := by decide +kernel
theorem dX6_property_155 : decode cX6_property 155 = .ok (.iload_n 1, 1) := by decide +kernel
theorem dX6_property_156 : decode cX6_property 156 = .ok (.iconst 5, 1) := by decide +kernel
theorem dX6_property_157 : decode cX6_property 157 = .ok (.invokevirtual 48, 3) := by decide +kernel
theorem dX6_property_160 : decode cX6_property 160 = .ok (.ireturn, 1) := by decide +kernel
theorem dX6_property_161 : decode cX6_property 161 = .ok (.aload_n 0, 1) := by decide +kernel
theorem dX6_property_162 : decode cX6_property 162 = .ok (.iload_n 1, 1) := by decide +kernel
theorem dX6_property_163 : decode cX6_property 163 = .ok (.bipush 10, 2) := by decide +kernel
theorem dX6_property_165 : decode cX6_property 165 = .ok (.invokevirtual 48, 3) := by decide +kernel
theorem dX6_property_168 : decode cX6_property 168 = .ok (.ireturn, 1) := by decide +kernel
theorem dX6_property_169 : decode cX6_property 169 = .ok (.aload_n 0, 1) := by decide +kernel
theorem dX6_property_170 : decode cX6_property 170 = .ok (.iload_n 1, 1) := by decide +kernel
theorem dX6_property_171 : decode cX6_property 171 = .ok (.bipush 11, 2) := by decide +kernel
theorem dX6_property_173 : decode cX6_property 173 = .ok (.invokevirtual 48, 3) := by decide +kernel
theorem dX6_property_176 : decode cX6_property 176 = .ok (.ireturn, 1) := by decide +kernel
theorem dX6_property_177 : decode cX6_property 177 = .ok (.aload_n 0, 1) := by decide +kernel
theorem dX6_property_178 : decode cX6_property 178 = .ok (.iload_n 1, 1) := by decide +kernel
theorem dX6_property_179 : decode cX6_property 179 = .ok (.bipush 12, 2) := by decide +kernel
theorem dX6_property_181 : decode cX6_property 181 = .ok (.invokevirtual 48, 3) := by decide +kernel
theorem dX6_property_184 : decode cX6_property 184 = .ok (.ireturn, 1) := by decide +kernel
theorem dX6_clockOf_0 : decode cX6_clockOf 0 = .ok (.aload_n 0, 1) := by decide +kernel
theorem dX6_clockOf_1 : decode cX6_clockOf 1 = .ok (.iload_n 1, 1) := by decide +kernel
theorem dX6_clockOf_2 : decode cX6_clockOf 2 = .ok (.invokevirtual 125, 3) := by decide +kernel
theorem dX6_clockOf_5 : decode cX6_clockOf 5 = .ok (.ifCond .eq 22, 3) := by decide +kernel
theorem dX6_clockOf_8 : decode cX6_clockOf 8 = .ok (.iload_n 2, 1) := by decide +kernel
theorem dX6_clockOf_9 : decode cX6_clockOf 9 = .ok (.iconst 0, 1) := by decide +kernel
theorem dX6_clockOf_10 : decode cX6_clockOf 10 = .ok (.bipush 11, 2) := by decide +kernel
theorem dX6_clockOf_12 : decode cX6_clockOf 12 = .ok (.invokestatic 36, 3) := by decide +kernel
theorem dX6_clockOf_15 : decode cX6_clockOf 15 = .ok (.ifCond .eq 12, 3) := by decide +kernel
theorem dX6_clockOf_18 : decode cX6_clockOf 18 = .ok (.aload_n 0, 1) := by decide +kernel
theorem dX6_clockOf_19 : decode cX6_clockOf 19 = .ok (.iload_n 1, 1) := by decide +kernel
theorem dX6_clockOf_20 : decode cX6_clockOf 20 = .ok (.iload_n 2, 1) := by decide +kernel
theorem dX6_clockOf_21 : decode cX6_clockOf 21 = .ok (.invokevirtual 175, 3) := by decide +kernel
theorem dX6_clockOf_24 : decode cX6_clockOf 24 = .ok (.goto 5, 3) := by decide +kernel
theorem dX6_clockOf_27 : decode cX6_clockOf 27 = .ok (.ldc 35, 2) := by decide +kernel
theorem dX6_clockOf_29 : decode cX6_clockOf 29 = .ok (.ireturn, 1) := by decide +kernel
theorem dX6_hour_0 : decode cX6_hour 0 = .ok (.aload_n 0, 1) := by decide +kernel
theorem dX6_hour_1 : decode cX6_hour 1 = .ok (.iload_n 1, 1) := by decide +kernel
theorem dX6_hour_2 : decode cX6_hour 2 = .ok (.invokevirtual 125, 3) := by decide +kernel
theorem dX6_hour_5 : decode cX6_hour 5 = .ok (.ifCond .eq 12, 3) := by decide +kernel
theorem dX6_hour_8 : decode cX6_hour 8 = .ok (.iload_n 2, 1) := by decide +kernel
theorem dX6_hour_9 : decode cX6_hour 9 = .ok (.iconst 0, 1) := by decide +kernel
theorem dX6_hour_10 : decode cX6_hour 10 = .ok (.iconst 2, 1) := by decide +kernel
theorem dX6_hour_11 : decode cX6_hour 11 = .ok (.invokestatic 36, 3) := by decide +kernel
theorem dX6_hour_14 : decode cX6_hour 14 = .ok (.ifCond .ne 6, 3) := by decide +kernel
theorem dX6_hour_17 : decode cX6_hour 17 = .ok (.ldc 35, 2) := by decide +kernel
theorem dX6_hour_19 : decode cX6_hour 19 = .ok (.ireturn, 1) := by decide +kernel
theorem dX6_hour_20 : decode cX6_hour 20 = .ok (.iload_n 2, 1) := by decide +kernel
theorem dX6_hour_21 : decode cX6_hour 21 = .ok (.ifCond .ne 15, 3) := by decide +kernel
theorem dX6_hour_24 : decode cX6_hour 24 = .ok (.aload_n 0, 1) := by decide +kernel
theorem dX6_hour_25 : decode cX6_hour 25 = .ok (.iload_n 1, 1) := by decide +kernel
theorem dX6_hour_26 : decode cX6_hour 26 = .ok (.invokevirtual 59, 3) := by decide +kernel
theorem dX6_hour_29 : decode cX6_hour 29 = .ok (.sipush 10000, 3) := by decide +kernel
theorem dX6_hour_32 : decode cX6_hour 32 = .ok (.iadd, 1) := by decide +kernel
theorem dX6_hour_33 : decode cX6_hour 33 = .ok (.goto 24, 3) := by decide +kernel
theorem dX6_hour_36 : decode cX6_hour 36 = .ok (.iload_n 2, 1) := by decide +kernel
theorem dX6_hour_37 : decode cX6_hour 37 = .ok (.iconst 1, 1) := by decide +kernel
theorem dX6_hour_38 : decode cX6_hour 38 = .ok (.if_icmp .ne 15, 3) := by decide +kernel
theorem dX6_hour_41 : decode cX6_hour 41 = .ok (.aload_n 0, 1) := by decide +kernel
theorem dX6_hour_42 : decode cX6_hour 42 = .ok (.iload_n 1, 1) := by decide +kernel
theorem dX6_hour_43 : decode cX6_hour 43 = .ok (.invokevirtual 66, 3) := by decide +kernel
theorem dX6_hour_46 : decode cX6_hour 46 = .ok (.sipush 10000, 3) := by decide +kernel
theorem dX6_hour_49 : decode cX6_hour 49 = .ok (.iadd, 1) := by decide +kernel
theorem dX6_hour_50 : decode cX6_hour 50 = .ok (.goto 7, 3) := by decide +kernel
theorem dX6_hour_53 : decode cX6_hour 53 = .ok (.aload_n 0, 1) := by decide +kernel
theorem dX6_hour_54 : decode cX6_hour 54 = .ok (.invokevirtual 62, 3) := by decide +kernel
theorem dX6_hour_57 : decode cX6_hour 57 = .ok (.ireturn, 1) := by decide +kernel
theorem dX6_sum_0 : decode cX6_sum 0 = .ok (.iconst 0, 1) := by decide +kernel
theorem dX6_sum_1 : decode cX6_sum 1 = .ok (.istore_n 2, 1) := by decide +kernel
theorem dX6_sum_2 : decode cX6_sum 2 = .ok (.iconst 0, 1) := by decide +kernel
theorem dX6_sum_3 : decode cX6_sum 3 = .ok (.istore_n 3, 1) := by decide +kernel
theorem dX6_sum_4 : decode cX6_sum 4 = .ok (.iload_n 3, 1) := by decide +kernel
theorem dX6_sum_5 : decode cX6_sum 5 = .ok (.aload_n 0, 1) := by decide +kernel
theorem dX6_sum_6 : decode cX6_sum 6 = .ok (.getfield 7, 3) := by decide +kernel
theorem dX6_sum_9 : decode cX6_sum 9 = .ok (.bipush 19, 2) := by decide +kernel
theorem dX6_sum_11 : decode cX6_sum 11 = .ok (.iaload, 1) := by decide +kernel
theorem dX6_sum_12 : decode cX6_sum 12 = .ok (.if_icmp .ge 18, 3) := by decide +kernel
theorem dX6_sum_15 : decode cX6_sum 15 = .ok (.iload_n 2, 1) := by decide +kernel
theorem dX6_sum_16 : decode cX6_sum 16 = .ok (.aload_n 0, 1) := by decide +kernel
theorem dX6_sum_17 : decode cX6_sum 17 = .ok (.iload_n 3, 1) := by decide +kernel
theorem dX6_sum_18 : decode cX6_sum 18 = .ok (.iload_n 1, 1) := by decide +kernel
theorem dX6_sum_19 : decode cX6_sum 19 = .ok (.invokevirtual 48, 3) := by decide +kernel
theorem dX6_sum_22 : decode cX6_sum 22 = .ok (.iadd, 1) := by decide +kernel
theorem dX6_sum_23 : decode cX6_sum 23 = .ok (.istore_n 2, 1) := by decide +kernel
theorem dX6_sum_24 : decode cX6_sum 24 = .ok (.iinc 3 1, 3) := by decide +kernel
theorem dX6_sum_27 : decode cX6_sum 27 = .ok (.goto (-23), 3) := by decide +kernel
theorem dX6_sum_30 : decode cX6_sum 30 = .ok (.iload_n 2, 1) := by decide +kernel
theorem dX6_sum_31 : decode cX6_sum 31 = .ok (.ireturn, 1) := by decide +kernel
theorem dX6_water_0 : decode cX6_water 0 = .ok (.iload_n 1, 1) := by decide +kernel
theorem dX6_water_1 : decode cX6_water 1 = .ok (.tableswitch 165 0 9 #[55, 63, 69, 75, 83, 91, 127, 135, 143, 157], 55) := by decide +kernel
theorem dX6_water_56 : decode cX6_water 56 = .ok (.aload_n 0, 1) := by decide +kernel
theorem dX6_water_57 : decode cX6_water 57 = .ok (.getfield 7, 3) := by decide +kernel
theorem dX6_water_60 : decode cX6_water 60 = .ok (.bipush 7, 2) := by decide +kernel
theorem dX6_water_62 : decode cX6_water 62 = .ok (.iaload, 1) := by decide +kernel
theorem dX6_water_63 : decode cX6_water 63 = .ok (.ireturn, 1) := by decide +kernel
theorem dX6_water_64 : decode cX6_water 64 = .ok (.aload_n 0, 1) := by decide +kernel
theorem dX6_water_65 : decode cX6_water 65 = .ok (.iconst 3, 1) := by decide +kernel
theorem dX6_water_66 : decode cX6_water 66 = .ok (.invokevirtual 178, 3) := by decide +kernel
theorem dX6_water_69 : decode cX6_water 69 = .ok (.ireturn, 1) := by decide +kernel
theorem dX6_water_70 : decode cX6_water 70 = .ok (.aload_n 0, 1) := by decide +kernel
theorem dX6_water_71 : decode cX6_water 71 = .ok (.iconst 4, 1) := by decide +kernel
theorem dX6_water_72 : decode cX6_water 72 = .ok (.invokevirtual 178, 3) := by decide +kernel
theorem dX6_water_75 : decode cX6_water 75 = .ok (.ireturn, 1) := by decide +kernel
theorem dX6_water_76 : decode cX6_water 76 = .ok (.aload_n 0, 1) := by decide +kernel
theorem dX6_water_77 : decode cX6_water 77 = .ok (.getfield 7, 3) := by decide +kernel
theorem dX6_water_80 : decode cX6_water 80 = .ok (.bipush 8, 2) := by decide +kernel
theorem dX6_water_82 : decode cX6_water 82 = .ok (.iaload, 1) := by decide +kernel
theorem dX6_water_83 : decode cX6_water 83 = .ok (.ireturn, 1) := by decide +kernel
theorem dX6_water_84 : decode cX6_water 84 = .ok (.aload_n 0, 1) := by decide +kernel
theorem dX6_water_85 : decode cX6_water 85 = .ok (.getfield 7, 3) := by decide +kernel
theorem dX6_water_88 : decode cX6_water 88 = .ok (.bipush 9, 2) := by decide +kernel
theorem dX6_water_90 : decode cX6_water 90 = .ok (.iaload, 1) := by decide +kernel
theorem dX6_water_91 : decode cX6_water 91 = .ok (.ireturn, 1) := by decide +kernel
theorem dX6_water_92 : decode cX6_water 92 = .ok (.aload_n 0, 1) := by decide +kernel
theorem dX6_water_93 : decode cX6_water 93 = .ok (.getfield 7, 3) := by decide +kernel
theorem dX6_water_96 : decode cX6_water 96 = .ok (.bipush 7, 2) := by decide +kernel
theorem dX6_water_98 : decode cX6_water 98 = .ok (.iaload, 1) := by decide +kernel
theorem dX6_water_99 : decode cX6_water 99 = .ok (.aload_n 0, 1) := by decide +kernel
theorem dX6_water_100 : decode cX6_water 100 = .ok (.iconst 3, 1) := by decide +kernel
theorem dX6_water_101 : decode cX6_water 101 = .ok (.invokevirtual 178, 3) := by decide +kernel
theorem dX6_water_104 : decode cX6_water 104 = .ok (.iadd, 1) := by decide +kernel
theorem dX6_water_105 : decode cX6_water 105 = .ok (.aload_n 0, 1) := by decide +kernel
theorem dX6_water_106 : decode cX6_water 106 = .ok (.iconst 4, 1) := by decide +kernel
theorem dX6_water_107 : decode cX6_water 107 = .ok (.invokevirtual 178, 3) := by decide +kernel
theorem dX6_water_110 : decode cX6_water 110 = .ok (.iadd, 1) := by decide +kernel
theorem dX6_water_111 : decode cX6_water 111 = .ok (.aload_n 0, 1) := by decide +kernel
theorem dX6_water_112 : decode cX6_water 112 = .ok (.getfield 7, 3) := by decide +kernel
theorem dX6_water_115 : decode cX6_water 115 = .ok (.bipush 8, 2) := by decide +kernel
theorem dX6_water_117 : decode cX6_water 117 = .ok (.iaload, 1) := by decide +kernel
theorem dX6_water_118 : decode cX6_water 118 = .ok (.iadd, 1) := by decide +kernel
theorem dX6_water_119 : decode cX6_water 119 = .ok (.aload_n 0, 1) := by decide +kernel
theorem dX6_water_120 : decode cX6_water 120 = .ok (.getfield 7, 3) := by decide +kernel
theorem dX6_water_123 : decode cX6_water 123 = .ok (.bipush 9, 2) := by decide +kernel
theorem dX6_water_125 : decode cX6_water 125 = .ok (.iaload, 1) := by decide +kernel
theorem dX6_water_126 : decode cX6_water 126 = .ok (.iadd, 1) := by decide +kernel
theorem dX6_water_127 : decode cX6_water 127 = .ok (.ireturn, 1) := by decide +kernel
theorem dX6_water_128 : decode cX6_water 128 = .ok (.aload_n 0, 1) := by decide +kernel
theorem dX6_water_129 : decode cX6_water 129 = .ok (.getfield 7, 3) := by decide +kernel
theorem dX6_water_132 : decode cX6_water 132 = .ok (.bipush 10, 2) := by decide +kernel
theorem dX6_water_134 : decode cX6_water 134 = .ok (.iaload, 1) := by decide +kernel
theorem dX6_water_135 : decode cX6_water 135 = .ok (.ireturn, 1) := by decide +kernel
theorem dX6_water_136 : decode cX6_water 136 = .ok (.aload_n 0, 1) := by decide +kernel
theorem dX6_water_137 : decode cX6_water 137 = .ok (.getfield 7, 3) := by decide +kernel
theorem dX6_water_140 : decode cX6_water 140 = .ok (.bipush 11, 2) := by decide +kernel
theorem dX6_water_142 : decode cX6_water 142 = .ok (.iaload, 1) := by decide +kernel
theorem dX6_water_143 : decode cX6_water 143 = .ok (.ireturn, 1) := by decide +kernel
theorem dX6_water_144 : decode cX6_water 144 = .ok (.aload_n 0, 1) := by decide +kernel
theorem dX6_water_145 : decode cX6_water 145 = .ok (.getfield 7, 3) := by decide +kernel
theorem dX6_water_148 : decode cX6_water 148 = .ok (.bipush 12, 2) := by decide +kernel
theorem dX6_water_150 : decode cX6_water 150 = .ok (.iaload, 1) := by decide +kernel
theorem dX6_water_151 : decode cX6_water 151 = .ok (.aload_n 0, 1) := by decide +kernel
theorem dX6_water_152 : decode cX6_water 152 = .ok (.iconst 3, 1) := by decide +kernel
theorem dX6_water_153 : decode cX6_water 153 = .ok (.invokevirtual 178, 3) := by decide +kernel
theorem dX6_water_156 : decode cX6_water 156 = .ok (.isub, 1) := by decide +kernel
theorem dX6_water_157 : decode cX6_water 157 = .ok (.ireturn, 1) := by decide +kernel
theorem dX6_water_158 : decode cX6_water 158 = .ok (.aload_n 0, 1) := by decide +kernel
theorem dX6_water_159 : decode cX6_water 159 = .ok (.getfield 7, 3) := by decide +kernel
theorem dX6_water_162 : decode cX6_water 162 = .ok (.bipush 13, 2) := by decide +kernel
theorem dX6_water_164 : decode cX6_water 164 = .ok (.iaload, 1) := by decide +kernel
theorem dX6_water_165 : decode cX6_water 165 = .ok (.ireturn, 1) := by decide +kernel
theorem dX6_water_166 : decode cX6_water 166 = .ok (.ldc 35, 2) := by decide +kernel
theorem dX6_water_168 : decode cX6_water 168 = .ok (.ireturn, 1) := by decide +kernel
theorem dX6_noon__0 : decode cX6_noon_ 0 = .ok (.iload_n 1, 1) := by decide +kernel
theorem dX6_noon__1 : decode cX6_noon_ 1 = .ok (.ifCond .lt 7, 3) := by decide +kernel
theorem dX6_noon__4 : decode cX6_noon_ 4 = .ok (.iload_n 2, 1) := by decide +kernel
theorem dX6_noon__5 : decode cX6_noon_ 5 = .ok (.ifCond .ge 6, 3) := by decide +kernel
theorem dX6_noon__8 : decode cX6_noon_ 8 = .ok (.ldc 35, 2) := by decide +kernel
theorem dX6_noon__10 : decode cX6_noon_ 10 = .ok (.ireturn, 1) := by decide +kernel
theorem dX6_noon__11 : decode cX6_noon_ 11 = .ok (.iload_n 1, 1) := by decide +kernel
theorem dX6_noon__12 : decode cX6_noon_ 12 = .ok (.aload_n 0, 1) := by decide +kernel
theorem dX6_noon__13 : decode cX6_noon_ 13 = .ok (.getfield 7, 3) := by decide +kernel
theorem dX6_noon__16 : decode cX6_noon_ 16 = .ok (.bipush 95, 2) := by decide +kernel
theorem dX6_noon__18 : decode cX6_noon_ 18 = .ok (.iaload, 1) := by decide +kernel
theorem dX6_noon__19 : decode cX6_noon_ 19 = .ok (.if_icmp .ge 42, 3) := by decide +kernel
theorem dX6_noon__22 : decode cX6_noon_ 22 = .ok (.iload_n 2, 1) := by decide +kernel
theorem dX6_noon__23 : decode cX6_noon_ 23 = .ok (.aload_n 0, 1) := by decide +kernel
theorem dX6_noon__24 : decode cX6_noon_ 24 = .ok (.getfield 7, 3) := by decide +kernel
theorem dX6_noon__27 : decode cX6_noon_ 27 = .ok (.bipush 96, 2) := by decide +kernel
theorem dX6_noon__29 : decode cX6_noon_ 29 = .ok (.bipush 6, 2) := by decide +kernel
theorem dX6_noon__31 : decode cX6_noon_ 31 = .ok (.iload_n 1, 1) := by decide +kernel
theorem dX6_noon__32 : decode cX6_noon_ 32 = .ok (.imul, 1) := by decide +kernel
theorem dX6_noon__33 : decode cX6_noon_ 33 = .ok (.iadd, 1) := by decide +kernel
theorem dX6_noon__34 : decode cX6_noon_ 34 = .ok (.iaload, 1) := by decide +kernel
theorem dX6_noon__35 : decode cX6_noon_ 35 = .ok (.if_icmp .ge 26, 3) := by decide +kernel
theorem dX6_noon__38 : decode cX6_noon_ 38 = .ok (.aload_n 0, 1) := by decide +kernel
theorem dX6_noon__39 : decode cX6_noon_ 39 = .ok (.getfield 7, 3) := by decide +kernel
theorem dX6_noon__42 : decode cX6_noon_ 42 = .ok (.bipush 96, 2) := by decide +kernel
theorem dX6_noon__44 : decode cX6_noon_ 44 = .ok (.bipush 6, 2) := by decide +kernel
theorem dX6_noon__46 : decode cX6_noon_ 46 = .ok (.iload_n 1, 1) := by decide +kernel
theorem dX6_noon__47 : decode cX6_noon_ 47 = .ok (.imul, 1) := by decide +kernel
theorem dX6_noon__48 : decode cX6_noon_ 48 = .ok (.iadd, 1) := by decide +kernel
theorem dX6_noon__49 : decode cX6_noon_ 49 = .ok (.iconst 1, 1) := by decide +kernel
theorem dX6_noon__50 : decode cX6_noon_ 50 = .ok (.iadd, 1) := by decide +kernel
theorem dX6_noon__51 : decode cX6_noon_ 51 = .ok (.iload_n 2, 1) := by decide +kernel
theorem dX6_noon__52 : decode cX6_noon_ 52 = .ok (.iadd, 1) := by decide +kernel
theorem dX6_noon__53 : decode cX6_noon_ 53 = .ok (.iaload, 1) := by decide +kernel
theorem dX6_noon__54 : decode cX6_noon_ 54 = .ok (.sipush 10000, 3) := by decide +kernel
theorem dX6_noon__57 : decode cX6_noon_ 57 = .ok (.iadd, 1) := by decide +kernel
theorem dX6_noon__58 : decode cX6_noon_ 58 = .ok (.goto 5, 3) := by decide +kernel
theorem dX6_noon__61 : decode cX6_noon_ 61 = .ok (.ldc 174, 2) := by decide +kernel
theorem dX6_noon__63 : decode cX6_noon_ 63 = .ok (.ireturn, 1) := by decide +kernel
theorem dX6_why_0 : decode cX6_why 0 = .ok (.aload_n 0, 1) := by decide +kernel
theorem dX6_why_1 : decode cX6_why 1 = .ok (.iload_n 1, 1) := by decide +kernel
theorem dX6_why_2 : decode cX6_why 2 = .ok (.invokevirtual 125, 3) := by decide +kernel
theorem dX6_why_5 : decode cX6_why 5 = .ok (.ifCond .eq 21, 3) := by decide +kernel
theorem dX6_why_8 : decode cX6_why 8 = .ok (.iload_n 2, 1) := by decide +kernel
theorem dX6_why_9 : decode cX6_why 9 = .ok (.iconst 0, 1) := by decide +kernel
theorem dX6_why_10 : decode cX6_why 10 = .ok (.iconst 2, 1) := by decide +kernel
theorem dX6_why_11 : decode cX6_why 11 = .ok (.invokestatic 36, 3) := by decide +kernel
theorem dX6_why_14 : decode cX6_why 14 = .ok (.ifCond .eq 12, 3) := by decide +kernel
theorem dX6_why_17 : decode cX6_why 17 = .ok (.aload_n 0, 1) := by decide +kernel
theorem dX6_why_18 : decode cX6_why 18 = .ok (.iload_n 1, 1) := by decide +kernel
theorem dX6_why_19 : decode cX6_why 19 = .ok (.iload_n 2, 1) := by decide +kernel
theorem dX6_why_20 : decode cX6_why 20 = .ok (.invokevirtual 132, 3) := by decide +kernel
theorem dX6_why_23 : decode cX6_why 23 = .ok (.goto 5, 3) := by decide +kernel
theorem dX6_why_26 : decode cX6_why 26 = .ok (.ldc 35, 2) := by decide +kernel
theorem dX6_why_28 : decode cX6_why 28 = .ok (.ireturn, 1) := by decide +kernel
theorem dX6_emptyIn_0 : decode cX6_emptyIn 0 = .ok (.aload_n 0, 1) := by decide +kernel
theorem dX6_emptyIn_1 : decode cX6_emptyIn 1 = .ok (.iload_n 1, 1) := by decide +kernel
theorem dX6_emptyIn_2 : decode cX6_emptyIn 2 = .ok (.invokevirtual 125, 3) := by decide +kernel
theorem dX6_emptyIn_5 : decode cX6_emptyIn 5 = .ok (.ifCond .ne 6, 3) := by decide +kernel
theorem dX6_emptyIn_8 : decode cX6_emptyIn 8 = .ok (.ldc 35, 2) := by decide +kernel
theorem dX6_emptyIn_10 : decode cX6_emptyIn 10 = .ok (.ireturn, 1) := by decide +kernel
theorem dX6_emptyIn_11 : decode cX6_emptyIn 11 = .ok (.aload_n 0, 1) := by decide +kernel
theorem dX6_emptyIn_12 : decode cX6_emptyIn 12 = .ok (.invokevirtual 181, 3) := by decide +kernel
theorem dX6_emptyIn_15 : decode cX6_emptyIn 15 = .ok (.iconst 0, 1) := by decide +kernel
theorem dX6_emptyIn_16 : decode cX6_emptyIn 16 = .ok (.istore_n 2, 1) := by decide +kernel
theorem dX6_emptyIn_17 : decode cX6_emptyIn 17 = .ok (.iload_n 2, 1) := by decide +kernel
theorem dX6_emptyIn_18 : decode cX6_emptyIn 18 = .ok (.sipush 1000, 3) := by decide +kernel
theorem dX6_emptyIn_21 : decode cX6_emptyIn 21 = .ok (.if_icmp .ge 23, 3) := by decide +kernel
theorem dX6_emptyIn_24 : decode cX6_emptyIn 24 = .ok (.aload_n 0, 1) := by decide +kernel
theorem dX6_emptyIn_25 : decode cX6_emptyIn 25 = .ok (.iload_n 1, 1) := by decide +kernel
theorem dX6_emptyIn_26 : decode cX6_emptyIn 26 = .ok (.iconst 3, 1) := by decide +kernel
theorem dX6_emptyIn_27 : decode cX6_emptyIn 27 = .ok (.invokevirtual 48, 3) := by decide +kernel
theorem dX6_emptyIn_30 : decode cX6_emptyIn 30 = .ok (.ifCond .le 14, 3) := by decide +kernel
theorem dX6_emptyIn_33 : decode cX6_emptyIn 33 = .ok (.aload_n 0, 1) := by decide +kernel
theorem dX6_emptyIn_34 : decode cX6_emptyIn 34 = .ok (.invokevirtual 136, 3) := by decide +kernel
theorem dX6_emptyIn_37 : decode cX6_emptyIn 37 = .ok (.istore_n 3, 1) := by decide +kernel
theorem dX6_emptyIn_38 : decode cX6_emptyIn 38 = .ok (.iinc 2 1, 3) := by decide +kernel
theorem dX6_emptyIn_41 : decode cX6_emptyIn 41 = .ok (.goto (-24), 3) := by decide +kernel
theorem dX6_emptyIn_44 : decode cX6_emptyIn 44 = .ok (.aload_n 0, 1) := by decide +kernel
theorem dX6_emptyIn_45 : decode cX6_emptyIn 45 = .ok (.iload_n 1, 1) := by decide +kernel
theorem dX6_emptyIn_46 : decode cX6_emptyIn 46 = .ok (.iconst 3, 1) := by decide +kernel
theorem dX6_emptyIn_47 : decode cX6_emptyIn 47 = .ok (.invokevirtual 48, 3) := by decide +kernel
theorem dX6_emptyIn_50 : decode cX6_emptyIn 50 = .ok (.ifCond .ne 7, 3) := by decide +kernel
theorem dX6_emptyIn_53 : decode cX6_emptyIn 53 = .ok (.iload_n 2, 1) := by decide +kernel
theorem dX6_emptyIn_54 : decode cX6_emptyIn 54 = .ok (.goto 5, 3) := by decide +kernel
theorem dX6_emptyIn_57 : decode cX6_emptyIn 57 = .ok (.ldc 174, 2) := by decide +kernel
theorem dX6_emptyIn_59 : decode cX6_emptyIn 59 = .ok (.istore_n 3, 1) := by decide +kernel
theorem dX6_emptyIn_60 : decode cX6_emptyIn 60 = .ok (.aload_n 0, 1) := by decide +kernel
theorem dX6_emptyIn_61 : decode cX6_emptyIn 61 = .ok (.invokevirtual 184, 3) := by decide +kernel
theorem dX6_emptyIn_64 : decode cX6_emptyIn 64 = .ok (.iload_n 3, 1) := by decide +kernel
theorem dX6_emptyIn_65 : decode cX6_emptyIn 65 = .ok (.ireturn, 1) := by decide +kernel
theorem dX6_errorAtNoon_0 : decode cX6_errorAtNoon 0 = .ok (.aload_n 0, 1) := by decide +kernel
theorem dX6_errorAtNoon_1 : decode cX6_errorAtNoon 1 = .ok (.invokevirtual 181, 3) := by decide +kernel
theorem dX6_errorAtNoon_4 : decode cX6_errorAtNoon 4 = .ok (.aload_n 0, 1) := by decide +kernel
theorem dX6_errorAtNoon_5 : decode cX6_errorAtNoon 5 = .ok (.iload_n 1, 1) := by decide +kernel
theorem dX6_errorAtNoon_6 : decode cX6_errorAtNoon 6 = .ok (.iconst 1, 1) := by decide +kernel
theorem dX6_errorAtNoon_7 : decode cX6_errorAtNoon 7 = .ok (.iload_n 2, 1) := by decide +kernel
theorem dX6_errorAtNoon_8 : decode cX6_errorAtNoon 8 = .ok (.ineg, 1) := by decide +kernel
theorem dX6_errorAtNoon_9 : decode cX6_errorAtNoon 9 = .ok (.invokevirtual 80, 3) := by decide +kernel
theorem dX6_errorAtNoon_12 : decode cX6_errorAtNoon 12 = .ok (.aload_n 0, 1) := by decide +kernel
theorem dX6_errorAtNoon_13 : decode cX6_errorAtNoon 13 = .ok (.invokevirtual 114, 3) := by decide +kernel
theorem dX6_errorAtNoon_16 : decode cX6_errorAtNoon 16 = .ok (.istore_n 3, 1) := by decide +kernel
theorem dX6_errorAtNoon_17 : decode cX6_errorAtNoon 17 = .ok (.aload_n 0, 1) := by decide +kernel
theorem dX6_errorAtNoon_18 : decode cX6_errorAtNoon 18 = .ok (.invokevirtual 117, 3) := by decide +kernel
theorem dX6_errorAtNoon_21 : decode cX6_errorAtNoon 21 = .ok (.ifCond .ne 11, 3) := by decide +kernel
theorem dX6_errorAtNoon_24 : decode cX6_errorAtNoon 24 = .ok (.aload_n 0, 1) := by decide +kernel
theorem dX6_errorAtNoon_25 : decode cX6_errorAtNoon 25 = .ok (.invokevirtual 114, 3) := by decide +kernel
theorem dX6_errorAtNoon_28 : decode cX6_errorAtNoon 28 = .ok (.istore_n 3, 1) := by decide +kernel
theorem dX6_errorAtNoon_29 : decode cX6_errorAtNoon 29 = .ok (.goto (-12), 3) := by decide +kernel
theorem dX6_errorAtNoon_32 : decode cX6_errorAtNoon 32 = .ok (.aload_n 0, 1) := by decide +kernel
theorem dX6_errorAtNoon_33 : decode cX6_errorAtNoon 33 = .ok (.iload_n 1, 1) := by decide +kernel
theorem dX6_errorAtNoon_34 : decode cX6_errorAtNoon 34 = .ok (.invokevirtual 66, 3) := by decide +kernel
theorem dX6_errorAtNoon_37 : decode cX6_errorAtNoon 37 = .ok (.istore 4, 2) := by decide +kernel
theorem dX6_errorAtNoon_39 : decode cX6_errorAtNoon 39 = .ok (.aload_n 0, 1) := by decide +kernel
theorem dX6_errorAtNoon_40 : decode cX6_errorAtNoon 40 = .ok (.invokevirtual 184, 3) := by decide +kernel
theorem dX6_errorAtNoon_43 : decode cX6_errorAtNoon 43 = .ok (.iload 4, 2) := by decide +kernel
theorem dX6_errorAtNoon_45 : decode cX6_errorAtNoon 45 = .ok (.ireturn, 1) := by decide +kernel
theorem dX6_noonError_0 : decode cX6_noonError 0 = .ok (.aload_n 0, 1) := by decide +kernel
theorem dX6_noonError_1 : decode cX6_noonError 1 = .ok (.iload_n 1, 1) := by decide +kernel
theorem dX6_noonError_2 : decode cX6_noonError 2 = .ok (.invokevirtual 125, 3) := by decide +kernel
theorem dX6_noonError_5 : decode cX6_noonError 5 = .ok (.ifCond .eq 16, 3) := by decide +kernel
theorem dX6_noonError_8 : decode cX6_noonError 8 = .ok (.aload_n 0, 1) := by decide +kernel
theorem dX6_noonError_9 : decode cX6_noonError 9 = .ok (.iload_n 1, 1) := by decide +kernel
theorem dX6_noonError_10 : decode cX6_noonError 10 = .ok (.iconst 0, 1) := by decide +kernel
theorem dX6_noonError_11 : decode cX6_noonError 11 = .ok (.invokevirtual 187, 3) := by decide +kernel
theorem dX6_noonError_14 : decode cX6_noonError 14 = .ok (.sipush 10000, 3) := by decide +kernel
theorem dX6_noonError_17 : decode cX6_noonError 17 = .ok (.iadd, 1) := by decide +kernel
theorem dX6_noonError_18 : decode cX6_noonError 18 = .ok (.goto 5, 3) := by decide +kernel
theorem dX6_noonError_21 : decode cX6_noonError 21 = .ok (.ldc 35, 2) := by decide +kernel
theorem dX6_noonError_23 : decode cX6_noonError 23 = .ok (.ireturn, 1) := by decide +kernel
theorem dX6_waxFor_0 : decode cX6_waxFor 0 = .ok (.iconst 0, 1) := by decide +kernel
theorem dX6_waxFor_1 : decode cX6_waxFor 1 = .ok (.istore_n 2, 1) := by decide +kernel
theorem dX6_waxFor_2 : decode cX6_waxFor 2 = .ok (.aload_n 0, 1) := by decide +kernel
theorem dX6_waxFor_3 : decode cX6_waxFor 3 = .ok (.aload_n 0, 1) := by decide +kernel
theorem dX6_waxFor_4 : decode cX6_waxFor 4 = .ok (.iload_n 1, 1) := by decide +kernel
theorem dX6_waxFor_5 : decode cX6_waxFor 5 = .ok (.iconst 0, 1) := by decide +kernel
theorem dX6_waxFor_6 : decode cX6_waxFor 6 = .ok (.invokevirtual 187, 3) := by decide +kernel
theorem dX6_waxFor_9 : decode cX6_waxFor 9 = .ok (.invokevirtual 69, 3) := by decide +kernel
theorem dX6_waxFor_12 : decode cX6_waxFor 12 = .ok (.istore_n 3, 1) := by decide +kernel
theorem dX6_waxFor_13 : decode cX6_waxFor 13 = .ok (.iconst 1, 1) := by decide +kernel
theorem dX6_waxFor_14 : decode cX6_waxFor 14 = .ok (.istore 4, 2) := by decide +kernel
theorem dX6_waxFor_16 : decode cX6_waxFor 16 = .ok (.iload 4, 2) := by decide +kernel
theorem dX6_waxFor_18 : decode cX6_waxFor 18 = .ok (.aload_n 0, 1) := by decide +kernel
theorem dX6_waxFor_19 : decode cX6_waxFor 19 = .ok (.iload_n 1, 1) := by decide +kernel
theorem dX6_waxFor_20 : decode cX6_waxFor 20 = .ok (.iconst 1, 1) := by decide +kernel
theorem dX6_waxFor_21 : decode cX6_waxFor 21 = .ok (.invokevirtual 48, 3) := by decide +kernel
theorem dX6_waxFor_24 : decode cX6_waxFor 24 = .ok (.if_icmp .ge 48, 3) := by decide +kernel
theorem dX6_waxFor_27 : decode cX6_waxFor 27 = .ok (.aload_n 0, 1) := by decide +kernel
theorem dX6_waxFor_28 : decode cX6_waxFor 28 = .ok (.aload_n 0, 1) := by decide +kernel
theorem dX6_waxFor_29 : decode cX6_waxFor 29 = .ok (.iload_n 1, 1) := by decide +kernel
theorem dX6_waxFor_30 : decode cX6_waxFor 30 = .ok (.iload 4, 2) := by decide +kernel
theorem dX6_waxFor_32 : decode cX6_waxFor 32 = .ok (.invokevirtual 187, 3) := by decide +kernel
theorem dX6_waxFor_35 : decode cX6_waxFor 35 = .ok (.invokevirtual 69, 3) := by decide +kernel
theorem dX6_waxFor_38 : decode cX6_waxFor 38 = .ok (.istore 5, 2) := by decide +kernel
theorem dX6_waxFor_40 : decode cX6_waxFor 40 = .ok (.iload 5, 2) := by decide +kernel
theorem dX6_waxFor_42 : decode cX6_waxFor 42 = .ok (.iload_n 3, 1) := by decide +kernel
theorem dX6_waxFor_43 : decode cX6_waxFor 43 = .ok (.if_icmp .ge 8, 3) := by decide +kernel
theorem dX6_waxFor_46 : decode cX6_waxFor 46 = .ok (.iload 4, 2) := by decide +kernel
theorem dX6_waxFor_48 : decode cX6_waxFor 48 = .ok (.goto 4, 3) := by decide +kernel
theorem dX6_waxFor_51 : decode cX6_waxFor 51 = .ok (.iload_n 2, 1) := by decide +kernel
theorem dX6_waxFor_52 : decode cX6_waxFor 52 = .ok (.istore_n 2, 1) := by decide +kernel
theorem dX6_waxFor_53 : decode cX6_waxFor 53 = .ok (.iload 5, 2) := by decide +kernel
theorem dX6_waxFor_55 : decode cX6_waxFor 55 = .ok (.iload_n 3, 1) := by decide +kernel
theorem dX6_waxFor_56 : decode cX6_waxFor 56 = .ok (.if_icmp .ge 8, 3) := by decide +kernel
theorem dX6_waxFor_59 : decode cX6_waxFor 59 = .ok (.iload 5, 2) := by decide +kernel
theorem dX6_waxFor_61 : decode cX6_waxFor 61 = .ok (.goto 4, 3) := by decide +kernel
theorem dX6_waxFor_64 : decode cX6_waxFor 64 = .ok (.iload_n 3, 1) := by decide +kernel
theorem dX6_waxFor_65 : decode cX6_waxFor 65 = .ok (.istore_n 3, 1) := by decide +kernel
theorem dX6_waxFor_66 : decode cX6_waxFor 66 = .ok (.iinc 4 1, 3) := by decide +kernel
theorem dX6_waxFor_69 : decode cX6_waxFor 69 = .ok (.goto (-53), 3) := by decide +kernel
theorem dX6_waxFor_72 : decode cX6_waxFor 72 = .ok (.iload_n 2, 1) := by decide +kernel
theorem dX6_waxFor_73 : decode cX6_waxFor 73 = .ok (.ireturn, 1) := by decide +kernel
theorem dX6_bestWax_0 : decode cX6_bestWax 0 = .ok (.aload_n 0, 1) := by decide +kernel
theorem dX6_bestWax_1 : decode cX6_bestWax 1 = .ok (.iload_n 1, 1) := by decide +kernel
theorem dX6_bestWax_2 : decode cX6_bestWax 2 = .ok (.invokevirtual 125, 3) := by decide +kernel
theorem dX6_bestWax_5 : decode cX6_bestWax 5 = .ok (.ifCond .eq 12, 3) := by decide +kernel
theorem dX6_bestWax_8 : decode cX6_bestWax 8 = .ok (.iload_n 2, 1) := by decide +kernel
theorem dX6_bestWax_9 : decode cX6_bestWax 9 = .ok (.iconst 0, 1) := by decide +kernel
theorem dX6_bestWax_10 : decode cX6_bestWax 10 = .ok (.iconst 1, 1) := by decide +kernel
theorem dX6_bestWax_11 : decode cX6_bestWax 11 = .ok (.invokestatic 36, 3) := by decide +kernel
theorem dX6_bestWax_14 : decode cX6_bestWax 14 = .ok (.ifCond .ne 6, 3) := by decide +kernel
theorem dX6_bestWax_17 : decode cX6_bestWax 17 = .ok (.ldc 35, 2) := by decide +kernel
theorem dX6_bestWax_19 : decode cX6_bestWax 19 = .ok (.ireturn, 1) := by decide +kernel
theorem dX6_bestWax_20 : decode cX6_bestWax 20 = .ok (.aload_n 0, 1) := by decide +kernel
theorem dX6_bestWax_21 : decode cX6_bestWax 21 = .ok (.iload_n 1, 1) := by decide +kernel
theorem dX6_bestWax_22 : decode cX6_bestWax 22 = .ok (.invokevirtual 190, 3) := by decide +kernel
theorem dX6_bestWax_25 : decode cX6_bestWax 25 = .ok (.istore_n 3, 1) := by decide +kernel
theorem dX6_bestWax_26 : decode cX6_bestWax 26 = .ok (.iload_n 2, 1) := by decide +kernel
theorem dX6_bestWax_27 : decode cX6_bestWax 27 = .ok (.ifCond .ne 7, 3) := by decide +kernel
theorem dX6_bestWax_30 : decode cX6_bestWax 30 = .ok (.iload_n 3, 1) := by decide +kernel
theorem dX6_bestWax_31 : decode cX6_bestWax 31 = .ok (.goto 13, 3) := by decide +kernel
theorem dX6_bestWax_34 : decode cX6_bestWax 34 = .ok (.aload_n 0, 1) := by decide +kernel
theorem dX6_bestWax_35 : decode cX6_bestWax 35 = .ok (.iload_n 1, 1) := by decide +kernel
theorem dX6_bestWax_36 : decode cX6_bestWax 36 = .ok (.iload_n 3, 1) := by decide +kernel
theorem dX6_bestWax_37 : decode cX6_bestWax 37 = .ok (.invokevirtual 187, 3) := by decide +kernel
theorem dX6_bestWax_40 : decode cX6_bestWax 40 = .ok (.sipush 10000, 3) := by decide +kernel
theorem dX6_bestWax_43 : decode cX6_bestWax 43 = .ok (.iadd, 1) := by decide +kernel
theorem dX6_bestWax_44 : decode cX6_bestWax 44 = .ok (.ireturn, 1) := by decide +kernel
theorem dX6_rankOf_0 : decode cX6_rankOf 0 = .ok (.iconst 0, 1) := by decide +kernel
theorem dX6_rankOf_1 : decode cX6_rankOf 1 = .ok (.istore_n 2, 1) := by decide +kernel
theorem dX6_rankOf_2 : decode cX6_rankOf 2 = .ok (.iconst 0, 1) := by decide +kernel
theorem dX6_rankOf_3 : decode cX6_rankOf 3 = .ok (.istore_n 3, 1) := by decide +kernel
theorem dX6_rankOf_4 : decode cX6_rankOf 4 = .ok (.iload_n 3, 1) := by decide +kernel
theorem dX6_rankOf_5 : decode cX6_rankOf 5 = .ok (.aload_n 0, 1) := by decide +kernel
theorem dX6_rankOf_6 : decode cX6_rankOf 6 = .ok (.getfield 7, 3) := by decide +kernel
theorem dX6_rankOf_9 : decode cX6_rankOf 9 = .ok (.bipush 19, 2) := by decide +kernel
theorem dX6_rankOf_11 : decode cX6_rankOf 11 = .ok (.iaload, 1) := by decide +kernel
theorem dX6_rankOf_12 : decode cX6_rankOf 12 = .ok (.if_icmp .ge 53, 3) := by decide +kernel
theorem dX6_rankOf_15 : decode cX6_rankOf 15 = .ok (.aload_n 0, 1) := by decide +kernel
theorem dX6_rankOf_16 : decode cX6_rankOf 16 = .ok (.aload_n 0, 1) := by decide +kernel
theorem dX6_rankOf_17 : decode cX6_rankOf 17 = .ok (.iload_n 3, 1) := by decide +kernel
theorem dX6_rankOf_18 : decode cX6_rankOf 18 = .ok (.invokevirtual 66, 3) := by decide +kernel
theorem dX6_rankOf_21 : decode cX6_rankOf 21 = .ok (.invokevirtual 69, 3) := by decide +kernel
theorem dX6_rankOf_24 : decode cX6_rankOf 24 = .ok (.aload_n 0, 1) := by decide +kernel
theorem dX6_rankOf_25 : decode cX6_rankOf 25 = .ok (.aload_n 0, 1) := by decide +kernel
theorem dX6_rankOf_26 : decode cX6_rankOf 26 = .ok (.iload_n 1, 1) := by decide +kernel
theorem dX6_rankOf_27 : decode cX6_rankOf 27 = .ok (.invokevirtual 66, 3) := by decide +kernel
theorem dX6_rankOf_30 : decode cX6_rankOf 30 = .ok (.invokevirtual 69, 3) := by decide +kernel
theorem dX6_rankOf_33 : decode cX6_rankOf 33 = .ok (.isub, 1) := by decide +kernel
theorem dX6_rankOf_34 : decode cX6_rankOf 34 = .ok (.istore 4, 2) := by decide +kernel
theorem dX6_rankOf_36 : decode cX6_rankOf 36 = .ok (.iload_n 2, 1) := by decide +kernel
theorem dX6_rankOf_37 : decode cX6_rankOf 37 = .ok (.iload 4, 2) := by decide +kernel
theorem dX6_rankOf_39 : decode cX6_rankOf 39 = .ok (.ifCond .gt 13, 3) := by decide +kernel
theorem dX6_rankOf_42 : decode cX6_rankOf 42 = .ok (.iload 4, 2) := by decide +kernel
theorem dX6_rankOf_44 : decode cX6_rankOf 44 = .ok (.ifCond .ne 12, 3) := by decide +kernel
theorem dX6_rankOf_47 : decode cX6_rankOf 47 = .ok (.iload_n 3, 1) := by decide +kernel
theorem dX6_rankOf_48 : decode cX6_rankOf 48 = .ok (.iload_n 1, 1) := by decide +kernel
theorem dX6_rankOf_49 : decode cX6_rankOf 49 = .ok (.if_icmp .ge 7, 3) := by decide +kernel
theorem dX6_rankOf_52 : decode cX6_rankOf 52 = .ok (.iconst 1, 1) := by decide +kernel
theorem dX6_rankOf_53 : decode cX6_rankOf 53 = .ok (.goto 4, 3) := by decide +kernel
theorem dX6_rankOf_56 : decode cX6_rankOf 56 = .ok (.iconst 0, 1) := by decide +kernel
theorem dX6_rankOf_57 : decode cX6_rankOf 57 = .ok (.iadd, 1) := by decide +kernel
theorem dX6_rankOf_58 : decode cX6_rankOf 58 = .ok (.istore_n 2, 1) := by decide +kernel
theorem dX6_rankOf_59 : decode cX6_rankOf 59 = .ok (.iinc 3 1, 3) := by decide +kernel
theorem dX6_rankOf_62 : decode cX6_rankOf 62 = .ok (.goto (-58), 3) := by decide +kernel
theorem dX6_rankOf_65 : decode cX6_rankOf 65 = .ok (.iload_n 2, 1) := by decide +kernel
theorem dX6_rankOf_66 : decode cX6_rankOf 66 = .ok (.ireturn, 1) := by decide +kernel
theorem dX6_worst_0 : decode cX6_worst 0 = .ok (.iload_n 1, 1) := by decide +kernel
theorem dX6_worst_1 : decode cX6_worst 1 = .ok (.ifCond .ge 6, 3) := by decide +kernel
theorem dX6_worst_4 : decode cX6_worst 4 = .ok (.ldc 35, 2) := by decide +kernel
theorem dX6_worst_6 : decode cX6_worst 6 = .ok (.ireturn, 1) := by decide +kernel
theorem dX6_worst_7 : decode cX6_worst 7 = .ok (.ldc 174, 2) := by decide +kernel
theorem dX6_worst_9 : decode cX6_worst 9 = .ok (.istore_n 2, 1) := by decide +kernel
theorem dX6_worst_10 : decode cX6_worst 10 = .ok (.iconst 0, 1) := by decide +kernel
theorem dX6_worst_11 : decode cX6_worst 11 = .ok (.istore_n 3, 1) := by decide +kernel
theorem dX6_worst_12 : decode cX6_worst 12 = .ok (.iload_n 3, 1) := by decide +kernel
theorem dX6_worst_13 : decode cX6_worst 13 = .ok (.aload_n 0, 1) := by decide +kernel
theorem dX6_worst_14 : decode cX6_worst 14 = .ok (.getfield 7, 3) := by decide +kernel
theorem dX6_worst_17 : decode cX6_worst 17 = .ok (.bipush 19, 2) := by decide +kernel
theorem dX6_worst_19 : decode cX6_worst 19 = .ok (.iaload, 1) := by decide +kernel
theorem dX6_worst_20 : decode cX6_worst 20 = .ok (.if_icmp .ge 24, 3) := by decide +kernel
theorem dX6_worst_23 : decode cX6_worst 23 = .ok (.aload_n 0, 1) := by decide +kernel
theorem dX6_worst_24 : decode cX6_worst 24 = .ok (.iload_n 3, 1) := by decide +kernel
theorem dX6_worst_25 : decode cX6_worst 25 = .ok (.invokevirtual 193, 3) := by decide +kernel
theorem dX6_worst_28 : decode cX6_worst 28 = .ok (.iload_n 1, 1) := by decide +kernel
theorem dX6_worst_29 : decode cX6_worst 29 = .ok (.if_icmp .ne 7, 3) := by decide +kernel
theorem dX6_worst_32 : decode cX6_worst 32 = .ok (.iload_n 3, 1) := by decide +kernel
theorem dX6_worst_33 : decode cX6_worst 33 = .ok (.goto 4, 3) := by decide +kernel
theorem dX6_worst_36 : decode cX6_worst 36 = .ok (.iload_n 2, 1) := by decide +kernel
theorem dX6_worst_37 : decode cX6_worst 37 = .ok (.istore_n 2, 1) := by decide +kernel
theorem dX6_worst_38 : decode cX6_worst 38 = .ok (.iinc 3 1, 3) := by decide +kernel
theorem dX6_worst_41 : decode cX6_worst 41 = .ok (.goto (-29), 3) := by decide +kernel
theorem dX6_worst_44 : decode cX6_worst 44 = .ok (.iload_n 2, 1) := by decide +kernel
theorem dX6_worst_45 : decode cX6_worst 45 = .ok (.ireturn, 1) := by decide +kernel
theorem dX6_mean_0 : decode cX6_mean 0 = .ok (.aload_n 0, 1) := by decide +kernel
theorem dX6_mean_1 : decode cX6_mean 1 = .ok (.getfield 7, 3) := by decide +kernel
theorem dX6_mean_4 : decode cX6_mean 4 = .ok (.bipush 19, 2) := by decide +kernel
theorem dX6_mean_6 : decode cX6_mean 6 = .ok (.iaload, 1) := by decide +kernel
theorem dX6_mean_7 : decode cX6_mean 7 = .ok (.ifCond .ne 6, 3) := by decide +kernel
theorem dX6_mean_10 : decode cX6_mean 10 = .ok (.ldc 174, 2) := by decide +kernel
theorem dX6_mean_12 : decode cX6_mean 12 = .ok (.ireturn, 1) := by decide +kernel
theorem dX6_mean_13 : decode cX6_mean 13 = .ok (.iconst 0, 1) := by decide +kernel
theorem dX6_mean_14 : decode cX6_mean 14 = .ok (.istore_n 1, 1) := by decide +kernel
theorem dX6_mean_15 : decode cX6_mean 15 = .ok (.iconst 0, 1) := by decide +kernel
theorem dX6_mean_16 : decode cX6_mean 16 = .ok (.istore_n 2, 1) := by decide +kernel
theorem dX6_mean_17 : decode cX6_mean 17 = .ok (.iload_n 2, 1) := by decide +kernel
theorem dX6_mean_18 : decode cX6_mean 18 = .ok (.aload_n 0, 1) := by decide +kernel
theorem dX6_mean_19 : decode cX6_mean 19 = .ok (.getfield 7, 3) := by decide +kernel
theorem dX6_mean_22 : decode cX6_mean 22 = .ok (.bipush 19, 2) := by decide +kernel
theorem dX6_mean_24 : decode cX6_mean 24 = .ok (.iaload, 1) := by decide +kernel
theorem dX6_mean_25 : decode cX6_mean 25 = .ok (.if_icmp .ge 21, 3) := by decide +kernel
theorem dX6_mean_28 : decode cX6_mean 28 = .ok (.iload_n 1, 1) := by decide +kernel
theorem dX6_mean_29 : decode cX6_mean 29 = .ok (.aload_n 0, 1) := by decide +kernel
theorem dX6_mean_30 : decode cX6_mean 30 = .ok (.aload_n 0, 1) := by decide +kernel
theorem dX6_mean_31 : decode cX6_mean 31 = .ok (.iload_n 2, 1) := by decide +kernel
theorem dX6_mean_32 : decode cX6_mean 32 = .ok (.invokevirtual 66, 3) := by decide +kernel
theorem dX6_mean_35 : decode cX6_mean 35 = .ok (.invokevirtual 69, 3) := by decide +kernel
theorem dX6_mean_38 : decode cX6_mean 38 = .ok (.iadd, 1) := by decide +kernel
theorem dX6_mean_39 : decode cX6_mean 39 = .ok (.istore_n 1, 1) := by decide +kernel
theorem dX6_mean_40 : decode cX6_mean 40 = .ok (.iinc 2 1, 3) := by decide +kernel
theorem dX6_mean_43 : decode cX6_mean 43 = .ok (.goto (-26), 3) := by decide +kernel
theorem dX6_mean_46 : decode cX6_mean 46 = .ok (.iload_n 1, 1) := by decide +kernel
theorem dX6_mean_47 : decode cX6_mean 47 = .ok (.i2f, 1) := by decide +kernel
theorem dX6_mean_48 : decode cX6_mean 48 = .ok (.aload_n 0, 1) := by decide +kernel
theorem dX6_mean_49 : decode cX6_mean 49 = .ok (.getfield 7, 3) := by decide +kernel
theorem dX6_mean_52 : decode cX6_mean 52 = .ok (.bipush 19, 2) := by decide +kernel
theorem dX6_mean_54 : decode cX6_mean 54 = .ok (.iaload, 1) := by decide +kernel
theorem dX6_mean_55 : decode cX6_mean 55 = .ok (.i2f, 1) := by decide +kernel
theorem dX6_mean_56 : decode cX6_mean 56 = .ok (.fdiv, 1) := by decide +kernel
theorem dX6_mean_57 : decode cX6_mean 57 = .ok (.invokestatic 196, 3) := by decide +kernel
theorem dX6_mean_60 : decode cX6_mean 60 = .ok (.ireturn, 1) := by decide +kernel
theorem dX6_clocksOff_0 : decode cX6_clocksOff 0 = .ok (.iconst 0, 1) := by decide +kernel
theorem dX6_clocksOff_1 : decode cX6_clocksOff 1 = .ok (.istore_n 1, 1) := by decide +kernel
theorem dX6_clocksOff_2 : decode cX6_clocksOff 2 = .ok (.iconst 0, 1) := by decide +kernel
theorem dX6_clocksOff_3 : decode cX6_clocksOff 3 = .ok (.istore_n 2, 1) := by decide +kernel
theorem dX6_clocksOff_4 : decode cX6_clocksOff 4 = .ok (.iload_n 2, 1) := by decide +kernel
theorem dX6_clocksOff_5 : decode cX6_clocksOff 5 = .ok (.aload_n 0, 1) := by decide +kernel
theorem dX6_clocksOff_6 : decode cX6_clocksOff 6 = .ok (.getfield 7, 3) := by decide +kernel
theorem dX6_clocksOff_9 : decode cX6_clocksOff 9 = .ok (.bipush 19, 2) := by decide +kernel
theorem dX6_clocksOff_11 : decode cX6_clocksOff 11 = .ok (.iaload, 1) := by decide +kernel
theorem dX6_clocksOff_12 : decode cX6_clocksOff 12 = .ok (.if_icmp .ge 27, 3) := by decide +kernel
theorem dX6_clocksOff_15 : decode cX6_clocksOff 15 = .ok (.iload_n 1, 1) := by decide +kernel
theorem dX6_clocksOff_16 : decode cX6_clocksOff 16 = .ok (.aload_n 0, 1) := by decide +kernel
theorem dX6_clocksOff_17 : decode cX6_clocksOff 17 = .ok (.iload_n 2, 1) := by decide +kernel
theorem dX6_clocksOff_18 : decode cX6_clocksOff 18 = .ok (.invokevirtual 102, 3) := by decide +kernel
theorem dX6_clocksOff_21 : decode cX6_clocksOff 21 = .ok (.ifCond .eq 9, 3) := by decide +kernel
theorem dX6_clocksOff_24 : decode cX6_clocksOff 24 = .ok (.iconst 1, 1) := by decide +kernel
theorem dX6_clocksOff_25 : decode cX6_clocksOff 25 = .ok (.iload_n 2, 1) := by decide +kernel
theorem dX6_clocksOff_26 : decode cX6_clocksOff 26 = .ok (.ishl, 1) := by decide +kernel
theorem dX6_clocksOff_27 : decode cX6_clocksOff 27 = .ok (.goto 4, 3) := by decide +kernel
theorem dX6_clocksOff_30 : decode cX6_clocksOff 30 = .ok (.iconst 0, 1) := by decide +kernel
theorem dX6_clocksOff_31 : decode cX6_clocksOff 31 = .ok (.ior, 1) := by decide +kernel
theorem dX6_clocksOff_32 : decode cX6_clocksOff 32 = .ok (.istore_n 1, 1) := by decide +kernel
theorem dX6_clocksOff_33 : decode cX6_clocksOff 33 = .ok (.iinc 2 1, 3) := by decide +kernel
theorem dX6_clocksOff_36 : decode cX6_clocksOff 36 = .ok (.goto (-32), 3) := by decide +kernel
theorem dX6_clocksOff_39 : decode cX6_clocksOff 39 = .ok (.iload_n 1, 1) := by decide +kernel
theorem dX6_clocksOff_40 : decode cX6_clocksOff 40 = .ok (.ireturn, 1) := by decide +kernel
theorem dX6_clocksEmpty_0 : decode cX6_clocksEmpty 0 = .ok (.iconst 0, 1) := by decide +kernel
theorem dX6_clocksEmpty_1 : decode cX6_clocksEmpty 1 = .ok (.istore_n 1, 1) := by decide +kernel
theorem dX6_clocksEmpty_2 : decode cX6_clocksEmpty 2 = .ok (.iconst 0, 1) := by decide +kernel
theorem dX6_clocksEmpty_3 : decode cX6_clocksEmpty 3 = .ok (.istore_n 2, 1) := by decide +kernel
theorem dX6_clocksEmpty_4 : decode cX6_clocksEmpty 4 = .ok (.iload_n 2, 1) := by decide +kernel
theorem dX6_clocksEmpty_5 : decode cX6_clocksEmpty 5 = .ok (.aload_n 0, 1) := by decide +kernel
theorem dX6_clocksEmpty_6 : decode cX6_clocksEmpty 6 = .ok (.getfield 7, 3) := by decide +kernel
theorem dX6_clocksEmpty_9 : decode cX6_clocksEmpty 9 = .ok (.bipush 19, 2) := by decide +kernel
theorem dX6_clocksEmpty_11 : decode cX6_clocksEmpty 11 = .ok (.iaload, 1) := by decide +kernel
theorem dX6_clocksEmpty_12 : decode cX6_clocksEmpty 12 = .ok (.if_icmp .ge 28, 3) := by decide +kernel
theorem dX6_clocksEmpty_15 : decode cX6_clocksEmpty 15 = .ok (.iload_n 1, 1) := by decide +kernel
theorem dX6_clocksEmpty_16 : decode cX6_clocksEmpty 16 = .ok (.aload_n 0, 1) := by decide +kernel
theorem dX6_clocksEmpty_17 : decode cX6_clocksEmpty 17 = .ok (.iload_n 2, 1) := by decide +kernel
theorem dX6_clocksEmpty_18 : decode cX6_clocksEmpty 18 = .ok (.iconst 3, 1) := by decide +kernel
theorem dX6_clocksEmpty_19 : decode cX6_clocksEmpty 19 = .ok (.invokevirtual 48, 3) := by decide +kernel
theorem dX6_clocksEmpty_22 : decode cX6_clocksEmpty 22 = .ok (.ifCond .ne 9, 3) := by decide +kernel
theorem dX6_clocksEmpty_25 : decode cX6_clocksEmpty 25 = .ok (.iconst 1, 1) := by decide +kernel
theorem dX6_clocksEmpty_26 : decode cX6_clocksEmpty 26 = .ok (.iload_n 2, 1) := by decide +kernel
theorem dX6_clocksEmpty_27 : decode cX6_clocksEmpty 27 = .ok (.ishl, 1) := by decide +kernel
theorem dX6_clocksEmpty_28 : decode cX6_clocksEmpty 28 = .ok (.goto 4, 3) := by decide +kernel
theorem dX6_clocksEmpty_31 : decode cX6_clocksEmpty 31 = .ok (.iconst 0, 1) := by decide +kernel
theorem dX6_clocksEmpty_32 : decode cX6_clocksEmpty 32 = .ok (.ior, 1) := by decide +kernel
theorem dX6_clocksEmpty_33 : decode cX6_clocksEmpty 33 = .ok (.istore_n 1, 1) := by decide +kernel
theorem dX6_clocksEmpty_34 : decode cX6_clocksEmpty 34 = .ok (.iinc 2 1, 3) := by decide +kernel
theorem dX6_clocksEmpty_37 : decode cX6_clocksEmpty 37 = .ok (.goto (-33), 3) := by decide +kernel
theorem dX6_clocksEmpty_40 : decode cX6_clocksEmpty 40 = .ok (.iload_n 1, 1) := by decide +kernel
theorem dX6_clocksEmpty_41 : decode cX6_clocksEmpty 41 = .ok (.ireturn, 1) := by decide +kernel
theorem dX6_number_0 : decode cX6_number 0 = .ok (.iload_n 1, 1) := by decide +kernel
theorem dX6_number_1 : decode cX6_number 1 = .ok (.tableswitch 170 0 11 #[63, 71, 79, 84, 89, 97, 105, 113, 121, 149, 157, 165], 63) := by decide +kernel
theorem dX6_number_64 : decode cX6_number 64 = .ok (.aload_n 0, 1) := by decide +kernel
theorem dX6_number_65 : decode cX6_number 65 = .ok (.getfield 7, 3) := by decide +kernel
theorem dX6_number_68 : decode cX6_number 68 = .ok (.bipush 6, 2) := by decide +kernel
theorem dX6_number_70 : decode cX6_number 70 = .ok (.iaload, 1) := by decide +kernel
theorem dX6_number_71 : decode cX6_number 71 = .ok (.ireturn, 1) := by decide +kernel
theorem dX6_number_72 : decode cX6_number 72 = .ok (.aload_n 0, 1) := by decide +kernel
theorem dX6_number_73 : decode cX6_number 73 = .ok (.getfield 7, 3) := by decide +kernel
theorem dX6_number_76 : decode cX6_number 76 = .ok (.bipush 19, 2) := by decide +kernel
theorem dX6_number_78 : decode cX6_number 78 = .ok (.iaload, 1) := by decide +kernel
theorem dX6_number_79 : decode cX6_number 79 = .ok (.ireturn, 1) := by decide +kernel
theorem dX6_number_80 : decode cX6_number 80 = .ok (.aload_n 0, 1) := by decide +kernel
theorem dX6_number_81 : decode cX6_number 81 = .ok (.invokevirtual 202, 3) := by decide +kernel
theorem dX6_number_84 : decode cX6_number 84 = .ok (.ireturn, 1) := by decide +kernel
theorem dX6_number_85 : decode cX6_number 85 = .ok (.aload_n 0, 1) := by decide +kernel
theorem dX6_number_86 : decode cX6_number 86 = .ok (.invokevirtual 205, 3) := by decide +kernel
theorem dX6_number_89 : decode cX6_number 89 = .ok (.ireturn, 1) := by decide +kernel
theorem dX6_number_90 : decode cX6_number 90 = .ok (.aload_n 0, 1) := by decide +kernel
theorem dX6_number_91 : decode cX6_number 91 = .ok (.getfield 7, 3) := by decide +kernel
theorem dX6_number_94 : decode cX6_number 94 = .ok (.bipush 14, 2) := by decide +kernel
theorem dX6_number_96 : decode cX6_number 96 = .ok (.iaload, 1) := by decide +kernel
theorem dX6_number_97 : decode cX6_number 97 = .ok (.ireturn, 1) := by decide +kernel
theorem dX6_number_98 : decode cX6_number 98 = .ok (.aload_n 0, 1) := by decide +kernel
theorem dX6_number_99 : decode cX6_number 99 = .ok (.getfield 7, 3) := by decide +kernel
theorem dX6_number_102 : decode cX6_number 102 = .ok (.bipush 15, 2) := by decide +kernel
theorem dX6_number_104 : decode cX6_number 104 = .ok (.iaload, 1) := by decide +kernel
theorem dX6_number_105 : decode cX6_number 105 = .ok (.ireturn, 1) := by decide +kernel
theorem dX6_number_106 : decode cX6_number 106 = .ok (.aload_n 0, 1) := by decide +kernel
theorem dX6_number_107 : decode cX6_number 107 = .ok (.getfield 7, 3) := by decide +kernel
theorem dX6_number_110 : decode cX6_number 110 = .ok (.bipush 16, 2) := by decide +kernel
theorem dX6_number_112 : decode cX6_number 112 = .ok (.iaload, 1) := by decide +kernel
theorem dX6_number_113 : decode cX6_number 113 = .ok (.ireturn, 1) := by decide +kernel
theorem dX6_number_114 : decode cX6_number 114 = .ok (.aload_n 0, 1) := by decide +kernel
theorem dX6_number_115 : decode cX6_number 115 = .ok (.getfield 7, 3) := by decide +kernel
theorem dX6_number_118 : decode cX6_number 118 = .ok (.bipush 17, 2) := by decide +kernel
theorem dX6_number_120 : decode cX6_number 120 = .ok (.iaload, 1) := by decide +kernel
theorem dX6_number_121 : decode cX6_number 121 = .ok (.ireturn, 1) := by decide +kernel
theorem dX6_number_122 : decode cX6_number 122 = .ok (.bipush 12, 2) := by decide +kernel
theorem dX6_number_124 : decode cX6_number 124 = .ok (.aload_n 0, 1) := by decide +kernel
theorem dX6_number_125 : decode cX6_number 125 = .ok (.getfield 7, 3) := by decide +kernel
theorem dX6_number_128 : decode cX6_number 128 = .ok (.iconst 3, 1) := by decide +kernel
theorem dX6_number_129 : decode cX6_number 129 = .ok (.iaload, 1) := by decide +kernel
theorem dX6_number_130 : decode cX6_number 130 = .ok (.imul, 1) := by decide +kernel
theorem dX6_number_131 : decode cX6_number 131 = .ok (.aload_n 0, 1) := by decide +kernel
theorem dX6_number_132 : decode cX6_number 132 = .ok (.getfield 7, 3) := by decide +kernel
theorem dX6_number_135 : decode cX6_number 135 = .ok (.bipush 6, 2) := by decide +kernel
theorem dX6_number_137 : decode cX6_number 137 = .ok (.iaload, 1) := by decide +kernel
theorem dX6_number_138 : decode cX6_number 138 = .ok (.bipush 12, 2) := by decide +kernel
theorem dX6_number_140 : decode cX6_number 140 = .ok (.aload_n 0, 1) := by decide +kernel
theorem dX6_number_141 : decode cX6_number 141 = .ok (.getfield 7, 3) := by decide +kernel
theorem dX6_number_144 : decode cX6_number 144 = .ok (.iconst 3, 1) := by decide +kernel
theorem dX6_number_145 : decode cX6_number 145 = .ok (.iaload, 1) := by decide +kernel
theorem dX6_number_146 : decode cX6_number 146 = .ok (.imul, 1) := by decide +kernel
theorem dX6_number_147 : decode cX6_number 147 = .ok (.irem, 1) := by decide +kernel
theorem dX6_number_148 : decode cX6_number 148 = .ok (.isub, 1) := by decide +kernel
theorem dX6_number_149 : decode cX6_number 149 = .ok (.ireturn, 1) := by decide +kernel
theorem dX6_number_150 : decode cX6_number 150 = .ok (.aload_n 0, 1) := by decide +kernel
theorem dX6_number_151 : decode cX6_number 151 = .ok (.getfield 7, 3) := by decide +kernel
theorem dX6_number_154 : decode cX6_number 154 = .ok (.bipush 18, 2) := by decide +kernel
theorem dX6_number_156 : decode cX6_number 156 = .ok (.iaload, 1) := by decide +kernel
theorem dX6_number_157 : decode cX6_number 157 = .ok (.ireturn, 1) := by decide +kernel
theorem dX6_number_158 : decode cX6_number 158 = .ok (.aload_n 0, 1) := by decide +kernel
theorem dX6_number_159 : decode cX6_number 159 = .ok (.getfield 7, 3) := by decide +kernel
theorem dX6_number_162 : decode cX6_number 162 = .ok (.bipush 95, 2) := by decide +kernel
theorem dX6_number_164 : decode cX6_number 164 = .ok (.iaload, 1) := by decide +kernel
theorem dX6_number_165 : decode cX6_number 165 = .ok (.ireturn, 1) := by decide +kernel
theorem dX6_number_166 : decode cX6_number 166 = .ok (.aload_n 0, 1) := by decide +kernel
theorem dX6_number_167 : decode cX6_number 167 = .ok (.getfield 44, 3) := by decide +kernel
theorem dX6_number_170 : decode cX6_number 170 = .ok (.ireturn, 1) := by decide +kernel
theorem dX6_number_171 : decode cX6_number 171 = .ok (.aload_n 0, 1) := by decide +kernel
theorem dX6_number_172 : decode cX6_number 172 = .ok (.getfield 208, 3) := by decide +kernel
theorem dX6_number_175 : decode cX6_number 175 = .ok (.ireturn, 1) := by decide +kernel
theorem dX6_count_0 : decode cX6_count 0 = .ok (.iload_n 1, 1) := by decide +kernel
theorem dX6_count_1 : decode cX6_count 1 = .ok (.iconst 0, 1) := by decide +kernel
theorem dX6_count_2 : decode cX6_count 2 = .ok (.bipush 12, 2) := by decide +kernel
theorem dX6_count_4 : decode cX6_count 4 = .ok (.invokestatic 36, 3) := by decide +kernel
theorem dX6_count_7 : decode cX6_count 7 = .ok (.ifCond .eq 11, 3) := by decide +kernel
theorem dX6_count_10 : decode cX6_count 10 = .ok (.aload_n 0, 1) := by decide +kernel
theorem dX6_count_11 : decode cX6_count 11 = .ok (.iload_n 1, 1) := by decide +kernel
theorem dX6_count_12 : decode cX6_count 12 = .ok (.invokevirtual 211, 3) := by decide +kernel
theorem dX6_count_15 : decode cX6_count 15 = .ok (.goto 28, 3) := by decide +kernel
theorem dX6_count_18 : decode cX6_count 18 = .ok (.iload_n 1, 1) := by decide +kernel
theorem dX6_count_19 : decode cX6_count 19 = .ok (.bipush 20, 2) := by decide +kernel
theorem dX6_count_21 : decode cX6_count 21 = .ok (.bipush 25, 2) := by decide +kernel
theorem dX6_count_23 : decode cX6_count 23 = .ok (.invokestatic 36, 3) := by decide +kernel
theorem dX6_count_26 : decode cX6_count 26 = .ok (.ifCond .eq 15, 3) := by decide +kernel
theorem dX6_count_29 : decode cX6_count 29 = .ok (.aload_n 0, 1) := by decide +kernel
theorem dX6_count_30 : decode cX6_count 30 = .ok (.getfield 7, 3) := by decide +kernel
theorem dX6_count_33 : decode cX6_count 33 = .ok (.iload_n 1, 1) := by decide +kernel
theorem dX6_count_34 : decode cX6_count 34 = .ok (.bipush 20, 2) := by decide +kernel
theorem dX6_count_36 : decode cX6_count 36 = .ok (.isub, 1) := by decide +kernel
theorem dX6_count_37 : decode cX6_count 37 = .ok (.iaload, 1) := by decide +kernel
theorem dX6_count_38 : decode cX6_count 38 = .ok (.goto 5, 3) := by decide +kernel
theorem dX6_count_41 : decode cX6_count 41 = .ok (.ldc 35, 2) := by decide +kernel
theorem dX6_count_43 : decode cX6_count 43 = .ok (.ireturn, 1) := by decide +kernel
theorem dX6_type_0 : decode cX6_type 0 = .ok (.iload_n 1, 1) := by decide +kernel
theorem dX6_type_1 : decode cX6_type 1 = .ok (.bipush 32, 2) := by decide +kernel
theorem dX6_type_3 : decode cX6_type 3 = .ok (.bipush 126, 2) := by decide +kernel
theorem dX6_type_5 : decode cX6_type 5 = .ok (.invokestatic 36, 3) := by decide +kernel
theorem dX6_type_8 : decode cX6_type 8 = .ok (.ifCond .ne 6, 3) := by decide +kernel
theorem dX6_type_11 : decode cX6_type 11 = .ok (.ldc 35, 2) := by decide +kernel
theorem dX6_type_13 : decode cX6_type 13 = .ok (.ireturn, 1) := by decide +kernel
theorem dX6_type_14 : decode cX6_type 14 = .ok (.aload_n 0, 1) := by decide +kernel
theorem dX6_type_15 : decode cX6_type 15 = .ok (.getfield 208, 3) := by decide +kernel
theorem dX6_type_18 : decode cX6_type 18 = .ok (.bipush 60, 2) := by decide +kernel
theorem dX6_type_20 : decode cX6_type 20 = .ok (.if_icmp .ne 6, 3) := by decide +kernel
theorem dX6_type_23 : decode cX6_type 23 = .ok (.ldc 124, 2) := by decide +kernel
theorem dX6_type_25 : decode cX6_type 25 = .ok (.ireturn, 1) := by decide +kernel
theorem dX6_type_26 : decode cX6_type 26 = .ok (.aload_n 0, 1) := by decide +kernel
theorem dX6_type_27 : decode cX6_type 27 = .ok (.getfield 29, 3) := by decide +kernel
theorem dX6_type_30 : decode cX6_type 30 = .ok (.aload_n 0, 1) := by decide +kernel
theorem dX6_type_31 : decode cX6_type 31 = .ok (.getfield 208, 3) := by decide +kernel
theorem dX6_type_34 : decode cX6_type 34 = .ok (.iload_n 1, 1) := by decide +kernel
theorem dX6_type_35 : decode cX6_type 35 = .ok (.iastore, 1) := by decide +kernel
theorem dX6_type_36 : decode cX6_type 36 = .ok (.aload_n 0, 1) := by decide +kernel
theorem dX6_type_37 : decode cX6_type 37 = .ok (.dup, 1) := by decide +kernel
theorem dX6_type_38 : decode cX6_type 38 = .ok (.getfield 208, 3) := by decide +kernel
theorem dX6_type_41 : decode cX6_type 41 = .ok (.iconst 1, 1) := by decide +kernel
theorem dX6_type_42 : decode cX6_type 42 = .ok (.iadd, 1) := by decide +kernel
theorem dX6_type_43 : decode cX6_type 43 = .ok (.putfield 208, 3) := by decide +kernel
theorem dX6_type_46 : decode cX6_type 46 = .ok (.aload_n 0, 1) := by decide +kernel
theorem dX6_type_47 : decode cX6_type 47 = .ok (.getfield 208, 3) := by decide +kernel
theorem dX6_type_50 : decode cX6_type 50 = .ok (.ireturn, 1) := by decide +kernel
theorem dX6_clearText_0 : decode cX6_clearText 0 = .ok (.aload_n 0, 1) := by decide +kernel
theorem dX6_clearText_1 : decode cX6_clearText 1 = .ok (.getfield 208, 3) := by decide +kernel
theorem dX6_clearText_4 : decode cX6_clearText 4 = .ok (.istore_n 1, 1) := by decide +kernel
theorem dX6_clearText_5 : decode cX6_clearText 5 = .ok (.aload_n 0, 1) := by decide +kernel
theorem dX6_clearText_6 : decode cX6_clearText 6 = .ok (.iconst 0, 1) := by decide +kernel
theorem dX6_clearText_7 : decode cX6_clearText 7 = .ok (.putfield 208, 3) := by decide +kernel
theorem dX6_clearText_10 : decode cX6_clearText 10 = .ok (.iload_n 1, 1) := by decide +kernel
theorem dX6_clearText_11 : decode cX6_clearText 11 = .ok (.ireturn, 1) := by decide +kernel
theorem dX6_isAt_0 : decode cX6_isAt 0 = .ok (.aload_n 0, 1) := by decide +kernel
theorem dX6_isAt_1 : decode cX6_isAt 1 = .ok (.getfield 214, 3) := by decide +kernel
theorem dX6_isAt_4 : decode cX6_isAt 4 = .ok (.aload_n 0, 1) := by decide +kernel
theorem dX6_isAt_5 : decode cX6_isAt 5 = .ok (.getfield 208, 3) := by decide +kernel
theorem dX6_isAt_8 : decode cX6_isAt 8 = .ok (.if_icmp .ge 24, 3) := by decide +kernel
theorem dX6_isAt_11 : decode cX6_isAt 11 = .ok (.aload_n 0, 1) := by decide +kernel
theorem dX6_isAt_12 : decode cX6_isAt 12 = .ok (.getfield 29, 3) := by decide +kernel
theorem dX6_isAt_15 : decode cX6_isAt 15 = .ok (.aload_n 0, 1) := by decide +kernel
theorem dX6_isAt_16 : decode cX6_isAt 16 = .ok (.getfield 214, 3) := by decide +kernel
theorem dX6_isAt_19 : decode cX6_isAt 19 = .ok (.iaload, 1) := by decide +kernel
theorem dX6_isAt_20 : decode cX6_isAt 20 = .ok (.iload_n 1, 1) := by decide +kernel
theorem dX6_isAt_21 : decode cX6_isAt 21 = .ok (.iload_n 2, 1) := by decide +kernel
theorem dX6_isAt_22 : decode cX6_isAt 22 = .ok (.invokestatic 36, 3) := by decide +kernel
theorem dX6_isAt_25 : decode cX6_isAt 25 = .ok (.ifCond .eq 7, 3) := by decide +kernel
theorem dX6_isAt_28 : decode cX6_isAt 28 = .ok (.iconst 1, 1) := by decide +kernel
theorem dX6_isAt_29 : decode cX6_isAt 29 = .ok (.goto 4, 3) := by decide +kernel
theorem dX6_isAt_32 : decode cX6_isAt 32 = .ok (.iconst 0, 1) := by decide +kernel
theorem dX6_isAt_33 : decode cX6_isAt 33 = .ok (.ireturn, 1) := by decide +kernel
theorem dX6_readSign_0 : decode cX6_readSign 0 = .ok (.aload_n 0, 1) := by decide +kernel
theorem dX6_readSign_1 : decode cX6_readSign 1 = .ok (.iload_n 1, 1) := by decide +kernel
theorem dX6_readSign_2 : decode cX6_readSign 2 = .ok (.iload_n 1, 1) := by decide +kernel
theorem dX6_readSign_3 : decode cX6_readSign 3 = .ok (.invokevirtual 217, 3) := by decide +kernel
theorem dX6_readSign_6 : decode cX6_readSign 6 = .ok (.istore_n 2, 1) := by decide +kernel
theorem dX6_readSign_7 : decode cX6_readSign 7 = .ok (.aload_n 0, 1) := by decide +kernel
theorem dX6_readSign_8 : decode cX6_readSign 8 = .ok (.dup, 1) := by decide +kernel
theorem dX6_readSign_9 : decode cX6_readSign 9 = .ok (.getfield 214, 3) := by decide +kernel
theorem dX6_readSign_12 : decode cX6_readSign 12 = .ok (.iload_n 2, 1) := by decide +kernel
theorem dX6_readSign_13 : decode cX6_readSign 13 = .ok (.ifCond .eq 7, 3) := by decide +kernel
theorem dX6_readSign_16 : decode cX6_readSign 16 = .ok (.iconst 1, 1) := by decide +kernel
theorem dX6_readSign_17 : decode cX6_readSign 17 = .ok (.goto 4, 3) := by decide +kernel
theorem dX6_readSign_20 : decode cX6_readSign 20 = .ok (.iconst 0, 1) := by decide +kernel
theorem dX6_readSign_21 : decode cX6_readSign 21 = .ok (.iadd, 1) := by decide +kernel
theorem dX6_readSign_22 : decode cX6_readSign 22 = .ok (.putfield 214, 3) := by decide +kernel
theorem dX6_readSign_25 : decode cX6_readSign 25 = .ok (.iload_n 2, 1) := by decide +kernel
theorem dX6_readSign_26 : decode cX6_readSign 26 = .ok (.ireturn, 1) := by decide +kernel
theorem dX6_readNumber_0 : decode cX6_readNumber 0 = .ok (.aload_n 0, 1) := by decide +kernel
theorem dX6_readNumber_1 : decode cX6_readNumber 1 = .ok (.getfield 32, 3) := by decide +kernel
theorem dX6_readNumber_4 : decode cX6_readNumber 4 = .ok (.iload_n 1, 1) := by decide +kernel
theorem dX6_readNumber_5 : decode cX6_readNumber 5 = .ok (.iconst 0, 1) := by decide +kernel
theorem dX6_readNumber_6 : decode cX6_readNumber 6 = .ok (.iastore, 1) := by decide +kernel
theorem dX6_readNumber_7 : decode cX6_readNumber 7 = .ok (.iconst 0, 1) := by decide +kernel
theorem dX6_readNumber_8 : decode cX6_readNumber 8 = .ok (.istore_n 2, 1) := by decide +kernel
theorem dX6_readNumber_9 : decode cX6_readNumber 9 = .ok (.iload_n 2, 1) := by decide +kernel
theorem dX6_readNumber_10 : decode cX6_readNumber 10 = .ok (.iconst 3, 1) := by decide +kernel
theorem dX6_readNumber_11 : decode cX6_readNumber 11 = .ok (.if_icmp .ge 58, 3) := by decide +kernel
theorem dX6_readNumber_14 : decode cX6_readNumber 14 = .ok (.aload_n 0, 1) := by decide +kernel
theorem dX6_readNumber_15 : decode cX6_readNumber 15 = .ok (.bipush 48, 2) := by decide +kernel
theorem dX6_readNumber_17 : decode cX6_readNumber 17 = .ok (.bipush 57, 2) := by decide +kernel
theorem dX6_readNumber_19 : decode cX6_readNumber 19 = .ok (.invokevirtual 217, 3) := by decide +kernel
theorem dX6_readNumber_22 : decode cX6_readNumber 22 = .ok (.ifCond .eq 47, 3) := by decide +kernel
theorem dX6_readNumber_25 : decode cX6_readNumber 25 = .ok (.aload_n 0, 1) := by decide +kernel
theorem dX6_readNumber_26 : decode cX6_readNumber 26 = .ok (.getfield 32, 3) := by decide +kernel
theorem dX6_readNumber_29 : decode cX6_readNumber 29 = .ok (.iload_n 1, 1) := by decide +kernel
theorem dX6_readNumber_30 : decode cX6_readNumber 30 = .ok (.bipush 10, 2) := by decide +kernel
theorem dX6_readNumber_32 : decode cX6_readNumber 32 = .ok (.aload_n 0, 1) := by decide +kernel
theorem dX6_readNumber_33 : decode cX6_readNumber 33 = .ok (.getfield 32, 3) := by decide +kernel
theorem dX6_readNumber_36 : decode cX6_readNumber 36 = .ok (.iload_n 1, 1) := by decide +kernel
theorem dX6_readNumber_37 : decode cX6_readNumber 37 = .ok (.iaload, 1) := by decide +kernel
theorem dX6_readNumber_38 : decode cX6_readNumber 38 = .ok (.imul, 1) := by decide +kernel
theorem dX6_readNumber_39 : decode cX6_readNumber 39 = .ok (.aload_n 0, 1) := by decide +kernel
theorem dX6_readNumber_40 : decode cX6_readNumber 40 = .ok (.getfield 29, 3) := by decide +kernel
theorem dX6_readNumber_43 : decode cX6_readNumber 43 = .ok (.aload_n 0, 1) := by decide +kernel
theorem dX6_readNumber_44 : decode cX6_readNumber 44 = .ok (.getfield 214, 3) := by decide +kernel
theorem dX6_readNumber_47 : decode cX6_readNumber 47 = .ok (.iaload, 1) := by decide +kernel
theorem dX6_readNumber_48 : decode cX6_readNumber 48 = .ok (.iadd, 1) := by decide +kernel
theorem dX6_readNumber_49 : decode cX6_readNumber 49 = .ok (.bipush 48, 2) := by decide +kernel
theorem dX6_readNumber_51 : decode cX6_readNumber 51 = .ok (.isub, 1) := by decide +kernel
theorem dX6_readNumber_52 : decode cX6_readNumber 52 = .ok (.iastore, 1) := by decide +kernel
theorem dX6_readNumber_53 : decode cX6_readNumber 53 = .ok (.aload_n 0, 1) := by decide +kernel
theorem dX6_readNumber_54 : decode cX6_readNumber 54 = .ok (.dup, 1) := by decide +kernel
theorem dX6_readNumber_55 : decode cX6_readNumber 55 = .ok (.getfield 214, 3) := by decide +kernel
theorem dX6_readNumber_58 : decode cX6_readNumber 58 = .ok (.iconst 1, 1) := by decide +kernel
theorem dX6_readNumber_59 : decode cX6_readNumber 59 = .ok (.iadd, 1) := by decide +kernel
theorem dX6_readNumber_60 : decode cX6_readNumber 60 = .ok (.putfield 214, 3) := by decide +kernel
theorem dX6_readNumber_63 : decode cX6_readNumber 63 = .ok (.iinc 2 1, 3) := by decide +kernel
theorem dX6_readNumber_66 : decode cX6_readNumber 66 = .ok (.goto (-57), 3) := by decide +kernel
theorem dX6_readNumber_69 : decode cX6_readNumber 69 = .ok (.iload_n 2, 1) := by decide +kernel
theorem dX6_readNumber_70 : decode cX6_readNumber 70 = .ok (.ifCond .le 7, 3) := by decide +kernel
theorem dX6_readNumber_73 : decode cX6_readNumber 73 = .ok (.iconst 1, 1) := by decide +kernel
theorem dX6_readNumber_74 : decode cX6_readNumber 74 = .ok (.goto 4, 3) := by decide +kernel
theorem dX6_readNumber_77 : decode cX6_readNumber 77 = .ok (.iconst 0, 1) := by decide +kernel
theorem dX6_readNumber_78 : decode cX6_readNumber 78 = .ok (.ireturn, 1) := by decide +kernel
theorem dX6_numbersOf_0 : decode cX6_numbersOf 0 = .ok (.iload_n 0, 1) := by decide +kernel
theorem dX6_numbersOf_1 : decode cX6_numbersOf 1 = .ok (.lookupswitch 65 #[(99, 59), (108, 61), (112, 61), (116, 63), (119, 61), (120, 63)], 59) := by decide +kernel
theorem dX6_numbersOf_60 : decode cX6_numbersOf 60 = .ok (.iconst 3, 1) := by decide +kernel
theorem dX6_numbersOf_61 : decode cX6_numbersOf 61 = .ok (.ireturn, 1) := by decide +kernel
theorem dX6_numbersOf_62 : decode cX6_numbersOf 62 = .ok (.iconst 2, 1) := by decide +kernel
theorem dX6_numbersOf_63 : decode cX6_numbersOf 63 = .ok (.ireturn, 1) := by decide +kernel
theorem dX6_numbersOf_64 : decode cX6_numbersOf 64 = .ok (.iconst 1, 1) := by decide +kernel
theorem dX6_numbersOf_65 : decode cX6_numbersOf 65 = .ok (.ireturn, 1) := by decide +kernel
theorem dX6_numbersOf_66 : decode cX6_numbersOf 66 = .ok (.iconst 0, 1) := by decide +kernel
theorem dX6_numbersOf_67 : decode cX6_numbersOf 67 = .ok (.ireturn, 1) := by decide +kernel
theorem dX6_readOrder_0 : decode cX6_readOrder 0 = .ok (.aload_n 0, 1) := by decide +kernel
theorem dX6_readOrder_1 : decode cX6_readOrder 1 = .ok (.getfield 29, 3) := by decide +kernel
theorem dX6_readOrder_4 : decode cX6_readOrder 4 = .ok (.aload_n 0, 1) := by decide +kernel
theorem dX6_readOrder_5 : decode cX6_readOrder 5 = .ok (.getfield 214, 3) := by decide +kernel
theorem dX6_readOrder_8 : decode cX6_readOrder 8 = .ok (.iaload, 1) := by decide +kernel
theorem dX6_readOrder_9 : decode cX6_readOrder 9 = .ok (.invokestatic 220, 3) := by decide +kernel
theorem dX6_readOrder_12 : decode cX6_readOrder 12 = .ok (.istore_n 1, 1) := by decide +kernel
theorem dX6_readOrder_13 : decode cX6_readOrder 13 = .ok (.iload_n 1, 1) := by decide +kernel
theorem dX6_readOrder_14 : decode cX6_readOrder 14 = .ok (.ifCond .ne 5, 3) := by decide +kernel
theorem dX6_readOrder_17 : decode cX6_readOrder 17 = .ok (.iconst 0, 1) := by decide +kernel
theorem dX6_readOrder_18 : decode cX6_readOrder 18 = .ok (.ireturn, 1) := by decide +kernel
theorem dX6_readOrder_19 : decode cX6_readOrder 19 = .ok (.aload_n 0, 1) := by decide +kernel
theorem dX6_readOrder_20 : decode cX6_readOrder 20 = .ok (.dup, 1) := by decide +kernel
theorem dX6_readOrder_21 : decode cX6_readOrder 21 = .ok (.getfield 214, 3) := by decide +kernel
theorem dX6_readOrder_24 : decode cX6_readOrder 24 = .ok (.iconst 1, 1) := by decide +kernel
theorem dX6_readOrder_25 : decode cX6_readOrder 25 = .ok (.iadd, 1) := by decide +kernel
theorem dX6_readOrder_26 : decode cX6_readOrder 26 = .ok (.putfield 214, 3) := by decide +kernel
theorem dX6_readOrder_29 : decode cX6_readOrder 29 = .ok (.aload_n 0, 1) := by decide +kernel
theorem dX6_readOrder_30 : decode cX6_readOrder 30 = .ok (.iconst 0, 1) := by decide +kernel
theorem dX6_readOrder_31 : decode cX6_readOrder 31 = .ok (.invokevirtual 223, 3) := by decide +kernel
theorem dX6_readOrder_34 : decode cX6_readOrder 34 = .ok (.istore_n 2, 1) := by decide +kernel
theorem dX6_readOrder_35 : decode cX6_readOrder 35 = .ok (.iconst 1, 1) := by decide +kernel
theorem dX6_readOrder_36 : decode cX6_readOrder 36 = .ok (.istore_n 3, 1) := by decide +kernel
theorem dX6_readOrder_37 : decode cX6_readOrder 37 = .ok (.iload_n 3, 1) := by decide +kernel
theorem dX6_readOrder_38 : decode cX6_readOrder 38 = .ok (.iload_n 1, 1) := by decide +kernel
theorem dX6_readOrder_39 : decode cX6_readOrder 39 = .ok (.if_icmp .ge 36, 3) := by decide +kernel
theorem dX6_readOrder_42 : decode cX6_readOrder 42 = .ok (.iload_n 2, 1) := by decide +kernel
theorem dX6_readOrder_43 : decode cX6_readOrder 43 = .ok (.ifCond .eq 32, 3) := by decide +kernel
theorem dX6_readOrder_46 : decode cX6_readOrder 46 = .ok (.aload_n 0, 1) := by decide +kernel
theorem dX6_readOrder_47 : decode cX6_readOrder 47 = .ok (.bipush 44, 2) := by decide +kernel
theorem dX6_readOrder_49 : decode cX6_readOrder 49 = .ok (.invokevirtual 226, 3) := by decide +kernel
theorem dX6_readOrder_52 : decode cX6_readOrder 52 = .ok (.ifCond .eq 15, 3) := by decide +kernel
theorem dX6_readOrder_55 : decode cX6_readOrder 55 = .ok (.aload_n 0, 1) := by decide +kernel
theorem dX6_readOrder_56 : decode cX6_readOrder 56 = .ok (.iload_n 3, 1) := by decide +kernel
theorem dX6_readOrder_57 : decode cX6_readOrder 57 = .ok (.invokevirtual 223, 3) := by decide +kernel
theorem dX6_readOrder_60 : decode cX6_readOrder 60 = .ok (.ifCond .eq 7, 3) := by decide +kernel
theorem dX6_readOrder_63 : decode cX6_readOrder 63 = .ok (.iconst 1, 1) := by decide +kernel
theorem dX6_readOrder_64 : decode cX6_readOrder 64 = .ok (.goto 4, 3) := by decide +kernel
theorem dX6_readOrder_67 : decode cX6_readOrder 67 = .ok (.iconst 0, 1) := by decide +kernel
theorem dX6_readOrder_68 : decode cX6_readOrder 68 = .ok (.istore_n 2, 1) := by decide +kernel
theorem dX6_readOrder_69 : decode cX6_readOrder 69 = .ok (.iinc 3 1, 3) := by decide +kernel
theorem dX6_readOrder_72 : decode cX6_readOrder 72 = .ok (.goto (-35), 3) := by decide +kernel
theorem dX6_readOrder_75 : decode cX6_readOrder 75 = .ok (.iload_n 2, 1) := by decide +kernel
theorem dX6_readOrder_76 : decode cX6_readOrder 76 = .ok (.ifCond .eq 16, 3) := by decide +kernel
theorem dX6_readOrder_79 : decode cX6_readOrder 79 = .ok (.aload_n 0, 1) := by decide +kernel
theorem dX6_readOrder_80 : decode cX6_readOrder 80 = .ok (.bipush 59, 2) := by decide +kernel
theorem dX6_readOrder_82 : decode cX6_readOrder 82 = .ok (.invokevirtual 226, 3) := by decide +kernel
theorem dX6_readOrder_85 : decode cX6_readOrder 85 = .ok (.ifCond .eq 7, 3) := by decide +kernel
theorem dX6_readOrder_88 : decode cX6_readOrder 88 = .ok (.iconst 1, 1) := by decide +kernel
theorem dX6_readOrder_89 : decode cX6_readOrder 89 = .ok (.goto 4, 3) := by decide +kernel
theorem dX6_readOrder_92 : decode cX6_readOrder 92 = .ok (.iconst 0, 1) := by decide +kernel
theorem dX6_readOrder_93 : decode cX6_readOrder 93 = .ok (.ireturn, 1) := by decide +kernel
theorem dX6_doOrder_0 : decode cX6_doOrder 0 = .ok (.iload_n 1, 1) := by decide +kernel
theorem dX6_doOrder_1 : decode cX6_doOrder 1 = .ok (.lookupswitch 136 #[(99, 51), (108, 108), (112, 74), (116, 125), (119, 91)], 51) := by decide +kernel
theorem dX6_doOrder_52 : decode cX6_doOrder 52 = .ok (.aload_n 0, 1) := by decide +kernel
theorem dX6_doOrder_53 : decode cX6_doOrder 53 = .ok (.aload_n 0, 1) := by decide +kernel
theorem dX6_doOrder_54 : decode cX6_doOrder 54 = .ok (.getfield 32, 3) := by decide +kernel
theorem dX6_doOrder_57 : decode cX6_doOrder 57 = .ok (.iconst 0, 1) := by decide +kernel
theorem dX6_doOrder_58 : decode cX6_doOrder 58 = .ok (.iaload, 1) := by decide +kernel
theorem dX6_doOrder_59 : decode cX6_doOrder 59 = .ok (.aload_n 0, 1) := by decide +kernel
theorem dX6_doOrder_60 : decode cX6_doOrder 60 = .ok (.getfield 32, 3) := by decide +kernel
theorem dX6_doOrder_63 : decode cX6_doOrder 63 = .ok (.iconst 1, 1) := by decide +kernel
theorem dX6_doOrder_64 : decode cX6_doOrder 64 = .ok (.iaload, 1) := by decide +kernel
theorem dX6_doOrder_65 : decode cX6_doOrder 65 = .ok (.aload_n 0, 1) := by decide +kernel
theorem dX6_doOrder_66 : decode cX6_doOrder 66 = .ok (.getfield 32, 3) := by decide +kernel
theorem dX6_doOrder_69 : decode cX6_doOrder 69 = .ok (.iconst 2, 1) := by decide +kernel
theorem dX6_doOrder_70 : decode cX6_doOrder 70 = .ok (.iaload, 1) := by decide +kernel
theorem dX6_doOrder_71 : decode cX6_doOrder 71 = .ok (.invokevirtual 146, 3) := by decide +kernel
theorem dX6_doOrder_74 : decode cX6_doOrder 74 = .ok (.ireturn, 1) := by decide +kernel
theorem dX6_doOrder_75 : decode cX6_doOrder 75 = .ok (.aload_n 0, 1) := by decide +kernel
theorem dX6_doOrder_76 : decode cX6_doOrder 76 = .ok (.aload_n 0, 1) := by decide +kernel
theorem dX6_doOrder_77 : decode cX6_doOrder 77 = .ok (.getfield 32, 3) := by decide +kernel
theorem dX6_doOrder_80 : decode cX6_doOrder 80 = .ok (.iconst 0, 1) := by decide +kernel
theorem dX6_doOrder_81 : decode cX6_doOrder 81 = .ok (.iaload, 1) := by decide +kernel
theorem dX6_doOrder_82 : decode cX6_doOrder 82 = .ok (.aload_n 0, 1) := by decide +kernel
theorem dX6_doOrder_83 : decode cX6_doOrder 83 = .ok (.getfield 32, 3) := by decide +kernel
theorem dX6_doOrder_86 : decode cX6_doOrder 86 = .ok (.iconst 1, 1) := by decide +kernel
theorem dX6_doOrder_87 : decode cX6_doOrder 87 = .ok (.iaload, 1) := by decide +kernel
theorem dX6_doOrder_88 : decode cX6_doOrder 88 = .ok (.invokevirtual 156, 3) := by decide +kernel
theorem dX6_doOrder_91 : decode cX6_doOrder 91 = .ok (.ireturn, 1) := by decide +kernel
theorem dX6_doOrder_92 : decode cX6_doOrder 92 = .ok (.aload_n 0, 1) := by decide +kernel
theorem dX6_doOrder_93 : decode cX6_doOrder 93 = .ok (.aload_n 0, 1) := by decide +kernel
theorem dX6_doOrder_94 : decode cX6_doOrder 94 = .ok (.getfield 32, 3) := by decide +kernel
theorem dX6_doOrder_97 : decode cX6_doOrder 97 = .ok (.iconst 0, 1) := by decide +kernel
theorem dX6_doOrder_98 : decode cX6_doOrder 98 = .ok (.iaload, 1) := by decide +kernel
theorem dX6_doOrder_99 : decode cX6_doOrder 99 = .ok (.aload_n 0, 1) := by decide +kernel
theorem dX6_doOrder_100 : decode cX6_doOrder 100 = .ok (.getfield 32, 3) := by decide +kernel
theorem dX6_doOrder_103 : decode cX6_doOrder 103 = .ok (.iconst 1, 1) := by decide +kernel
theorem dX6_doOrder_104 : decode cX6_doOrder 104 = .ok (.iaload, 1) := by decide +kernel
theorem dX6_doOrder_105 : decode cX6_doOrder 105 = .ok (.invokevirtual 159, 3) := by decide +kernel
theorem dX6_doOrder_108 : decode cX6_doOrder 108 = .ok (.ireturn, 1) := by decide +kernel
theorem dX6_doOrder_109 : decode cX6_doOrder 109 = .ok (.aload_n 0, 1) := by decide +kernel
theorem dX6_doOrder_110 : decode cX6_doOrder 110 = .ok (.aload_n 0, 1) := by decide +kernel
theorem dX6_doOrder_111 : decode cX6_doOrder 111 = .ok (.getfield 32, 3) := by decide +kernel
theorem dX6_doOrder_114 : decode cX6_doOrder 114 = .ok (.iconst 0, 1) := by decide +kernel
theorem dX6_doOrder_115 : decode cX6_doOrder 115 = .ok (.iaload, 1) := by decide +kernel
theorem dX6_doOrder_116 : decode cX6_doOrder 116 = .ok (.aload_n 0, 1) := by decide +kernel
theorem dX6_doOrder_117 : decode cX6_doOrder 117 = .ok (.getfield 32, 3) := by decide +kernel
theorem dX6_doOrder_120 : decode cX6_doOrder 120 = .ok (.iconst 1, 1) := by decide +kernel
theorem dX6_doOrder_121 : decode cX6_doOrder 121 = .ok (.iaload, 1) := by decide +kernel
theorem dX6_doOrder_122 : decode cX6_doOrder 122 = .ok (.invokevirtual 153, 3) := by decide +kernel
theorem dX6_doOrder_125 : decode cX6_doOrder 125 = .ok (.ireturn, 1) := by decide +kernel
theorem dX6_doOrder_126 : decode cX6_doOrder 126 = .ok (.aload_n 0, 1) := by decide +kernel
theorem dX6_doOrder_127 : decode cX6_doOrder 127 = .ok (.aload_n 0, 1) := by decide +kernel
theorem dX6_doOrder_128 : decode cX6_doOrder 128 = .ok (.getfield 32, 3) := by decide +kernel
theorem dX6_doOrder_131 : decode cX6_doOrder 131 = .ok (.iconst 0, 1) := by decide +kernel
theorem dX6_doOrder_132 : decode cX6_doOrder 132 = .ok (.iaload, 1) := by decide +kernel
theorem dX6_doOrder_133 : decode cX6_doOrder 133 = .ok (.invokevirtual 168, 3) := by decide +kernel
theorem dX6_doOrder_136 : decode cX6_doOrder 136 = .ok (.ireturn, 1) := by decide +kernel
theorem dX6_doOrder_137 : decode cX6_doOrder 137 = .ok (.aload_n 0, 1) := by decide +kernel
theorem dX6_doOrder_138 : decode cX6_doOrder 138 = .ok (.aload_n 0, 1) := by decide +kernel
theorem dX6_doOrder_139 : decode cX6_doOrder 139 = .ok (.getfield 32, 3) := by decide +kernel
theorem dX6_doOrder_142 : decode cX6_doOrder 142 = .ok (.iconst 0, 1) := by decide +kernel
theorem dX6_doOrder_143 : decode cX6_doOrder 143 = .ok (.iaload, 1) := by decide +kernel
theorem dX6_doOrder_144 : decode cX6_doOrder 144 = .ok (.invokevirtual 165, 3) := by decide +kernel
theorem dX6_doOrder_147 : decode cX6_doOrder 147 = .ok (.ireturn, 1) := by decide +kernel
theorem dX6_doOrders_0 : decode cX6_doOrders 0 = .ok (.aload_n 0, 1) := by decide +kernel
theorem dX6_doOrders_1 : decode cX6_doOrders 1 = .ok (.iconst 0, 1) := by decide +kernel
theorem dX6_doOrders_2 : decode cX6_doOrders 2 = .ok (.putfield 214, 3) := by decide +kernel
theorem dX6_doOrders_5 : decode cX6_doOrders 5 = .ok (.aload_n 0, 1) := by decide +kernel
theorem dX6_doOrders_6 : decode cX6_doOrders 6 = .ok (.iconst 0, 1) := by decide +kernel
theorem dX6_doOrders_7 : decode cX6_doOrders 7 = .ok (.putfield 229, 3) := by decide +kernel
theorem dX6_doOrders_10 : decode cX6_doOrders 10 = .ok (.aload_n 0, 1) := by decide +kernel
theorem dX6_doOrders_11 : decode cX6_doOrders 11 = .ok (.ldc 174, 2) := by decide +kernel
theorem dX6_doOrders_13 : decode cX6_doOrders 13 = .ok (.putfield 232, 3) := by decide +kernel
theorem dX6_doOrders_16 : decode cX6_doOrders 16 = .ok (.aload_n 0, 1) := by decide +kernel
theorem dX6_doOrders_17 : decode cX6_doOrders 17 = .ok (.getfield 214, 3) := by decide +kernel
theorem dX6_doOrders_20 : decode cX6_doOrders 20 = .ok (.aload_n 0, 1) := by decide +kernel
theorem dX6_doOrders_21 : decode cX6_doOrders 21 = .ok (.getfield 208, 3) := by decide +kernel
theorem dX6_doOrders_24 : decode cX6_doOrders 24 = .ok (.if_icmp .ge 112, 3) := by decide +kernel
theorem dX6_doOrders_27 : decode cX6_doOrders 27 = .ok (.aload_n 0, 1) := by decide +kernel
theorem dX6_doOrders_28 : decode cX6_doOrders 28 = .ok (.getfield 232, 3) := by decide +kernel
theorem dX6_doOrders_31 : decode cX6_doOrders 31 = .ok (.ldc 174, 2) := by decide +kernel
theorem dX6_doOrders_33 : decode cX6_doOrders 33 = .ok (.if_icmp .ne 103, 3) := by decide +kernel
theorem dX6_doOrders_36 : decode cX6_doOrders 36 = .ok (.aload_n 0, 1) := by decide +kernel
theorem dX6_doOrders_37 : decode cX6_doOrders 37 = .ok (.getfield 214, 3) := by decide +kernel
theorem dX6_doOrders_40 : decode cX6_doOrders 40 = .ok (.istore_n 1, 1) := by decide +kernel
theorem dX6_doOrders_41 : decode cX6_doOrders 41 = .ok (.aload_n 0, 1) := by decide +kernel
theorem dX6_doOrders_42 : decode cX6_doOrders 42 = .ok (.getfield 29, 3) := by decide +kernel
theorem dX6_doOrders_45 : decode cX6_doOrders 45 = .ok (.aload_n 0, 1) := by decide +kernel
theorem dX6_doOrders_46 : decode cX6_doOrders 46 = .ok (.getfield 214, 3) := by decide +kernel
theorem dX6_doOrders_49 : decode cX6_doOrders 49 = .ok (.iaload, 1) := by decide +kernel
theorem dX6_doOrders_50 : decode cX6_doOrders 50 = .ok (.istore_n 2, 1) := by decide +kernel
theorem dX6_doOrders_51 : decode cX6_doOrders 51 = .ok (.aload_n 0, 1) := by decide +kernel
theorem dX6_doOrders_52 : decode cX6_doOrders 52 = .ok (.invokevirtual 235, 3) := by decide +kernel
theorem dX6_doOrders_55 : decode cX6_doOrders 55 = .ok (.istore_n 3, 1) := by decide +kernel
theorem dX6_doOrders_56 : decode cX6_doOrders 56 = .ok (.iload_n 3, 1) := by decide +kernel
theorem dX6_doOrders_57 : decode cX6_doOrders 57 = .ok (.ifCond .eq 11, 3) := by decide +kernel
theorem dX6_doOrders_60 : decode cX6_doOrders 60 = .ok (.aload_n 0, 1) := by decide +kernel
theorem dX6_doOrders_61 : decode cX6_doOrders 61 = .ok (.iload_n 2, 1) := by decide +kernel
theorem dX6_doOrders_62 : decode cX6_doOrders 62 = .ok (.invokevirtual 238, 3) := by decide +kernel
theorem dX6_doOrders_65 : decode cX6_doOrders 65 = .ok (.goto 4, 3) := by decide +kernel
theorem dX6_doOrders_68 : decode cX6_doOrders 68 = .ok (.iconst 0, 1) := by decide +kernel
theorem dX6_doOrders_69 : decode cX6_doOrders 69 = .ok (.istore 4, 2) := by decide +kernel
theorem dX6_doOrders_71 : decode cX6_doOrders 71 = .ok (.iload_n 3, 1) := by decide +kernel
theorem dX6_doOrders_72 : decode cX6_doOrders 72 = .ok (.ifCond .eq 11, 3) := by decide +kernel
theorem dX6_doOrders_75 : decode cX6_doOrders 75 = .ok (.iload 4, 2) := by decide +kernel
theorem dX6_doOrders_77 : decode cX6_doOrders 77 = .ok (.invokestatic 40, 3) := by decide +kernel
theorem dX6_doOrders_80 : decode cX6_doOrders 80 = .ok (.ifCond .eq 43, 3) := by decide +kernel
theorem dX6_doOrders_83 : decode cX6_doOrders 83 = .ok (.aload_n 0, 1) := by decide +kernel
theorem dX6_doOrders_84 : decode cX6_doOrders 84 = .ok (.iload_n 1, 1) := by decide +kernel
theorem dX6_doOrders_85 : decode cX6_doOrders 85 = .ok (.putfield 232, 3) := by decide +kernel
theorem dX6_doOrders_88 : decode cX6_doOrders 88 = .ok (.aload_n 0, 1) := by decide +kernel
theorem dX6_doOrders_89 : decode cX6_doOrders 89 = .ok (.iload_n 3, 1) := by decide +kernel
theorem dX6_doOrders_90 : decode cX6_doOrders 90 = .ok (.ifCond .eq 7, 3) := by decide +kernel
theorem dX6_doOrders_93 : decode cX6_doOrders 93 = .ok (.iconst 2, 1) := by decide +kernel
theorem dX6_doOrders_94 : decode cX6_doOrders 94 = .ok (.goto 4, 3) := by decide +kernel
theorem dX6_doOrders_97 : decode cX6_doOrders 97 = .ok (.iconst 1, 1) := by decide +kernel
theorem dX6_doOrders_98 : decode cX6_doOrders 98 = .ok (.putfield 241, 3) := by decide +kernel
theorem dX6_doOrders_101 : decode cX6_doOrders 101 = .ok (.aload_n 0, 1) := by decide +kernel
theorem dX6_doOrders_102 : decode cX6_doOrders 102 = .ok (.iload_n 3, 1) := by decide +kernel
theorem dX6_doOrders_103 : decode cX6_doOrders 103 = .ok (.ifCond .eq 8, 3) := by decide +kernel
theorem dX6_doOrders_106 : decode cX6_doOrders 106 = .ok (.iload 4, 2) := by decide +kernel
theorem dX6_doOrders_108 : decode cX6_doOrders 108 = .ok (.goto 9, 3) := by decide +kernel
theorem dX6_doOrders_111 : decode cX6_doOrders 111 = .ok (.aload_n 0, 1) := by decide +kernel
theorem dX6_doOrders_112 : decode cX6_doOrders 112 = .ok (.getfield 214, 3) := by decide +kernel
theorem dX6_doOrders_115 : decode cX6_doOrders 115 = .ok (.iload_n 1, 1) := by decide +kernel
theorem dX6_doOrders_116 : decode cX6_doOrders 116 = .ok (.isub, 1) := by decide +kernel
theorem dX6_doOrders_117 : decode cX6_doOrders 117 = .ok (.putfield 244, 3) := by decide +kernel
theorem dX6_doOrders_120 : decode cX6_doOrders 120 = .ok (.goto 13, 3) := by decide +kernel
theorem dX6_doOrders_123 : decode cX6_doOrders 123 = .ok (.aload_n 0, 1) := by decide +kernel
theorem dX6_doOrders_124 : decode cX6_doOrders 124 = .ok (.dup, 1) := by decide +kernel
theorem dX6_doOrders_125 : decode cX6_doOrders 125 = .ok (.getfield 229, 3) := by decide +kernel
theorem dX6_doOrders_128 : decode cX6_doOrders 128 = .ok (.iconst 1, 1) := by decide +kernel
theorem dX6_doOrders_129 : decode cX6_doOrders 129 = .ok (.iadd, 1) := by decide +kernel
theorem dX6_doOrders_130 : decode cX6_doOrders 130 = .ok (.putfield 229, 3) := by decide +kernel
theorem dX6_doOrders_133 : decode cX6_doOrders 133 = .ok (.goto (-117), 3) := by decide +kernel
theorem dX6_doOrders_136 : decode cX6_doOrders 136 = .ok (.return_, 1) := by decide +kernel
theorem dX6_fault_0 : decode cX6_fault 0 = .ok (.iload_n 1, 1) := by decide +kernel
theorem dX6_fault_1 : decode cX6_fault 1 = .ok (.iconst 0, 1) := by decide +kernel
theorem dX6_fault_2 : decode cX6_fault 2 = .ok (.iconst 2, 1) := by decide +kernel
theorem dX6_fault_3 : decode cX6_fault 3 = .ok (.invokestatic 36, 3) := by decide +kernel
theorem dX6_fault_6 : decode cX6_fault 6 = .ok (.ifCond .ne 6, 3) := by decide +kernel
theorem dX6_fault_9 : decode cX6_fault 9 = .ok (.ldc 35, 2) := by decide +kernel
theorem dX6_fault_11 : decode cX6_fault 11 = .ok (.ireturn, 1) := by decide +kernel
theorem dX6_fault_12 : decode cX6_fault 12 = .ok (.aload_n 0, 1) := by decide +kernel
theorem dX6_fault_13 : decode cX6_fault 13 = .ok (.invokevirtual 181, 3) := by decide +kernel
theorem dX6_fault_16 : decode cX6_fault 16 = .ok (.aload_n 0, 1) := by decide +kernel
theorem dX6_fault_17 : decode cX6_fault 17 = .ok (.invokevirtual 247, 3) := by decide +kernel
theorem dX6_fault_20 : decode cX6_fault 20 = .ok (.aload_n 0, 1) := by decide +kernel
theorem dX6_fault_21 : decode cX6_fault 21 = .ok (.invokevirtual 184, 3) := by decide +kernel
theorem dX6_fault_24 : decode cX6_fault 24 = .ok (.aload_n 0, 1) := by decide +kernel
theorem dX6_fault_25 : decode cX6_fault 25 = .ok (.getfield 232, 3) := by decide +kernel
theorem dX6_fault_28 : decode cX6_fault 28 = .ok (.ldc 174, 2) := by decide +kernel
theorem dX6_fault_30 : decode cX6_fault 30 = .ok (.if_icmp .ne 8, 3) := by decide +kernel
theorem dX6_fault_33 : decode cX6_fault 33 = .ok (.ldc 174, 2) := by decide +kernel
theorem dX6_fault_35 : decode cX6_fault 35 = .ok (.goto 30, 3) := by decide +kernel
theorem dX6_fault_38 : decode cX6_fault 38 = .ok (.iload_n 1, 1) := by decide +kernel
theorem dX6_fault_39 : decode cX6_fault 39 = .ok (.ifCond .ne 10, 3) := by decide +kernel
theorem dX6_fault_42 : decode cX6_fault 42 = .ok (.aload_n 0, 1) := by decide +kernel
theorem dX6_fault_43 : decode cX6_fault 43 = .ok (.getfield 232, 3) := by decide +kernel
theorem dX6_fault_46 : decode cX6_fault 46 = .ok (.goto 19, 3) := by decide +kernel
theorem dX6_fault_49 : decode cX6_fault 49 = .ok (.iload_n 1, 1) := by decide +kernel
theorem dX6_fault_50 : decode cX6_fault 50 = .ok (.iconst 1, 1) := by decide +kernel
theorem dX6_fault_51 : decode cX6_fault 51 = .ok (.if_icmp .ne 10, 3) := by decide +kernel
theorem dX6_fault_54 : decode cX6_fault 54 = .ok (.aload_n 0, 1) := by decide +kernel
theorem dX6_fault_55 : decode cX6_fault 55 = .ok (.getfield 241, 3) := by decide +kernel
theorem dX6_fault_58 : decode cX6_fault 58 = .ok (.goto 7, 3) := by decide +kernel
theorem dX6_fault_61 : decode cX6_fault 61 = .ok (.aload_n 0, 1) := by decide +kernel
theorem dX6_fault_62 : decode cX6_fault 62 = .ok (.getfield 244, 3) := by decide +kernel
theorem dX6_fault_65 : decode cX6_fault 65 = .ok (.ireturn, 1) := by decide +kernel
theorem dX6_play_0 : decode cX6_play 0 = .ok (.aload_n 0, 1) := by decide +kernel
theorem dX6_play_1 : decode cX6_play 1 = .ok (.invokevirtual 143, 3) := by decide +kernel
theorem dX6_play_4 : decode cX6_play 4 = .ok (.aload_n 0, 1) := by decide +kernel
theorem dX6_play_5 : decode cX6_play 5 = .ok (.invokevirtual 247, 3) := by decide +kernel
theorem dX6_play_8 : decode cX6_play 8 = .ok (.aload_n 0, 1) := by decide +kernel
theorem dX6_play_9 : decode cX6_play 9 = .ok (.getfield 232, 3) := by decide +kernel
theorem dX6_play_12 : decode cX6_play 12 = .ok (.ldc 174, 2) := by decide +kernel
theorem dX6_play_14 : decode cX6_play 14 = .ok (.if_icmp .eq 32, 3) := by decide +kernel
theorem dX6_play_17 : decode cX6_play 17 = .ok (.iconst 0, 1) := by decide +kernel
theorem dX6_play_18 : decode cX6_play 18 = .ok (.istore_n 1, 1) := by decide +kernel
theorem dX6_play_19 : decode cX6_play 19 = .ok (.iload_n 1, 1) := by decide +kernel
theorem dX6_play_20 : decode cX6_play 20 = .ok (.bipush 120, 2) := by decide +kernel
theorem dX6_play_22 : decode cX6_play 22 = .ok (.if_icmp .ge 21, 3) := by decide +kernel
theorem dX6_play_25 : decode cX6_play 25 = .ok (.aload_n 0, 1) := by decide +kernel
theorem dX6_play_26 : decode cX6_play 26 = .ok (.getfield 7, 3) := by decide +kernel
theorem dX6_play_29 : decode cX6_play 29 = .ok (.iload_n 1, 1) := by decide +kernel
theorem dX6_play_30 : decode cX6_play 30 = .ok (.aload_n 0, 1) := by decide +kernel
theorem dX6_play_31 : decode cX6_play 31 = .ok (.getfield 13, 3) := by decide +kernel
theorem dX6_play_34 : decode cX6_play 34 = .ok (.iload_n 1, 1) := by decide +kernel
theorem dX6_play_35 : decode cX6_play 35 = .ok (.iaload, 1) := by decide +kernel
theorem dX6_play_36 : decode cX6_play 36 = .ok (.iastore, 1) := by decide +kernel
theorem dX6_play_37 : decode cX6_play 37 = .ok (.iinc 1 1, 3) := by decide +kernel
theorem dX6_play_40 : decode cX6_play 40 = .ok (.goto (-21), 3) := by decide +kernel
theorem dX6_play_43 : decode cX6_play 43 = .ok (.ldc 128, 2) := by decide +kernel
theorem dX6_play_45 : decode cX6_play 45 = .ok (.ireturn, 1) := by decide +kernel
theorem dX6_play_46 : decode cX6_play 46 = .ok (.aload_n 0, 1) := by decide +kernel
theorem dX6_play_47 : decode cX6_play 47 = .ok (.aload_n 0, 1) := by decide +kernel
theorem dX6_play_48 : decode cX6_play 48 = .ok (.getfield 229, 3) := by decide +kernel
theorem dX6_play_51 : decode cX6_play 51 = .ok (.invokevirtual 150, 3) := by decide +kernel
theorem dX6_play_54 : decode cX6_play 54 = .ok (.ireturn, 1) := by decide +kernel
theorem dJxf58ca_isNaN_12338_0 : decode cJxf58ca_isNaN_12338 0 = .ok (.fload_n 0, 1) := by decide +kernel
theorem dJxf58ca_isNaN_12338_1 : decode cJxf58ca_isNaN_12338 1 = .ok (.fload_n 0, 1) := by decide +kernel
theorem dJxf58ca_isNaN_12338_2 : decode cJxf58ca_isNaN_12338 2 = .ok (.fcmp .l, 1) := by decide +kernel
theorem dJxf58ca_isNaN_12338_3 : decode cJxf58ca_isNaN_12338 3 = .ok (.ifCond .eq 7, 3) := by decide +kernel
theorem dJxf58ca_isNaN_12338_6 : decode cJxf58ca_isNaN_12338 6 = .ok (.iconst 1, 1) := by decide +kernel
theorem dJxf58ca_isNaN_12338_7 : decode cJxf58ca_isNaN_12338 7 = .ok (.goto 4, 3) := by decide +kernel
theorem dJxf58ca_isNaN_12338_10 : decode cJxf58ca_isNaN_12338 10 = .ok (.iconst 0, 1) := by decide +kernel
theorem dJxf58ca_isNaN_12338_11 : decode cJxf58ca_isNaN_12338 11 = .ok (.ireturn, 1) := by decide +kernel
theorem dJxf58ca_floatToIntBits_5c35a_0 : decode cJxf58ca_floatToIntBits_5c35a 0 = .ok (.fload_n 0, 1) := by decide +kernel
theorem dJxf58ca_floatToIntBits_5c35a_1 : decode cJxf58ca_floatToIntBits_5c35a 1 = .ok (.invokestatic 59, 3) := by decide +kernel
theorem dJxf58ca_floatToIntBits_5c35a_4 : decode cJxf58ca_floatToIntBits_5c35a 4 = .ok (.ifCond .ne 8, 3) := by decide +kernel
theorem dJxf58ca_floatToIntBits_5c35a_7 : decode cJxf58ca_floatToIntBits_5c35a 7 = .ok (.fload_n 0, 1) := by decide +kernel
theorem dJxf58ca_floatToIntBits_5c35a_8 : decode cJxf58ca_floatToIntBits_5c35a 8 = .ok (.invokestatic 74, 3) := by decide +kernel
theorem dJxf58ca_floatToIntBits_5c35a_11 : decode cJxf58ca_floatToIntBits_5c35a 11 = .ok (.ireturn, 1) := by decide +kernel
theorem dJxf58ca_floatToIntBits_5c35a_12 : decode cJxf58ca_floatToIntBits_5c35a 12 = .ok (.ldc 77, 2) := by decide +kernel
theorem dJxf58ca_floatToIntBits_5c35a_14 : decode cJxf58ca_floatToIntBits_5c35a 14 = .ok (.ireturn, 1) := by decide +kernel
theorem dJ9_floorDiv_7cf53_0 : decode cJ9_floorDiv_7cf53 0 = .ok (.iload_n 0, 1) := by decide +kernel
theorem dJ9_floorDiv_7cf53_1 : decode cJ9_floorDiv_7cf53 1 = .ok (.iload_n 1, 1) := by decide +kernel
theorem dJ9_floorDiv_7cf53_2 : decode cJ9_floorDiv_7cf53 2 = .ok (.idiv, 1) := by decide +kernel
theorem dJ9_floorDiv_7cf53_3 : decode cJ9_floorDiv_7cf53 3 = .ok (.istore_n 2, 1) := by decide +kernel
theorem dJ9_floorDiv_7cf53_4 : decode cJ9_floorDiv_7cf53 4 = .ok (.iload_n 0, 1) := by decide +kernel
theorem dJ9_floorDiv_7cf53_5 : decode cJ9_floorDiv_7cf53 5 = .ok (.iload_n 1, 1) := by decide +kernel
theorem dJ9_floorDiv_7cf53_6 : decode cJ9_floorDiv_7cf53 6 = .ok (.ixor, 1) := by decide +kernel
theorem dJ9_floorDiv_7cf53_7 : decode cJ9_floorDiv_7cf53 7 = .ok (.ifCond .ge 14, 3) := by decide +kernel
theorem dJ9_floorDiv_7cf53_10 : decode cJ9_floorDiv_7cf53 10 = .ok (.iload_n 2, 1) := by decide +kernel
theorem dJ9_floorDiv_7cf53_11 : decode cJ9_floorDiv_7cf53 11 = .ok (.iload_n 1, 1) := by decide +kernel
theorem dJ9_floorDiv_7cf53_12 : decode cJ9_floorDiv_7cf53 12 = .ok (.imul, 1) := by decide +kernel
theorem dJ9_floorDiv_7cf53_13 : decode cJ9_floorDiv_7cf53 13 = .ok (.iload_n 0, 1) := by decide +kernel
theorem dJ9_floorDiv_7cf53_14 : decode cJ9_floorDiv_7cf53 14 = .ok (.if_icmp .eq 7, 3) := by decide +kernel
theorem dJ9_floorDiv_7cf53_17 : decode cJ9_floorDiv_7cf53 17 = .ok (.iload_n 2, 1) := by decide +kernel
theorem dJ9_floorDiv_7cf53_18 : decode cJ9_floorDiv_7cf53 18 = .ok (.iconst 1, 1) := by decide +kernel
theorem dJ9_floorDiv_7cf53_19 : decode cJ9_floorDiv_7cf53 19 = .ok (.isub, 1) := by decide +kernel
theorem dJ9_floorDiv_7cf53_20 : decode cJ9_floorDiv_7cf53 20 = .ok (.ireturn, 1) := by decide +kernel
theorem dJ9_floorDiv_7cf53_21 : decode cJ9_floorDiv_7cf53 21 = .ok (.iload_n 2, 1) := by decide +kernel
theorem dJ9_floorDiv_7cf53_22 : decode cJ9_floorDiv_7cf53 22 = .ok (.ireturn, 1) := by decide +kernel
theorem dJ9_floorMod_7cf53_0 : decode cJ9_floorMod_7cf53 0 = .ok (.iload_n 0, 1) := by decide +kernel
theorem dJ9_floorMod_7cf53_1 : decode cJ9_floorMod_7cf53 1 = .ok (.iload_n 1, 1) := by decide +kernel
theorem dJ9_floorMod_7cf53_2 : decode cJ9_floorMod_7cf53 2 = .ok (.irem, 1) := by decide +kernel
theorem dJ9_floorMod_7cf53_3 : decode cJ9_floorMod_7cf53 3 = .ok (.istore_n 2, 1) := by decide +kernel
theorem dJ9_floorMod_7cf53_4 : decode cJ9_floorMod_7cf53 4 = .ok (.iload_n 0, 1) := by decide +kernel
theorem dJ9_floorMod_7cf53_5 : decode cJ9_floorMod_7cf53 5 = .ok (.iload_n 1, 1) := by decide +kernel
theorem dJ9_floorMod_7cf53_6 : decode cJ9_floorMod_7cf53 6 = .ok (.ixor, 1) := by decide +kernel
theorem dJ9_floorMod_7cf53_7 : decode cJ9_floorMod_7cf53 7 = .ok (.ifCond .ge 11, 3) := by decide +kernel
theorem dJ9_floorMod_7cf53_10 : decode cJ9_floorMod_7cf53 10 = .ok (.iload_n 2, 1) := by decide +kernel
theorem dJ9_floorMod_7cf53_11 : decode cJ9_floorMod_7cf53 11 = .ok (.ifCond .eq 7, 3) := by decide +kernel
theorem dJ9_floorMod_7cf53_14 : decode cJ9_floorMod_7cf53 14 = .ok (.iload_n 2, 1) := by decide +kernel
theorem dJ9_floorMod_7cf53_15 : decode cJ9_floorMod_7cf53 15 = .ok (.iload_n 1, 1) := by decide +kernel
theorem dJ9_floorMod_7cf53_16 : decode cJ9_floorMod_7cf53 16 = .ok (.iadd, 1) := by decide +kernel
theorem dJ9_floorMod_7cf53_17 : decode cJ9_floorMod_7cf53 17 = .ok (.ireturn, 1) := by decide +kernel
theorem dJ9_floorMod_7cf53_18 : decode cJ9_floorMod_7cf53 18 = .ok (.iload_n 2, 1) := by decide +kernel
theorem dJ9_floorMod_7cf53_19 : decode cJ9_floorMod_7cf53 19 = .ok (.ireturn, 1) := by decide +kernel
theorem dJ9_abs_0f7a4_0 : decode cJ9_abs_0f7a4 0 = .ok (.iload_n 0, 1) := by decide +kernel
theorem dJ9_abs_0f7a4_1 : decode cJ9_abs_0f7a4 1 = .ok (.ifCond .ge 8, 3) := by decide +kernel
theorem dJ9_abs_0f7a4_4 : decode cJ9_abs_0f7a4 4 = .ok (.iload_n 0, 1) := by decide +kernel
theorem dJ9_abs_0f7a4_5 : decode cJ9_abs_0f7a4 5 = .ok (.ineg, 1) := by decide +kernel
theorem dJ9_abs_0f7a4_6 : decode cJ9_abs_0f7a4 6 = .ok (.goto 4, 3) := by decide +kernel
theorem dJ9_abs_0f7a4_9 : decode cJ9_abs_0f7a4 9 = .ok (.iload_n 0, 1) := by decide +kernel
theorem dJ9_abs_0f7a4_10 : decode cJ9_abs_0f7a4 10 = .ok (.ireturn, 1) := by decide +kernel
theorem dJ9_min_7cf53_0 : decode cJ9_min_7cf53 0 = .ok (.iload_n 0, 1) := by decide +kernel
theorem dJ9_min_7cf53_1 : decode cJ9_min_7cf53 1 = .ok (.iload_n 1, 1) := by decide +kernel
theorem dJ9_min_7cf53_2 : decode cJ9_min_7cf53 2 = .ok (.if_icmp .gt 7, 3) := by decide +kernel
theorem dJ9_min_7cf53_5 : decode cJ9_min_7cf53 5 = .ok (.iload_n 0, 1) := by decide +kernel
theorem dJ9_min_7cf53_6 : decode cJ9_min_7cf53 6 = .ok (.goto 4, 3) := by decide +kernel
theorem dJ9_min_7cf53_9 : decode cJ9_min_7cf53 9 = .ok (.iload_n 1, 1) := by decide +kernel
theorem dJ9_min_7cf53_10 : decode cJ9_min_7cf53 10 = .ok (.ireturn, 1) := by decide +kernel
