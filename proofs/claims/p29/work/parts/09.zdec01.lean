theorem dX3_clocksEmpty_4 : decode cX3_clocksEmpty 4 = .ok (.iload_n 2, 1) := by decide +kernel
theorem dX3_clocksEmpty_5 : decode cX3_clocksEmpty 5 = .ok (.aload_n 0, 1) := by decide +kernel
theorem dX3_clocksEmpty_6 : decode cX3_clocksEmpty 6 = .ok (.getfield 48, 3) := by decide +kernel
theorem dX3_clocksEmpty_9 : decode cX3_clocksEmpty 9 = .ok (.if_icmp .ge 36, 3) := by decide +kernel
theorem dX3_clocksEmpty_12 : decode cX3_clocksEmpty 12 = .ok (.iload_n 2, 1) := by decide +kernel
theorem dX3_clocksEmpty_13 : decode cX3_clocksEmpty 13 = .ok (.aload_n 0, 1) := by decide +kernel
theorem dX3_clocksEmpty_14 : decode cX3_clocksEmpty 14 = .ok (.getfield 11, 3) := by decide +kernel
theorem dX3_clocksEmpty_17 : decode cX3_clocksEmpty 17 = .ok (.arraylength, 1) := by decide +kernel
theorem dX3_clocksEmpty_18 : decode cX3_clocksEmpty 18 = .ok (.if_icmp .ge 27, 3) := by decide +kernel
theorem dX3_clocksEmpty_21 : decode cX3_clocksEmpty 21 = .ok (.aload_n 0, 1) := by decide +kernel
theorem dX3_clocksEmpty_22 : decode cX3_clocksEmpty 22 = .ok (.getfield 11, 3) := by decide +kernel
theorem dX3_clocksEmpty_25 : decode cX3_clocksEmpty 25 = .ok (.iload_n 2, 1) := by decide +kernel
theorem dX3_clocksEmpty_26 : decode cX3_clocksEmpty 26 = .ok (.aaload, 1) := by decide +kernel
theorem dX3_clocksEmpty_27 : decode cX3_clocksEmpty 27 = .ok (.getfield 197, 3) := by decide +kernel
theorem dX3_clocksEmpty_30 : decode cX3_clocksEmpty 30 = .ok (.ifCond .ne 9, 3) := by decide +kernel
theorem dX3_clocksEmpty_33 : decode cX3_clocksEmpty 33 = .ok (.iload_n 1, 1) := by decide +kernel
theorem dX3_clocksEmpty_34 : decode cX3_clocksEmpty 34 = .ok (.iconst 1, 1) := by decide +kernel
theorem dX3_clocksEmpty_35 : decode cX3_clocksEmpty 35 = .ok (.iload_n 2, 1) := by decide +kernel
theorem dX3_clocksEmpty_36 : decode cX3_clocksEmpty 36 = .ok (.ishl, 1) := by decide +kernel
theorem dX3_clocksEmpty_37 : decode cX3_clocksEmpty 37 = .ok (.ior, 1) := by decide +kernel
theorem dX3_clocksEmpty_38 : decode cX3_clocksEmpty 38 = .ok (.istore_n 1, 1) := by decide +kernel
theorem dX3_clocksEmpty_39 : decode cX3_clocksEmpty 39 = .ok (.iinc 2 1, 3) := by decide +kernel
theorem dX3_clocksEmpty_42 : decode cX3_clocksEmpty 42 = .ok (.goto (-38), 3) := by decide +kernel
theorem dX3_clocksEmpty_45 : decode cX3_clocksEmpty 45 = .ok (.iload_n 1, 1) := by decide +kernel
theorem dX3_clocksEmpty_46 : decode cX3_clocksEmpty 46 = .ok (.ireturn, 1) := by decide +kernel
theorem dX3_sizeOfError_0 : decode cX3_sizeOfError 0 = .ok (.aload_n 0, 1) := by decide +kernel
theorem dX3_sizeOfError_1 : decode cX3_sizeOfError 1 = .ok (.iload_n 1, 1) := by decide +kernel
theorem dX3_sizeOfError_2 : decode cX3_sizeOfError 2 = .ok (.invokevirtual 85, 3) := by decide +kernel
theorem dX3_sizeOfError_5 : decode cX3_sizeOfError 5 = .ok (.astore_n 2, 1) := by decide +kernel
theorem dX3_sizeOfError_6 : decode cX3_sizeOfError 6 = .ok (.aload_n 2, 1) := by decide +kernel
theorem dX3_sizeOfError_7 : decode cX3_sizeOfError 7 = .ok (.ifnonnull 7, 3) := by decide +kernel
theorem dX3_sizeOfError_10 : decode cX3_sizeOfError 10 = .ok (.iconst 0, 1) := by decide +kernel
theorem dX3_sizeOfError_11 : decode cX3_sizeOfError 11 = .ok (.goto 11, 3) := by decide +kernel
theorem dX3_sizeOfError_14 : decode cX3_sizeOfError 14 = .ok (.aload_n 0, 1) := by decide +kernel
theorem dX3_sizeOfError_15 : decode cX3_sizeOfError 15 = .ok (.aload_n 2, 1) := by decide +kernel
theorem dX3_sizeOfError_16 : decode cX3_sizeOfError 16 = .ok (.invokevirtual 127, 3) := by decide +kernel
theorem dX3_sizeOfError_19 : decode cX3_sizeOfError 19 = .ok (.invokestatic 224, 3) := by decide +kernel
theorem dX3_sizeOfError_22 : decode cX3_sizeOfError 22 = .ok (.ireturn, 1) := by decide +kernel
theorem dX3_errorsTogether_0 : decode cX3_errorsTogether 0 = .ok (.iconst 0, 1) := by decide +kernel
theorem dX3_errorsTogether_1 : decode cX3_errorsTogether 1 = .ok (.istore_n 1, 1) := by decide +kernel
theorem dX3_errorsTogether_2 : decode cX3_errorsTogether 2 = .ok (.iconst 0, 1) := by decide +kernel
theorem dX3_errorsTogether_3 : decode cX3_errorsTogether 3 = .ok (.istore_n 2, 1) := by decide +kernel
theorem dX3_errorsTogether_4 : decode cX3_errorsTogether 4 = .ok (.iload_n 2, 1) := by decide +kernel
theorem dX3_errorsTogether_5 : decode cX3_errorsTogether 5 = .ok (.aload_n 0, 1) := by decide +kernel
theorem dX3_errorsTogether_6 : decode cX3_errorsTogether 6 = .ok (.getfield 48, 3) := by decide +kernel
theorem dX3_errorsTogether_9 : decode cX3_errorsTogether 9 = .ok (.if_icmp .ge 17, 3) := by decide +kernel
theorem dX3_errorsTogether_12 : decode cX3_errorsTogether 12 = .ok (.iload_n 1, 1) := by decide +kernel
theorem dX3_errorsTogether_13 : decode cX3_errorsTogether 13 = .ok (.aload_n 0, 1) := by decide +kernel
theorem dX3_errorsTogether_14 : decode cX3_errorsTogether 14 = .ok (.iload_n 2, 1) := by decide +kernel
theorem dX3_errorsTogether_15 : decode cX3_errorsTogether 15 = .ok (.invokevirtual 245, 3) := by decide +kernel
theorem dX3_errorsTogether_18 : decode cX3_errorsTogether 18 = .ok (.iadd, 1) := by decide +kernel
theorem dX3_errorsTogether_19 : decode cX3_errorsTogether 19 = .ok (.istore_n 1, 1) := by decide +kernel
theorem dX3_errorsTogether_20 : decode cX3_errorsTogether 20 = .ok (.iinc 2 1, 3) := by decide +kernel
theorem dX3_errorsTogether_23 : decode cX3_errorsTogether 23 = .ok (.goto (-19), 3) := by decide +kernel
theorem dX3_errorsTogether_26 : decode cX3_errorsTogether 26 = .ok (.iload_n 1, 1) := by decide +kernel
theorem dX3_errorsTogether_27 : decode cX3_errorsTogether 27 = .ok (.ireturn, 1) := by decide +kernel
theorem dX3_rankOf_0 : decode cX3_rankOf 0 = .ok (.aload_n 0, 1) := by decide +kernel
theorem dX3_rankOf_1 : decode cX3_rankOf 1 = .ok (.iload_n 1, 1) := by decide +kernel
theorem dX3_rankOf_2 : decode cX3_rankOf 2 = .ok (.invokevirtual 245, 3) := by decide +kernel
theorem dX3_rankOf_5 : decode cX3_rankOf 5 = .ok (.istore_n 2, 1) := by decide +kernel
theorem dX3_rankOf_6 : decode cX3_rankOf 6 = .ok (.iconst 0, 1) := by decide +kernel
theorem dX3_rankOf_7 : decode cX3_rankOf 7 = .ok (.istore_n 3, 1) := by decide +kernel
theorem dX3_rankOf_8 : decode cX3_rankOf 8 = .ok (.iconst 0, 1) := by decide +kernel
theorem dX3_rankOf_9 : decode cX3_rankOf 9 = .ok (.istore 4, 2) := by decide +kernel
theorem dX3_rankOf_11 : decode cX3_rankOf 11 = .ok (.iload 4, 2) := by decide +kernel
theorem dX3_rankOf_13 : decode cX3_rankOf 13 = .ok (.aload_n 0, 1) := by decide +kernel
theorem dX3_rankOf_14 : decode cX3_rankOf 14 = .ok (.getfield 48, 3) := by decide +kernel
theorem dX3_rankOf_17 : decode cX3_rankOf 17 = .ok (.if_icmp .ge 38, 3) := by decide +kernel
theorem dX3_rankOf_20 : decode cX3_rankOf 20 = .ok (.aload_n 0, 1) := by decide +kernel
theorem dX3_rankOf_21 : decode cX3_rankOf 21 = .ok (.iload 4, 2) := by decide +kernel
theorem dX3_rankOf_23 : decode cX3_rankOf 23 = .ok (.invokevirtual 245, 3) := by decide +kernel
theorem dX3_rankOf_26 : decode cX3_rankOf 26 = .ok (.istore 5, 2) := by decide +kernel
theorem dX3_rankOf_28 : decode cX3_rankOf 28 = .ok (.iload 5, 2) := by decide +kernel
theorem dX3_rankOf_30 : decode cX3_rankOf 30 = .ok (.iload_n 2, 1) := by decide +kernel
theorem dX3_rankOf_31 : decode cX3_rankOf 31 = .ok (.if_icmp .gt 15, 3) := by decide +kernel
theorem dX3_rankOf_34 : decode cX3_rankOf 34 = .ok (.iload 5, 2) := by decide +kernel
theorem dX3_rankOf_36 : decode cX3_rankOf 36 = .ok (.iload_n 2, 1) := by decide +kernel
theorem dX3_rankOf_37 : decode cX3_rankOf 37 = .ok (.if_icmp .ne 12, 3) := by decide +kernel
theorem dX3_rankOf_40 : decode cX3_rankOf 40 = .ok (.iload 4, 2) := by decide +kernel
theorem dX3_rankOf_42 : decode cX3_rankOf 42 = .ok (.iload_n 1, 1) := by decide +kernel
theorem dX3_rankOf_43 : decode cX3_rankOf 43 = .ok (.if_icmp .ge 6, 3) := by decide +kernel
theorem dX3_rankOf_46 : decode cX3_rankOf 46 = .ok (.iinc 3 1, 3) := by decide +kernel
theorem dX3_rankOf_49 : decode cX3_rankOf 49 = .ok (.iinc 4 1, 3) := by decide +kernel
theorem dX3_rankOf_52 : decode cX3_rankOf 52 = .ok (.goto (-41), 3) := by decide +kernel
theorem dX3_rankOf_55 : decode cX3_rankOf 55 = .ok (.iload_n 3, 1) := by decide +kernel
theorem dX3_rankOf_56 : decode cX3_rankOf 56 = .ok (.ireturn, 1) := by decide +kernel
theorem dX4_init_0 : decode cX4_init 0 = .ok (.aload_n 0, 1) := by decide +kernel
theorem dX4_init_1 : decode cX4_init 1 = .ok (.invokespecial 3, 3) := by decide +kernel
theorem dX4_init_4 : decode cX4_init 4 = .ok (.aload_n 0, 1) := by decide +kernel
theorem dX4_init_5 : decode cX4_init 5 = .ok (.bipush 60, 2) := by decide +kernel
theorem dX4_init_7 : decode cX4_init 7 = .ok (.newarray .char, 2) := by decide +kernel
theorem dX4_init_9 : decode cX4_init 9 = .ok (.putfield 9, 3) := by decide +kernel
theorem dX4_init_12 : decode cX4_init 12 = .ok (.aload_n 0, 1) := by decide +kernel
theorem dX4_init_13 : decode cX4_init 13 = .ok (.iconst 3, 1) := by decide +kernel
theorem dX4_init_14 : decode cX4_init 14 = .ok (.newarray .int, 2) := by decide +kernel
theorem dX4_init_16 : decode cX4_init 16 = .ok (.putfield 15, 3) := by decide +kernel
theorem dX4_init_19 : decode cX4_init 19 = .ok (.return_, 1) := by decide +kernel
theorem dX5_init_0 : decode cX5_init 0 = .ok (.aload_n 0, 1) := by decide +kernel
theorem dX5_init_1 : decode cX5_init 1 = .ok (.invokespecial 1, 3) := by decide +kernel
theorem dX5_init_4 : decode cX5_init 4 = .ok (.aload_n 0, 1) := by decide +kernel
theorem dX5_init_5 : decode cX5_init 5 = .ok (.new 7, 3) := by decide +kernel
theorem dX5_init_8 : decode cX5_init 8 = .ok (.dup, 1) := by decide +kernel
theorem dX5_init_9 : decode cX5_init 9 = .ok (.invokespecial 9, 3) := by decide +kernel
theorem dX5_init_12 : decode cX5_init 12 = .ok (.putfield 10, 3) := by decide +kernel
theorem dX5_init_15 : decode cX5_init 15 = .ok (.aload_n 0, 1) := by decide +kernel
theorem dX5_init_16 : decode cX5_init 16 = .ok (.new 7, 3) := by decide +kernel
theorem dX5_init_19 : decode cX5_init 19 = .ok (.dup, 1) := by decide +kernel
theorem dX5_init_20 : decode cX5_init 20 = .ok (.invokespecial 9, 3) := by decide +kernel
theorem dX5_init_23 : decode cX5_init 23 = .ok (.putfield 16, 3) := by decide +kernel
theorem dX5_init_26 : decode cX5_init 26 = .ok (.aload_n 0, 1) := by decide +kernel
theorem dX5_init_27 : decode cX5_init 27 = .ok (.new 7, 3) := by decide +kernel
theorem dX5_init_30 : decode cX5_init 30 = .ok (.dup, 1) := by decide +kernel
theorem dX5_init_31 : decode cX5_init 31 = .ok (.invokespecial 9, 3) := by decide +kernel
theorem dX5_init_34 : decode cX5_init 34 = .ok (.putfield 19, 3) := by decide +kernel
theorem dX5_init_37 : decode cX5_init 37 = .ok (.aload_n 0, 1) := by decide +kernel
theorem dX5_init_38 : decode cX5_init 38 = .ok (.iconst 4, 1) := by decide +kernel
theorem dX5_init_39 : decode cX5_init 39 = .ok (.anewarray 7, 3) := by decide +kernel
theorem dX5_init_42 : decode cX5_init 42 = .ok (.putfield 22, 3) := by decide +kernel
theorem dX5_init_45 : decode cX5_init 45 = .ok (.iconst 0, 1) := by decide +kernel
theorem dX5_init_46 : decode cX5_init 46 = .ok (.istore_n 1, 1) := by decide +kernel
theorem dX5_init_47 : decode cX5_init 47 = .ok (.iload_n 1, 1) := by decide +kernel
theorem dX5_init_48 : decode cX5_init 48 = .ok (.aload_n 0, 1) := by decide +kernel
theorem dX5_init_49 : decode cX5_init 49 = .ok (.getfield 22, 3) := by decide +kernel
theorem dX5_init_52 : decode cX5_init 52 = .ok (.arraylength, 1) := by decide +kernel
theorem dX5_init_53 : decode cX5_init 53 = .ok (.if_icmp .ge 22, 3) := by decide +kernel
theorem dX5_init_56 : decode cX5_init 56 = .ok (.aload_n 0, 1) := by decide +kernel
theorem dX5_init_57 : decode cX5_init 57 = .ok (.getfield 22, 3) := by decide +kernel
theorem dX5_init_60 : decode cX5_init 60 = .ok (.iload_n 1, 1) := by decide +kernel
theorem dX5_init_61 : decode cX5_init 61 = .ok (.new 7, 3) := by decide +kernel
theorem dX5_init_64 : decode cX5_init 64 = .ok (.dup, 1) := by decide +kernel
theorem dX5_init_65 : decode cX5_init 65 = .ok (.invokespecial 9, 3) := by decide +kernel
theorem dX5_init_68 : decode cX5_init 68 = .ok (.aastore, 1) := by decide +kernel
theorem dX5_init_69 : decode cX5_init 69 = .ok (.iinc 1 1, 3) := by decide +kernel
theorem dX5_init_72 : decode cX5_init 72 = .ok (.goto (-25), 3) := by decide +kernel
theorem dX5_init_75 : decode cX5_init 75 = .ok (.aload_n 0, 1) := by decide +kernel
theorem dX5_init_76 : decode cX5_init 76 = .ok (.iconst 2, 1) := by decide +kernel
theorem dX5_init_77 : decode cX5_init 77 = .ok (.anewarray 7, 3) := by decide +kernel
theorem dX5_init_80 : decode cX5_init 80 = .ok (.putfield 26, 3) := by decide +kernel
theorem dX5_init_83 : decode cX5_init 83 = .ok (.iconst 0, 1) := by decide +kernel
theorem dX5_init_84 : decode cX5_init 84 = .ok (.istore_n 1, 1) := by decide +kernel
theorem dX5_init_85 : decode cX5_init 85 = .ok (.iload_n 1, 1) := by decide +kernel
theorem dX5_init_86 : decode cX5_init 86 = .ok (.aload_n 0, 1) := by decide +kernel
theorem dX5_init_87 : decode cX5_init 87 = .ok (.getfield 26, 3) := by decide +kernel
theorem dX5_init_90 : decode cX5_init 90 = .ok (.arraylength, 1) := by decide +kernel
theorem dX5_init_91 : decode cX5_init 91 = .ok (.if_icmp .ge 22, 3) := by decide +kernel
theorem dX5_init_94 : decode cX5_init 94 = .ok (.aload_n 0, 1) := by decide +kernel
theorem dX5_init_95 : decode cX5_init 95 = .ok (.getfield 26, 3) := by decide +kernel
theorem dX5_init_98 : decode cX5_init 98 = .ok (.iload_n 1, 1) := by decide +kernel
theorem dX5_init_99 : decode cX5_init 99 = .ok (.new 7, 3) := by decide +kernel
theorem dX5_init_102 : decode cX5_init 102 = .ok (.dup, 1) := by decide +kernel
theorem dX5_init_103 : decode cX5_init 103 = .ok (.invokespecial 9, 3) := by decide +kernel
theorem dX5_init_106 : decode cX5_init 106 = .ok (.aastore, 1) := by decide +kernel
theorem dX5_init_107 : decode cX5_init 107 = .ok (.iinc 1 1, 3) := by decide +kernel
theorem dX5_init_110 : decode cX5_init 110 = .ok (.goto (-25), 3) := by decide +kernel
theorem dX5_init_113 : decode cX5_init 113 = .ok (.aload_n 0, 1) := by decide +kernel
theorem dX5_init_114 : decode cX5_init 114 = .ok (.iconst 2, 1) := by decide +kernel
theorem dX5_init_115 : decode cX5_init 115 = .ok (.newarray .boolean, 2) := by decide +kernel
theorem dX5_init_117 : decode cX5_init 117 = .ok (.putfield 29, 3) := by decide +kernel
theorem dX5_init_120 : decode cX5_init 120 = .ok (.aload_n 0, 1) := by decide +kernel
theorem dX5_init_121 : decode cX5_init 121 = .ok (.new 33, 3) := by decide +kernel
theorem dX5_init_124 : decode cX5_init 124 = .ok (.dup, 1) := by decide +kernel
theorem dX5_init_125 : decode cX5_init 125 = .ok (.invokespecial 35, 3) := by decide +kernel
theorem dX5_init_128 : decode cX5_init 128 = .ok (.putfield 36, 3) := by decide +kernel
theorem dX5_init_131 : decode cX5_init 131 = .ok (.return_, 1) := by decide +kernel
theorem dX5_clock_0 : decode cX5_clock 0 = .ok (.aload_n 0, 1) := by decide +kernel
theorem dX5_clock_1 : decode cX5_clock 1 = .ok (.getfield 19, 3) := by decide +kernel
theorem dX5_clock_4 : decode cX5_clock 4 = .ok (.aload_n 0, 1) := by decide +kernel
theorem dX5_clock_5 : decode cX5_clock 5 = .ok (.getfield 10, 3) := by decide +kernel
theorem dX5_clock_8 : decode cX5_clock 8 = .ok (.invokevirtual 40, 3) := by decide +kernel
theorem dX5_clock_11 : decode cX5_clock 11 = .ok (.aload_n 0, 1) := by decide +kernel
theorem dX5_clock_12 : decode cX5_clock 12 = .ok (.aload_n 0, 1) := by decide +kernel
theorem dX5_clock_13 : decode cX5_clock 13 = .ok (.getfield 10, 3) := by decide +kernel
theorem dX5_clock_16 : decode cX5_clock 16 = .ok (.iload_n 1, 1) := by decide +kernel
theorem dX5_clock_17 : decode cX5_clock 17 = .ok (.iload_n 2, 1) := by decide +kernel
theorem dX5_clock_18 : decode cX5_clock 18 = .ok (.iload_n 3, 1) := by decide +kernel
theorem dX5_clock_19 : decode cX5_clock 19 = .ok (.invokevirtual 44, 3) := by decide +kernel
theorem dX5_clock_22 : decode cX5_clock 22 = .ok (.invokevirtual 48, 3) := by decide +kernel
theorem dX5_clock_25 : decode cX5_clock 25 = .ok (.ireturn, 1) := by decide +kernel
theorem dX5_lead_0 : decode cX5_lead 0 = .ok (.aload_n 0, 1) := by decide +kernel
theorem dX5_lead_1 : decode cX5_lead 1 = .ok (.getfield 19, 3) := by decide +kernel
theorem dX5_lead_4 : decode cX5_lead 4 = .ok (.aload_n 0, 1) := by decide +kernel
theorem dX5_lead_5 : decode cX5_lead 5 = .ok (.getfield 10, 3) := by decide +kernel
theorem dX5_lead_8 : decode cX5_lead 8 = .ok (.invokevirtual 40, 3) := by decide +kernel
theorem dX5_lead_11 : decode cX5_lead 11 = .ok (.aload_n 0, 1) := by decide +kernel
theorem dX5_lead_12 : decode cX5_lead 12 = .ok (.aload_n 0, 1) := by decide +kernel
theorem dX5_lead_13 : decode cX5_lead 13 = .ok (.getfield 10, 3) := by decide +kernel
theorem dX5_lead_16 : decode cX5_lead 16 = .ok (.iload_n 1, 1) := by decide +kernel
theorem dX5_lead_17 : decode cX5_lead 17 = .ok (.iload_n 2, 1) := by decide +kernel
theorem dX5_lead_18 : decode cX5_lead 18 = .ok (.invokevirtual 52, 3) := by decide +kernel
theorem dX5_lead_21 : decode cX5_lead 21 = .ok (.invokevirtual 48, 3) := by decide +kernel
theorem dX5_lead_24 : decode cX5_lead 24 = .ok (.ireturn, 1) := by decide +kernel
theorem dX5_pour_0 : decode cX5_pour 0 = .ok (.aload_n 0, 1) := by decide +kernel
theorem dX5_pour_1 : decode cX5_pour 1 = .ok (.getfield 19, 3) := by decide +kernel
theorem dX5_pour_4 : decode cX5_pour 4 = .ok (.aload_n 0, 1) := by decide +kernel
theorem dX5_pour_5 : decode cX5_pour 5 = .ok (.getfield 10, 3) := by decide +kernel
theorem dX5_pour_8 : decode cX5_pour 8 = .ok (.invokevirtual 40, 3) := by decide +kernel
theorem dX5_pour_11 : decode cX5_pour 11 = .ok (.aload_n 0, 1) := by decide +kernel
theorem dX5_pour_12 : decode cX5_pour 12 = .ok (.aload_n 0, 1) := by decide +kernel
theorem dX5_pour_13 : decode cX5_pour 13 = .ok (.getfield 10, 3) := by decide +kernel
theorem dX5_pour_16 : decode cX5_pour 16 = .ok (.iload_n 1, 1) := by decide +kernel
theorem dX5_pour_17 : decode cX5_pour 17 = .ok (.iload_n 2, 1) := by decide +kernel
theorem dX5_pour_18 : decode cX5_pour 18 = .ok (.invokevirtual 56, 3) := by decide +kernel
theorem dX5_pour_21 : decode cX5_pour 21 = .ok (.invokevirtual 48, 3) := by decide +kernel
theorem dX5_pour_24 : decode cX5_pour 24 = .ok (.ireturn, 1) := by decide +kernel
theorem dX5_wax_0 : decode cX5_wax 0 = .ok (.aload_n 0, 1) := by decide +kernel
theorem dX5_wax_1 : decode cX5_wax 1 = .ok (.getfield 19, 3) := by decide +kernel
theorem dX5_wax_4 : decode cX5_wax 4 = .ok (.aload_n 0, 1) := by decide +kernel
theorem dX5_wax_5 : decode cX5_wax 5 = .ok (.getfield 10, 3) := by decide +kernel
theorem dX5_wax_8 : decode cX5_wax 8 = .ok (.invokevirtual 40, 3) := by decide +kernel
theorem dX5_wax_11 : decode cX5_wax 11 = .ok (.aload_n 0, 1) := by decide +kernel
theorem dX5_wax_12 : decode cX5_wax 12 = .ok (.aload_n 0, 1) := by decide +kernel
theorem dX5_wax_13 : decode cX5_wax 13 = .ok (.getfield 10, 3) := by decide +kernel
theorem dX5_wax_16 : decode cX5_wax 16 = .ok (.iload_n 1, 1) := by decide +kernel
theorem dX5_wax_17 : decode cX5_wax 17 = .ok (.iload_n 2, 1) := by decide +kernel
theorem dX5_wax_18 : decode cX5_wax 18 = .ok (.invokevirtual 59, 3) := by decide +kernel
theorem dX5_wax_21 : decode cX5_wax 21 = .ok (.invokevirtual 48, 3) := by decide +kernel
theorem dX5_wax_24 : decode cX5_wax 24 = .ok (.ireturn, 1) := by decide +kernel
theorem dX5_pitch_0 : decode cX5_pitch 0 = .ok (.aload_n 0, 1) := by decide +kernel
theorem dX5_pitch_1 : decode cX5_pitch 1 = .ok (.getfield 19, 3) := by decide +kernel
theorem dX5_pitch_4 : decode cX5_pitch 4 = .ok (.aload_n 0, 1) := by decide +kernel
theorem dX5_pitch_5 : decode cX5_pitch 5 = .ok (.getfield 10, 3) := by decide +kernel
theorem dX5_pitch_8 : decode cX5_pitch 8 = .ok (.invokevirtual 40, 3) := by decide +kernel
theorem dX5_pitch_11 : decode cX5_pitch 11 = .ok (.aload_n 0, 1) := by decide +kernel
theorem dX5_pitch_12 : decode cX5_pitch 12 = .ok (.aload_n 0, 1) := by decide +kernel
theorem dX5_pitch_13 : decode cX5_pitch 13 = .ok (.getfield 10, 3) := by decide +kernel
theorem dX5_pitch_16 : decode cX5_pitch 16 = .ok (.iload_n 1, 1) := by decide +kernel
theorem dX5_pitch_17 : decode cX5_pitch 17 = .ok (.iload_n 2, 1) := by decide +kernel
theorem dX5_pitch_18 : decode cX5_pitch 18 = .ok (.invokevirtual 62, 3) := by decide +kernel
theorem dX5_pitch_21 : decode cX5_pitch 21 = .ok (.invokevirtual 48, 3) := by decide +kernel
theorem dX5_pitch_24 : decode cX5_pitch 24 = .ok (.ireturn, 1) := by decide +kernel
theorem dX5_trueUp_0 : decode cX5_trueUp 0 = .ok (.aload_n 0, 1) := by decide +kernel
theorem dX5_trueUp_1 : decode cX5_trueUp 1 = .ok (.getfield 19, 3) := by decide +kernel
theorem dX5_trueUp_4 : decode cX5_trueUp 4 = .ok (.aload_n 0, 1) := by decide +kernel
theorem dX5_trueUp_5 : decode cX5_trueUp 5 = .ok (.getfield 10, 3) := by decide +kernel
theorem dX5_trueUp_8 : decode cX5_trueUp 8 = .ok (.invokevirtual 40, 3) := by decide +kernel
theorem dX5_trueUp_11 : decode cX5_trueUp 11 = .ok (.aload_n 0, 1) := by decide +kernel
theorem dX5_trueUp_12 : decode cX5_trueUp 12 = .ok (.aload_n 0, 1) := by decide +kernel
theorem dX5_trueUp_13 : decode cX5_trueUp 13 = .ok (.getfield 10, 3) := by decide +kernel
theorem dX5_trueUp_16 : decode cX5_trueUp 16 = .ok (.iload_n 1, 1) := by decide +kernel
theorem dX5_trueUp_17 : decode cX5_trueUp 17 = .ok (.invokevirtual 65, 3) := by decide +kernel
theorem dX5_trueUp_20 : decode cX5_trueUp 20 = .ok (.invokevirtual 48, 3) := by decide +kernel
theorem dX5_trueUp_23 : decode cX5_trueUp 23 = .ok (.ireturn, 1) := by decide +kernel
theorem dX5_ticks_0 : decode cX5_ticks 0 = .ok (.aload_n 0, 1) := by decide +kernel
theorem dX5_ticks_1 : decode cX5_ticks 1 = .ok (.getfield 19, 3) := by decide +kernel
theorem dX5_ticks_4 : decode cX5_ticks 4 = .ok (.aload_n 0, 1) := by decide +kernel
theorem dX5_ticks_5 : decode cX5_ticks 5 = .ok (.getfield 10, 3) := by decide +kernel
theorem dX5_ticks_8 : decode cX5_ticks 8 = .ok (.invokevirtual 40, 3) := by decide +kernel
theorem dX5_ticks_11 : decode cX5_ticks 11 = .ok (.aload_n 0, 1) := by decide +kernel
theorem dX5_ticks_12 : decode cX5_ticks 12 = .ok (.aload_n 0, 1) := by decide +kernel
theorem dX5_ticks_13 : decode cX5_ticks 13 = .ok (.getfield 10, 3) := by decide +kernel
theorem dX5_ticks_16 : decode cX5_ticks 16 = .ok (.iload_n 1, 1) := by decide +kernel
theorem dX5_ticks_17 : decode cX5_ticks 17 = .ok (.invokevirtual 68, 3) := by decide +kernel
theorem dX5_ticks_20 : decode cX5_ticks 20 = .ok (.invokevirtual 48, 3) := by decide +kernel
theorem dX5_ticks_23 : decode cX5_ticks 23 = .ok (.ireturn, 1) := by decide +kernel
theorem dX5_set_0 : decode cX5_set 0 = .ok (.aload_n 0, 1) := by decide +kernel
theorem dX5_set_1 : decode cX5_set 1 = .ok (.getfield 19, 3) := by decide +kernel
theorem dX5_set_4 : decode cX5_set 4 = .ok (.aload_n 0, 1) := by decide +kernel
theorem dX5_set_5 : decode cX5_set 5 = .ok (.getfield 10, 3) := by decide +kernel
theorem dX5_set_8 : decode cX5_set 8 = .ok (.invokevirtual 40, 3) := by decide +kernel
theorem dX5_set_11 : decode cX5_set 11 = .ok (.aload_n 0, 1) := by decide +kernel
theorem dX5_set_12 : decode cX5_set 12 = .ok (.aload_n 0, 1) := by decide +kernel
theorem dX5_set_13 : decode cX5_set 13 = .ok (.getfield 10, 3) := by decide +kernel
theorem dX5_set_16 : decode cX5_set 16 = .ok (.iload_n 1, 1) := by decide +kernel
theorem dX5_set_17 : decode cX5_set 17 = .ok (.iload_n 2, 1) := by decide +kernel
theorem dX5_set_18 : decode cX5_set 18 = .ok (.invokevirtual 71, 3) := by decide +kernel
theorem dX5_set_21 : decode cX5_set 21 = .ok (.invokevirtual 48, 3) := by decide +kernel
theorem dX5_set_24 : decode cX5_set 24 = .ok (.ireturn, 1) := by decide +kernel
theorem dX5_clockOf_0 : decode cX5_clockOf 0 = .ok (.aload_n 0, 1) := by decide +kernel
theorem dX5_clockOf_1 : decode cX5_clockOf 1 = .ok (.getfield 10, 3) := by decide +kernel
theorem dX5_clockOf_4 : decode cX5_clockOf 4 = .ok (.iload_n 1, 1) := by decide +kernel
theorem dX5_clockOf_5 : decode cX5_clockOf 5 = .ok (.invokevirtual 84, 3) := by decide +kernel
theorem dX5_clockOf_8 : decode cX5_clockOf 8 = .ok (.astore_n 3, 1) := by decide +kernel
theorem dX5_clockOf_9 : decode cX5_clockOf 9 = .ok (.aload_n 3, 1) := by decide +kernel
theorem dX5_clockOf_10 : decode cX5_clockOf 10 = .ok (.ifnull 13, 3) := by decide +kernel
theorem dX5_clockOf_13 : decode cX5_clockOf 13 = .ok (.iload_n 2, 1) := by decide +kernel
theorem dX5_clockOf_14 : decode cX5_clockOf 14 = .ok (.ifCond .lt 9, 3) := by decide +kernel
theorem dX5_clockOf_17 : decode cX5_clockOf 17 = .ok (.iload_n 2, 1) := by decide +kernel
theorem dX5_clockOf_18 : decode cX5_clockOf 18 = .ok (.bipush 11, 2) := by decide +kernel
theorem dX5_clockOf_20 : decode cX5_clockOf 20 = .ok (.if_icmp .le 6, 3) := by decide +kernel
theorem dX5_clockOf_23 : decode cX5_clockOf 23 = .ok (.ldc 78, 2) := by decide +kernel
theorem dX5_clockOf_25 : decode cX5_clockOf 25 = .ok (.ireturn, 1) := by decide +kernel
theorem dX5_clockOf_26 : decode cX5_clockOf 26 = .ok (.aload_n 3, 1) := by decide +kernel
theorem dX5_clockOf_27 : decode cX5_clockOf 27 = .ok (.iload_n 2, 1) := by decide +kernel
theorem dX5_clockOf_28 : decode cX5_clockOf 28 = .ok (.invokevirtual 88, 3) := by decide +kernel
theorem dX5_clockOf_31 : decode cX5_clockOf 31 = .ok (.ifCond .eq 11, 3) := by decide +kernel
theorem dX5_clockOf_34 : decode cX5_clockOf 34 = .ok (.aload_n 3, 1) := by decide +kernel
theorem dX5_clockOf_35 : decode cX5_clockOf 35 = .ok (.iload_n 2, 1) := by decide +kernel
theorem dX5_clockOf_36 : decode cX5_clockOf 36 = .ok (.invokevirtual 93, 3) := by decide +kernel
theorem dX5_clockOf_39 : decode cX5_clockOf 39 = .ok (.goto 5, 3) := by decide +kernel
theorem dX5_clockOf_42 : decode cX5_clockOf 42 = .ok (.ldc 96, 2) := by decide +kernel
theorem dX5_clockOf_44 : decode cX5_clockOf 44 = .ok (.ireturn, 1) := by decide +kernel
theorem dX5_hour_0 : decode cX5_hour 0 = .ok (.aload_n 0, 1) := by decide +kernel
theorem dX5_hour_1 : decode cX5_hour 1 = .ok (.getfield 10, 3) := by decide +kernel
theorem dX5_hour_4 : decode cX5_hour 4 = .ok (.iload_n 1, 1) := by decide +kernel
theorem dX5_hour_5 : decode cX5_hour 5 = .ok (.invokevirtual 84, 3) := by decide +kernel
theorem dX5_hour_8 : decode cX5_hour 8 = .ok (.astore_n 3, 1) := by decide +kernel
theorem dX5_hour_9 : decode cX5_hour 9 = .ok (.aload_n 3, 1) := by decide +kernel
theorem dX5_hour_10 : decode cX5_hour 10 = .ok (.ifnull 12, 3) := by decide +kernel
theorem dX5_hour_13 : decode cX5_hour 13 = .ok (.iload_n 2, 1) := by decide +kernel
theorem dX5_hour_14 : decode cX5_hour 14 = .ok (.ifCond .lt 8, 3) := by decide +kernel
theorem dX5_hour_17 : decode cX5_hour 17 = .ok (.iload_n 2, 1) := by decide +kernel
theorem dX5_hour_18 : decode cX5_hour 18 = .ok (.iconst 2, 1) := by decide +kernel
theorem dX5_hour_19 : decode cX5_hour 19 = .ok (.if_icmp .le 6, 3) := by decide +kernel
theorem dX5_hour_22 : decode cX5_hour 22 = .ok (.ldc 78, 2) := by decide +kernel
theorem dX5_hour_24 : decode cX5_hour 24 = .ok (.ireturn, 1) := by decide +kernel
theorem dX5_hour_25 : decode cX5_hour 25 = .ok (.iload_n 2, 1) := by decide +kernel
theorem dX5_hour_26 : decode cX5_hour 26 = .ok (.ifCond .ne 12, 3) := by decide +kernel
theorem dX5_hour_29 : decode cX5_hour 29 = .ok (.aload_n 3, 1) := by decide +kernel
theorem dX5_hour_30 : decode cX5_hour 30 = .ok (.invokevirtual 97, 3) := by decide +kernel
theorem dX5_hour_33 : decode cX5_hour 33 = .ok (.sipush 10000, 3) := by decide +kernel
theorem dX5_hour_36 : decode cX5_hour 36 = .ok (.iadd, 1) := by decide +kernel
theorem dX5_hour_37 : decode cX5_hour 37 = .ok (.ireturn, 1) := by decide +kernel
theorem dX5_hour_38 : decode cX5_hour 38 = .ok (.iload_n 2, 1) := by decide +kernel
theorem dX5_hour_39 : decode cX5_hour 39 = .ok (.iconst 1, 1) := by decide +kernel
theorem dX5_hour_40 : decode cX5_hour 40 = .ok (.if_icmp .ne 18, 3) := by decide +kernel
theorem dX5_hour_43 : decode cX5_hour 43 = .ok (.aload_n 0, 1) := by decide +kernel
theorem dX5_hour_44 : decode cX5_hour 44 = .ok (.getfield 10, 3) := by decide +kernel
theorem dX5_hour_47 : decode cX5_hour 47 = .ok (.aload_n 3, 1) := by decide +kernel
theorem dX5_hour_48 : decode cX5_hour 48 = .ok (.invokevirtual 101, 3) := by decide +kernel
theorem dX5_hour_51 : decode cX5_hour 51 = .ok (.sipush 10000, 3) := by decide +kernel
theorem dX5_hour_54 : decode cX5_hour 54 = .ok (.iadd, 1) := by decide +kernel
theorem dX5_hour_55 : decode cX5_hour 55 = .ok (.goto 10, 3) := by decide +kernel
theorem dX5_hour_58 : decode cX5_hour 58 = .ok (.aload_n 0, 1) := by decide +kernel
theorem dX5_hour_59 : decode cX5_hour 59 = .ok (.getfield 10, 3) := by decide +kernel
theorem dX5_hour_62 : decode cX5_hour 62 = .ok (.invokevirtual 105, 3) := by decide +kernel
theorem dX5_hour_65 : decode cX5_hour 65 = .ok (.ireturn, 1) := by decide +kernel
theorem dX5_water_0 : decode cX5_water 0 = .ok (.iload_n 1, 1) := by decide +kernel
theorem dX5_water_1 : decode cX5_water 1 = .ok (.tableswitch 146 0 9 #[55, 63, 72, 81, 89, 97, 105, 113, 121, 138], 55) := by decide +kernel
theorem dX5_water_56 : decode cX5_water 56 = .ok (.aload_n 0, 1) := by decide +kernel
theorem dX5_water_57 : decode cX5_water 57 = .ok (.getfield 10, 3) := by decide +kernel
theorem dX5_water_60 : decode cX5_water 60 = .ok (.getfield 108, 3) := by decide +kernel
theorem dX5_water_63 : decode cX5_water 63 = .ok (.ireturn, 1) := by decide +kernel
theorem dX5_water_64 : decode cX5_water 64 = .ok (.aload_n 0, 1) := by decide +kernel
theorem dX5_water_65 : decode cX5_water 65 = .ok (.getfield 10, 3) := by decide +kernel
theorem dX5_water_68 : decode cX5_water 68 = .ok (.iconst 1, 1) := by decide +kernel
theorem dX5_water_69 : decode cX5_water 69 = .ok (.invokevirtual 111, 3) := by decide +kernel
theorem dX5_water_72 : decode cX5_water 72 = .ok (.ireturn, 1) := by decide +kernel
theorem dX5_water_73 : decode cX5_water 73 = .ok (.aload_n 0, 1) := by decide +kernel
theorem dX5_water_74 : decode cX5_water 74 = .ok (.getfield 10, 3) := by decide +kernel
theorem dX5_water_77 : decode cX5_water 77 = .ok (.iconst 2, 1) := by decide +kernel
theorem dX5_water_78 : decode cX5_water 78 = .ok (.invokevirtual 111, 3) := by decide +kernel
theorem dX5_water_81 : decode cX5_water 81 = .ok (.ireturn, 1) := by decide +kernel
theorem dX5_water_82 : decode cX5_water 82 = .ok (.aload_n 0, 1) := by decide +kernel
theorem dX5_water_83 : decode cX5_water 83 = .ok (.getfield 10, 3) := by decide +kernel
theorem dX5_water_86 : decode cX5_water 86 = .ok (.getfield 114, 3) := by decide +kernel
theorem dX5_water_89 : decode cX5_water 89 = .ok (.ireturn, 1) := by decide +kernel
theorem dX5_water_90 : decode cX5_water 90 = .ok (.aload_n 0, 1) := by decide +kernel
theorem dX5_water_91 : decode cX5_water 91 = .ok (.getfield 10, 3) := by decide +kernel
theorem dX5_water_94 : decode cX5_water 94 = .ok (.getfield 117, 3) := by decide +kernel
theorem dX5_water_97 : decode cX5_water 97 = .ok (.ireturn, 1) := by decide +kernel
theorem dX5_water_98 : decode cX5_water 98 = .ok (.aload_n 0, 1) := by decide +kernel
theorem dX5_water_99 : decode cX5_water 99 = .ok (.getfield 10, 3) := by decide +kernel
theorem dX5_water_102 : decode cX5_water 102 = .ok (.invokevirtual 120, 3) := by decide +kernel
theorem dX5_water_105 : decode cX5_water 105 = .ok (.ireturn, 1) := by decide +kernel
theorem dX5_water_106 : decode cX5_water 106 = .ok (.aload_n 0, 1) := by decide +kernel
theorem dX5_water_107 : decode cX5_water 107 = .ok (.getfield 10, 3) := by decide +kernel
theorem dX5_water_110 : decode cX5_water 110 = .ok (.getfield 123, 3) := by decide +kernel
theorem dX5_water_113 : decode cX5_water 113 = .ok (.ireturn, 1) := by decide +kernel
theorem dX5_water_114 : decode cX5_water 114 = .ok (.aload_n 0, 1) := by decide +kernel
theorem dX5_water_115 : decode cX5_water 115 = .ok (.getfield 10, 3) := by decide +kernel
theorem dX5_water_118 : decode cX5_water 118 = .ok (.getfield 126, 3) := by decide +kernel
theorem dX5_water_121 : decode cX5_water 121 = .ok (.ireturn, 1) := by decide +kernel
theorem dX5_water_122 : decode cX5_water 122 = .ok (.aload_n 0, 1) := by decide +kernel
theorem dX5_water_123 : decode cX5_water 123 = .ok (.getfield 10, 3) := by decide +kernel
theorem dX5_water_126 : decode cX5_water 126 = .ok (.getfield 129, 3) := by decide +kernel
theorem dX5_water_129 : decode cX5_water 129 = .ok (.aload_n 0, 1) := by decide +kernel
theorem dX5_water_130 : decode cX5_water 130 = .ok (.getfield 10, 3) := by decide +kernel
theorem dX5_water_133 : decode cX5_water 133 = .ok (.iconst 1, 1) := by decide +kernel
theorem dX5_water_134 : decode cX5_water 134 = .ok (.invokevirtual 111, 3) := by decide +kernel
theorem dX5_water_137 : decode cX5_water 137 = .ok (.isub, 1) := by decide +kernel
theorem dX5_water_138 : decode cX5_water 138 = .ok (.ireturn, 1) := by decide +kernel
theorem dX5_water_139 : decode cX5_water 139 = .ok (.aload_n 0, 1) := by decide +kernel
theorem dX5_water_140 : decode cX5_water 140 = .ok (.getfield 10, 3) := by decide +kernel
theorem dX5_water_143 : decode cX5_water 143 = .ok (.getfield 132, 3) := by decide +kernel
theorem dX5_water_146 : decode cX5_water 146 = .ok (.ireturn, 1) := by decide +kernel
theorem dX5_water_147 : decode cX5_water 147 = .ok (.ldc 78, 2) := by decide +kernel
theorem dX5_water_149 : decode cX5_water 149 = .ok (.ireturn, 1) := by decide +kernel
theorem dX5_noon_0 : decode cX5_noon 0 = .ok (.iload_n 1, 1) := by decide +kernel
theorem dX5_noon_1 : decode cX5_noon 1 = .ok (.ifCond .lt 7, 3) := by decide +kernel
theorem dX5_noon_4 : decode cX5_noon 4 = .ok (.iload_n 2, 1) := by decide +kernel
theorem dX5_noon_5 : decode cX5_noon 5 = .ok (.ifCond .ge 6, 3) := by decide +kernel
theorem dX5_noon_8 : decode cX5_noon 8 = .ok (.ldc 78, 2) := by decide +kernel
theorem dX5_noon_10 : decode cX5_noon 10 = .ok (.ireturn, 1) := by decide +kernel
theorem dX5_noon_11 : decode cX5_noon 11 = .ok (.aload_n 0, 1) := by decide +kernel
theorem dX5_noon_12 : decode cX5_noon 12 = .ok (.getfield 10, 3) := by decide +kernel
theorem dX5_noon_15 : decode cX5_noon 15 = .ok (.getfield 135, 3) := by decide +kernel
theorem dX5_noon_18 : decode cX5_noon 18 = .ok (.iload_n 1, 1) := by decide +kernel
theorem dX5_noon_19 : decode cX5_noon 19 = .ok (.iload_n 2, 1) := by decide +kernel
theorem dX5_noon_20 : decode cX5_noon 20 = .ok (.invokevirtual 139, 3) := by decide +kernel
theorem dX5_noon_23 : decode cX5_noon 23 = .ok (.ifCond .ne 6, 3) := by decide +kernel
theorem dX5_noon_26 : decode cX5_noon 26 = .ok (.ldc 96, 2) := by decide +kernel
theorem dX5_noon_28 : decode cX5_noon 28 = .ok (.ireturn, 1) := by decide +kernel
theorem dX5_noon_29 : decode cX5_noon 29 = .ok (.aload_n 0, 1) := by decide +kernel
theorem dX5_noon_30 : decode cX5_noon 30 = .ok (.getfield 10, 3) := by decide +kernel
theorem dX5_noon_33 : decode cX5_noon 33 = .ok (.getfield 135, 3) := by decide +kernel
theorem dX5_noon_36 : decode cX5_noon 36 = .ok (.iload_n 1, 1) := by decide +kernel
theorem dX5_noon_37 : decode cX5_noon 37 = .ok (.iload_n 2, 1) := by decide +kernel
theorem dX5_noon_38 : decode cX5_noon 38 = .ok (.invokevirtual 144, 3) := by decide +kernel
theorem dX5_noon_41 : decode cX5_noon 41 = .ok (.sipush 10000, 3) := by decide +kernel
theorem dX5_noon_44 : decode cX5_noon 44 = .ok (.iadd, 1) := by decide +kernel
theorem dX5_noon_45 : decode cX5_noon 45 = .ok (.ireturn, 1) := by decide +kernel
theorem dX5_why_0 : decode cX5_why 0 = .ok (.aload_n 0, 1) := by decide +kernel
theorem dX5_why_1 : decode cX5_why 1 = .ok (.getfield 10, 3) := by decide +kernel
theorem dX5_why_4 : decode cX5_why 4 = .ok (.iload_n 1, 1) := by decide +kernel
theorem dX5_why_5 : decode cX5_why 5 = .ok (.invokevirtual 84, 3) := by decide +kernel
theorem dX5_why_8 : decode cX5_why 8 = .ok (.astore_n 3, 1) := by decide +kernel
theorem dX5_why_9 : decode cX5_why 9 = .ok (.aload_n 3, 1) := by decide +kernel
theorem dX5_why_10 : decode cX5_why 10 = .ok (.ifnull 10, 3) := by decide +kernel
theorem dX5_why_13 : decode cX5_why 13 = .ok (.iload_n 2, 1) := by decide +kernel
theorem dX5_why_14 : decode cX5_why 14 = .ok (.invokestatic 147, 3) := by decide +kernel
theorem dX5_why_17 : decode cX5_why 17 = .ok (.ifCond .ne 6, 3) := by decide +kernel
theorem dX5_why_20 : decode cX5_why 20 = .ok (.ldc 78, 2) := by decide +kernel
theorem dX5_why_22 : decode cX5_why 22 = .ok (.ireturn, 1) := by decide +kernel
theorem dX5_why_23 : decode cX5_why 23 = .ok (.aload_n 0, 1) := by decide +kernel
theorem dX5_why_24 : decode cX5_why 24 = .ok (.getfield 10, 3) := by decide +kernel
theorem dX5_why_27 : decode cX5_why 27 = .ok (.aload_n 3, 1) := by decide +kernel
theorem dX5_why_28 : decode cX5_why 28 = .ok (.iload_n 2, 1) := by decide +kernel
theorem dX5_why_29 : decode cX5_why 29 = .ok (.invokevirtual 150, 3) := by decide +kernel
theorem dX5_why_32 : decode cX5_why 32 = .ok (.ireturn, 1) := by decide +kernel
theorem dX5_emptyIn_0 : decode cX5_emptyIn 0 = .ok (.aload_n 0, 1) := by decide +kernel
theorem dX5_emptyIn_1 : decode cX5_emptyIn 1 = .ok (.getfield 10, 3) := by decide +kernel
theorem dX5_emptyIn_4 : decode cX5_emptyIn 4 = .ok (.iload_n 1, 1) := by decide +kernel
theorem dX5_emptyIn_5 : decode cX5_emptyIn 5 = .ok (.invokevirtual 84, 3) := by decide +kernel
theorem dX5_emptyIn_8 : decode cX5_emptyIn 8 = .ok (.ifnonnull 6, 3) := by decide +kernel
theorem dX5_emptyIn_11 : decode cX5_emptyIn 11 = .ok (.ldc 78, 2) := by decide +kernel
theorem dX5_emptyIn_13 : decode cX5_emptyIn 13 = .ok (.ireturn, 1) := by decide +kernel
theorem dX5_emptyIn_14 : decode cX5_emptyIn 14 = .ok (.aload_n 0, 1) := by decide +kernel
theorem dX5_emptyIn_15 : decode cX5_emptyIn 15 = .ok (.getfield 16, 3) := by decide +kernel
theorem dX5_emptyIn_18 : decode cX5_emptyIn 18 = .ok (.aload_n 0, 1) := by decide +kernel
theorem dX5_emptyIn_19 : decode cX5_emptyIn 19 = .ok (.getfield 10, 3) := by decide +kernel
theorem dX5_emptyIn_22 : decode cX5_emptyIn 22 = .ok (.invokevirtual 40, 3) := by decide +kernel
theorem dX5_emptyIn_25 : decode cX5_emptyIn 25 = .ok (.iconst 0, 1) := by decide +kernel
theorem dX5_emptyIn_26 : decode cX5_emptyIn 26 = .ok (.istore_n 2, 1) := by decide +kernel
theorem dX5_emptyIn_27 : decode cX5_emptyIn 27 = .ok (.iload_n 2, 1) := by decide +kernel
theorem dX5_emptyIn_28 : decode cX5_emptyIn 28 = .ok (.sipush 1000, 3) := by decide +kernel
theorem dX5_emptyIn_31 : decode cX5_emptyIn 31 = .ok (.if_icmp .gt 31, 3) := by decide +kernel
theorem dX5_emptyIn_34 : decode cX5_emptyIn 34 = .ok (.aload_n 0, 1) := by decide +kernel
theorem dX5_emptyIn_35 : decode cX5_emptyIn 35 = .ok (.getfield 16, 3) := by decide +kernel
theorem dX5_emptyIn_38 : decode cX5_emptyIn 38 = .ok (.iload_n 1, 1) := by decide +kernel
theorem dX5_emptyIn_39 : decode cX5_emptyIn 39 = .ok (.invokevirtual 154, 3) := by decide +kernel
theorem dX5_emptyIn_42 : decode cX5_emptyIn 42 = .ok (.ifCond .eq 5, 3) := by decide +kernel
theorem dX5_emptyIn_45 : decode cX5_emptyIn 45 = .ok (.iload_n 2, 1) := by decide +kernel
theorem dX5_emptyIn_46 : decode cX5_emptyIn 46 = .ok (.ireturn, 1) := by decide +kernel
theorem dX5_emptyIn_47 : decode cX5_emptyIn 47 = .ok (.aload_n 0, 1) := by decide +kernel
theorem dX5_emptyIn_48 : decode cX5_emptyIn 48 = .ok (.getfield 16, 3) := by decide +kernel
theorem dX5_emptyIn_51 : decode cX5_emptyIn 51 = .ok (.iload_n 1, 1) := by decide +kernel
theorem dX5_emptyIn_52 : decode cX5_emptyIn 52 = .ok (.invokevirtual 157, 3) := by decide +kernel
theorem dX5_emptyIn_55 : decode cX5_emptyIn 55 = .ok (.pop, 1) := by decide +kernel
theorem dX5_emptyIn_56 : decode cX5_emptyIn 56 = .ok (.iinc 2 1, 3) := by decide +kernel
theorem dX5_emptyIn_59 : decode cX5_emptyIn 59 = .ok (.goto (-32), 3) := by decide +kernel
theorem dX5_emptyIn_62 : decode cX5_emptyIn 62 = .ok (.ldc 96, 2) := by decide +kernel
theorem dX5_emptyIn_64 : decode cX5_emptyIn 64 = .ok (.ireturn, 1) := by decide +kernel
theorem dX5_noonError_0 : decode cX5_noonError 0 = .ok (.aload_n 0, 1) := by decide +kernel
theorem dX5_noonError_1 : decode cX5_noonError 1 = .ok (.getfield 10, 3) := by decide +kernel
theorem dX5_noonError_4 : decode cX5_noonError 4 = .ok (.iload_n 1, 1) := by decide +kernel
theorem dX5_noonError_5 : decode cX5_noonError 5 = .ok (.invokevirtual 84, 3) := by decide +kernel
theorem dX5_noonError_8 : decode cX5_noonError 8 = .ok (.ifnonnull 6, 3) := by decide +kernel
theorem dX5_noonError_11 : decode cX5_noonError 11 = .ok (.ldc 78, 2) := by decide +kernel
theorem dX5_noonError_13 : decode cX5_noonError 13 = .ok (.ireturn, 1) := by decide +kernel
theorem dX5_noonError_14 : decode cX5_noonError 14 = .ok (.aload_n 0, 1) := by decide +kernel
theorem dX5_noonError_15 : decode cX5_noonError 15 = .ok (.iload_n 1, 1) := by decide +kernel
theorem dX5_noonError_16 : decode cX5_noonError 16 = .ok (.iconst 0, 1) := by decide +kernel
theorem dX5_noonError_17 : decode cX5_noonError 17 = .ok (.invokevirtual 160, 3) := by decide +kernel
theorem dX5_noonError_20 : decode cX5_noonError 20 = .ok (.sipush 10000, 3) := by decide +kernel
theorem dX5_noonError_23 : decode cX5_noonError 23 = .ok (.iadd, 1) := by decide +kernel
theorem dX5_noonError_24 : decode cX5_noonError 24 = .ok (.ireturn, 1) := by decide +kernel
theorem dX5_bestWax_0 : decode cX5_bestWax 0 = .ok (.aload_n 0, 1) := by decide +kernel
theorem dX5_bestWax_1 : decode cX5_bestWax 1 = .ok (.getfield 10, 3) := by decide +kernel
theorem dX5_bestWax_4 : decode cX5_bestWax 4 = .ok (.iload_n 1, 1) := by decide +kernel
theorem dX5_bestWax_5 : decode cX5_bestWax 5 = .ok (.invokevirtual 84, 3) := by decide +kernel
theorem dX5_bestWax_8 : decode cX5_bestWax 8 = .ok (.astore_n 3, 1) := by decide +kernel
theorem dX5_bestWax_9 : decode cX5_bestWax 9 = .ok (.aload_n 3, 1) := by decide +kernel
theorem dX5_bestWax_10 : decode cX5_bestWax 10 = .ok (.ifnull 12, 3) := by decide +kernel
theorem dX5_bestWax_13 : decode cX5_bestWax 13 = .ok (.iload_n 2, 1) := by decide +kernel
theorem dX5_bestWax_14 : decode cX5_bestWax 14 = .ok (.ifCond .lt 8, 3) := by decide +kernel
theorem dX5_bestWax_17 : decode cX5_bestWax 17 = .ok (.iload_n 2, 1) := by decide +kernel
theorem dX5_bestWax_18 : decode cX5_bestWax 18 = .ok (.iconst 1, 1) := by decide +kernel
theorem dX5_bestWax_19 : decode cX5_bestWax 19 = .ok (.if_icmp .le 6, 3) := by decide +kernel
theorem dX5_bestWax_22 : decode cX5_bestWax 22 = .ok (.ldc 78, 2) := by decide +kernel
theorem dX5_bestWax_24 : decode cX5_bestWax 24 = .ok (.ireturn, 1) := by decide +kernel
theorem dX5_bestWax_25 : decode cX5_bestWax 25 = .ok (.iconst 0, 1) := by decide +kernel
theorem dX5_bestWax_26 : decode cX5_bestWax 26 = .ok (.istore 4, 2) := by decide +kernel
theorem dX5_bestWax_28 : decode cX5_bestWax 28 = .ok (.aload_n 0, 1) := by decide +kernel
theorem dX5_bestWax_29 : decode cX5_bestWax 29 = .ok (.iload_n 1, 1) := by decide +kernel
theorem dX5_bestWax_30 : decode cX5_bestWax 30 = .ok (.iconst 0, 1) := by decide +kernel
theorem dX5_bestWax_31 : decode cX5_bestWax 31 = .ok (.invokevirtual 160, 3) := by decide +kernel
theorem dX5_bestWax_34 : decode cX5_bestWax 34 = .ok (.istore 5, 2) := by decide +kernel
theorem dX5_bestWax_36 : decode cX5_bestWax 36 = .ok (.iconst 1, 1) := by decide +kernel
theorem dX5_bestWax_37 : decode cX5_bestWax 37 = .ok (.istore 6, 2) := by decide +kernel
theorem dX5_bestWax_39 : decode cX5_bestWax 39 = .ok (.iload 6, 2) := by decide +kernel
theorem dX5_bestWax_41 : decode cX5_bestWax 41 = .ok (.aload_n 3, 1) := by decide +kernel
theorem dX5_bestWax_42 : decode cX5_bestWax 42 = .ok (.getfield 163, 3) := by decide +kernel
theorem dX5_bestWax_45 : decode cX5_bestWax 45 = .ok (.if_icmp .ge 46, 3) := by decide +kernel
theorem dX5_bestWax_48 : decode cX5_bestWax 48 = .ok (.iload 6, 2) := by decide +kernel
theorem dX5_bestWax_50 : decode cX5_bestWax 50 = .ok (.bipush 60, 2) := by decide +kernel
theorem dX5_bestWax_52 : decode cX5_bestWax 52 = .ok (.if_icmp .ge 39, 3) := by decide +kernel
theorem dX5_bestWax_55 : decode cX5_bestWax 55 = .ok (.aload_n 0, 1) := by decide +kernel
theorem dX5_bestWax_56 : decode cX5_bestWax 56 = .ok (.iload_n 1, 1) := by decide +kernel
theorem dX5_bestWax_57 : decode cX5_bestWax 57 = .ok (.iload 6, 2) := by decide +kernel
theorem dX5_bestWax_59 : decode cX5_bestWax 59 = .ok (.invokevirtual 160, 3) := by decide +kernel
theorem dX5_bestWax_62 : decode cX5_bestWax 62 = .ok (.istore 7, 2) := by decide +kernel
theorem dX5_bestWax_64 : decode cX5_bestWax 64 = .ok (.iload 7, 2) := by decide +kernel
theorem dX5_bestWax_66 : decode cX5_bestWax 66 = .ok (.invokestatic 166, 3) := by decide +kernel
theorem dX5_bestWax_69 : decode cX5_bestWax 69 = .ok (.iload 5, 2) := by decide +kernel
theorem dX5_bestWax_71 : decode cX5_bestWax 71 = .ok (.invokestatic 166, 3) := by decide +kernel
theorem dX5_bestWax_74 : decode cX5_bestWax 74 = .ok (.if_icmp .ge 11, 3) := by decide +kernel
theorem dX5_bestWax_77 : decode cX5_bestWax 77 = .ok (.iload 6, 2) := by decide +kernel
theorem dX5_bestWax_79 : decode cX5_bestWax 79 = .ok (.istore 4, 2) := by decide +kernel
theorem dX5_bestWax_81 : decode cX5_bestWax 81 = .ok (.iload 7, 2) := by decide +kernel
theorem dX5_bestWax_83 : decode cX5_bestWax 83 = .ok (.istore 5, 2) := by decide +kernel
theorem dX5_bestWax_85 : decode cX5_bestWax 85 = .ok (.iinc 6 1, 3) := by decide +kernel
theorem dX5_bestWax_88 : decode cX5_bestWax 88 = .ok (.goto (-49), 3) := by decide +kernel
theorem dX5_bestWax_91 : decode cX5_bestWax 91 = .ok (.iload_n 2, 1) := by decide +kernel
theorem dX5_bestWax_92 : decode cX5_bestWax 92 = .ok (.ifCond .ne 8, 3) := by decide +kernel
theorem dX5_bestWax_95 : decode cX5_bestWax 95 = .ok (.iload 4, 2) := by decide +kernel
theorem dX5_bestWax_97 : decode cX5_bestWax 97 = .ok (.goto 9, 3) := by decide +kernel
theorem dX5_bestWax_100 : decode cX5_bestWax 100 = .ok (.iload 5, 2) := by decide +kernel
theorem dX5_bestWax_102 : decode cX5_bestWax 102 = .ok (.sipush 10000, 3) := by decide +kernel
theorem dX5_bestWax_105 : decode cX5_bestWax 105 = .ok (.iadd, 1) := by decide +kernel
theorem dX5_bestWax_106 : decode cX5_bestWax 106 = .ok (.ireturn, 1) := by decide +kernel
theorem dX5_worst_0 : decode cX5_worst 0 = .ok (.iload_n 1, 1) := by decide +kernel
theorem dX5_worst_1 : decode cX5_worst 1 = .ok (.ifCond .ge 6, 3) := by decide +kernel
theorem dX5_worst_4 : decode cX5_worst 4 = .ok (.ldc 78, 2) := by decide +kernel
theorem dX5_worst_6 : decode cX5_worst 6 = .ok (.ireturn, 1) := by decide +kernel
theorem dX5_worst_7 : decode cX5_worst 7 = .ok (.iconst 0, 1) := by decide +kernel
theorem dX5_worst_8 : decode cX5_worst 8 = .ok (.istore_n 2, 1) := by decide +kernel
theorem dX5_worst_9 : decode cX5_worst 9 = .ok (.iload_n 2, 1) := by decide +kernel
theorem dX5_worst_10 : decode cX5_worst 10 = .ok (.aload_n 0, 1) := by decide +kernel
theorem dX5_worst_11 : decode cX5_worst 11 = .ok (.getfield 10, 3) := by decide +kernel
theorem dX5_worst_14 : decode cX5_worst 14 = .ok (.getfield 79, 3) := by decide +kernel
theorem dX5_worst_17 : decode cX5_worst 17 = .ok (.if_icmp .ge 23, 3) := by decide +kernel
theorem dX5_worst_20 : decode cX5_worst 20 = .ok (.aload_n 0, 1) := by decide +kernel
theorem dX5_worst_21 : decode cX5_worst 21 = .ok (.getfield 10, 3) := by decide +kernel
theorem dX5_worst_24 : decode cX5_worst 24 = .ok (.iload_n 2, 1) := by decide +kernel
theorem dX5_worst_25 : decode cX5_worst 25 = .ok (.invokevirtual 171, 3) := by decide +kernel
theorem dX5_worst_28 : decode cX5_worst 28 = .ok (.iload_n 1, 1) := by decide +kernel
theorem dX5_worst_29 : decode cX5_worst 29 = .ok (.if_icmp .ne 5, 3) := by decide +kernel
theorem dX5_worst_32 : decode cX5_worst 32 = .ok (.iload_n 2, 1) := by decide +kernel
theorem dX5_worst_33 : decode cX5_worst 33 = .ok (.ireturn, 1) := by decide +kernel
theorem dX5_worst_34 : decode cX5_worst 34 = .ok (.iinc 2 1, 3) := by decide +kernel
theorem dX5_worst_37 : decode cX5_worst 37 = .ok (.goto (-28), 3) := by decide +kernel
theorem dX5_worst_40 : decode cX5_worst 40 = .ok (.ldc 96, 2) := by decide +kernel
theorem dX5_worst_42 : decode cX5_worst 42 = .ok (.ireturn, 1) := by decide +kernel
theorem dX5_mean_0 : decode cX5_mean 0 = .ok (.aload_n 0, 1) := by decide +kernel
theorem dX5_mean_1 : decode cX5_mean 1 = .ok (.getfield 10, 3) := by decide +kernel
theorem dX5_mean_4 : decode cX5_mean 4 = .ok (.getfield 79, 3) := by decide +kernel
theorem dX5_mean_7 : decode cX5_mean 7 = .ok (.iconst 1, 1) := by decide +kernel
theorem dX5_mean_8 : decode cX5_mean 8 = .ok (.if_icmp .ge 6, 3) := by decide +kernel
theorem dX5_mean_11 : decode cX5_mean 11 = .ok (.ldc 96, 2) := by decide +kernel
theorem dX5_mean_13 : decode cX5_mean 13 = .ok (.ireturn, 1) := by decide +kernel
theorem dX5_mean_14 : decode cX5_mean 14 = .ok (.aload_n 0, 1) := by decide +kernel
theorem dX5_mean_15 : decode cX5_mean 15 = .ok (.getfield 10, 3) := by decide +kernel
theorem dX5_mean_18 : decode cX5_mean 18 = .ok (.invokevirtual 174, 3) := by decide +kernel
theorem dX5_mean_21 : decode cX5_mean 21 = .ok (.i2f, 1) := by decide +kernel
theorem dX5_mean_22 : decode cX5_mean 22 = .ok (.aload_n 0, 1) := by decide +kernel
theorem dX5_mean_23 : decode cX5_mean 23 = .ok (.getfield 10, 3) := by decide +kernel
theorem dX5_mean_26 : decode cX5_mean 26 = .ok (.getfield 79, 3) := by decide +kernel
theorem dX5_mean_29 : decode cX5_mean 29 = .ok (.i2f, 1) := by decide +kernel
theorem dX5_mean_30 : decode cX5_mean 30 = .ok (.fdiv, 1) := by decide +kernel
theorem dX5_mean_31 : decode cX5_mean 31 = .ok (.invokestatic 177, 3) := by decide +kernel
theorem dX5_mean_34 : decode cX5_mean 34 = .ok (.ireturn, 1) := by decide +kernel
theorem dX5_count_0 : decode cX5_count 0 = .ok (.iload_n 1, 1) := by decide +kernel
theorem dX5_count_1 : decode cX5_count 1 = .ok (.tableswitch 248 0 25 #[119, 127, 135, 143, 151, 162, 173, 183, 193, 201, 209, 220, 225, 248, 248, 248, 248, 248, 248, 248, 233, 233, 233, 233, 233, 233], 119) := by decide +kernel
theorem dX5_count_120 : decode cX5_count 120 = .ok (.aload_n 0, 1) := by decide +kernel
theorem dX5_count_121 : decode cX5_count 121 = .ok (.getfield 10, 3) := by decide +kernel
theorem dX5_count_124 : decode cX5_count 124 = .ok (.getfield 181, 3) := by decide +kernel
theorem dX5_count_127 : decode cX5_count 127 = .ok (.ireturn, 1) := by decide +kernel
theorem dX5_count_128 : decode cX5_count 128 = .ok (.aload_n 0, 1) := by decide +kernel
theorem dX5_count_129 : decode cX5_count 129 = .ok (.getfield 10, 3) := by decide +kernel
theorem dX5_count_132 : decode cX5_count 132 = .ok (.getfield 79, 3) := by decide +kernel
theorem dX5_count_135 : decode cX5_count 135 = .ok (.ireturn, 1) := by decide +kernel
theorem dX5_count_136 : decode cX5_count 136 = .ok (.aload_n 0, 1) := by decide +kernel
theorem dX5_count_137 : decode cX5_count 137 = .ok (.getfield 10, 3) := by decide +kernel
theorem dX5_count_140 : decode cX5_count 140 = .ok (.invokevirtual 184, 3) := by decide +kernel
theorem dX5_count_143 : decode cX5_count 143 = .ok (.ireturn, 1) := by decide +kernel
theorem dX5_count_144 : decode cX5_count 144 = .ok (.aload_n 0, 1) := by decide +kernel
theorem dX5_count_145 : decode cX5_count 145 = .ok (.getfield 10, 3) := by decide +kernel
theorem dX5_count_148 : decode cX5_count 148 = .ok (.invokevirtual 187, 3) := by decide +kernel
theorem dX5_count_151 : decode cX5_count 151 = .ok (.ireturn, 1) := by decide +kernel
theorem dX5_count_152 : decode cX5_count 152 = .ok (.aload_n 0, 1) := by decide +kernel
theorem dX5_count_153 : decode cX5_count 153 = .ok (.getfield 10, 3) := by decide +kernel
theorem dX5_count_156 : decode cX5_count 156 = .ok (.getfield 135, 3) := by decide +kernel
theorem dX5_count_159 : decode cX5_count 159 = .ok (.getfield 190, 3) := by decide +kernel
theorem dX5_count_162 : decode cX5_count 162 = .ok (.ireturn, 1) := by decide +kernel
theorem dX5_count_163 : decode cX5_count 163 = .ok (.aload_n 0, 1) := by decide +kernel
theorem dX5_count_164 : decode cX5_count 164 = .ok (.getfield 10, 3) := by decide +kernel
theorem dX5_count_167 : decode cX5_count 167 = .ok (.getfield 135, 3) := by decide +kernel
theorem dX5_count_170 : decode cX5_count 170 = .ok (.getfield 193, 3) := by decide +kernel
theorem dX5_count_173 : decode cX5_count 173 = .ok (.ireturn, 1) := by decide +kernel
theorem dX5_count_174 : decode cX5_count 174 = .ok (.aload_n 0, 1) := by decide +kernel
theorem dX5_count_175 : decode cX5_count 175 = .ok (.getfield 10, 3) := by decide +kernel
theorem dX5_count_178 : decode cX5_count 178 = .ok (.bipush 10, 2) := by decide +kernel
theorem dX5_count_180 : decode cX5_count 180 = .ok (.invokevirtual 111, 3) := by decide +kernel
theorem dX5_count_183 : decode cX5_count 183 = .ok (.ireturn, 1) := by decide +kernel
theorem dX5_count_184 : decode cX5_count 184 = .ok (.aload_n 0, 1) := by decide +kernel
theorem dX5_count_185 : decode cX5_count 185 = .ok (.getfield 10, 3) := by decide +kernel
theorem dX5_count_188 : decode cX5_count 188 = .ok (.bipush 7, 2) := by decide +kernel
theorem dX5_count_190 : decode cX5_count 190 = .ok (.invokevirtual 111, 3) := by decide +kernel
theorem dX5_count_193 : decode cX5_count 193 = .ok (.ireturn, 1) := by decide +kernel
theorem dX5_count_194 : decode cX5_count 194 = .ok (.aload_n 0, 1) := by decide +kernel
theorem dX5_count_195 : decode cX5_count 195 = .ok (.getfield 10, 3) := by decide +kernel
theorem dX5_count_198 : decode cX5_count 198 = .ok (.invokevirtual 196, 3) := by decide +kernel
theorem dX5_count_201 : decode cX5_count 201 = .ok (.ireturn, 1) := by decide +kernel
theorem dX5_count_202 : decode cX5_count 202 = .ok (.aload_n 0, 1) := by decide +kernel
theorem dX5_count_203 : decode cX5_count 203 = .ok (.getfield 10, 3) := by decide +kernel
theorem dX5_count_206 : decode cX5_count 206 = .ok (.getfield 199, 3) := by decide +kernel
theorem dX5_count_209 : decode cX5_count 209 = .ok (.ireturn, 1) := by decide +kernel
theorem dX5_count_210 : decode cX5_count 210 = .ok (.aload_n 0, 1) := by decide +kernel
theorem dX5_count_211 : decode cX5_count 211 = .ok (.getfield 10, 3) := by decide +kernel
theorem dX5_count_214 : decode cX5_count 214 = .ok (.getfield 135, 3) := by decide +kernel
theorem dX5_count_217 : decode cX5_count 217 = .ok (.invokevirtual 202, 3) := by decide +kernel
theorem dX5_count_220 : decode cX5_count 220 = .ok (.ireturn, 1) := by decide +kernel
theorem dX5_count_221 : decode cX5_count 221 = .ok (.aload_n 0, 1) := by decide +kernel
theorem dX5_count_222 : decode cX5_count 222 = .ok (.getfield 205, 3) := by decide +kernel
theorem dX5_count_225 : decode cX5_count 225 = .ok (.ireturn, 1) := by decide +kernel
theorem dX5_count_226 : decode cX5_count 226 = .ok (.aload_n 0, 1) := by decide +kernel
theorem dX5_count_227 : decode cX5_count 227 = .ok (.getfield 36, 3) := by decide +kernel
theorem dX5_count_230 : decode cX5_count 230 = .ok (.getfield 208, 3) := by decide +kernel
theorem dX5_count_233 : decode cX5_count 233 = .ok (.ireturn, 1) := by decide +kernel
theorem dX5_count_234 : decode cX5_count 234 = .ok (.aload_n 0, 1) := by decide +kernel
theorem dX5_count_235 : decode cX5_count 235 = .ok (.getfield 10, 3) := by decide +kernel
theorem dX5_count_238 : decode cX5_count 238 = .ok (.getfield 211, 3) := by decide +kernel
theorem dX5_count_241 : decode cX5_count 241 = .ok (.iload_n 1, 1) := by decide +kernel
theorem dX5_count_242 : decode cX5_count 242 = .ok (.bipush 20, 2) := by decide +kernel
theorem dX5_count_244 : decode cX5_count 244 = .ok (.isub, 1) := by decide +kernel
theorem dX5_count_245 : decode cX5_count 245 = .ok (.invokevirtual 215, 3) := by decide +kernel
theorem dX5_count_248 : decode cX5_count 248 = .ok (.ireturn, 1) := by decide +kernel
theorem dX5_count_249 : decode cX5_count 249 = .ok (.ldc 78, 2) := by decide +kernel
theorem dX5_count_251 : decode cX5_count 251 = .ok (.ireturn, 1) := by decide +kernel
theorem dX5_changed_0 : decode cX5_changed 0 = .ok (.iload_n 1, 1) := by decide +kernel
theorem dX5_changed_1 : decode cX5_changed 1 = .ok (.invokestatic 236, 3) := by decide +kernel
theorem dX5_changed_4 : decode cX5_changed 4 = .ok (.ifCond .eq 5, 3) := by decide +kernel
theorem dX5_changed_7 : decode cX5_changed 7 = .ok (.iload_n 1, 1) := by decide +kernel
theorem dX5_changed_8 : decode cX5_changed 8 = .ok (.ireturn, 1) := by decide +kernel
theorem dX5_changed_9 : decode cX5_changed 9 = .ok (.aload_n 0, 1) := by decide +kernel
theorem dX5_changed_10 : decode cX5_changed 10 = .ok (.getfield 205, 3) := by decide +kernel
theorem dX5_changed_13 : decode cX5_changed 13 = .ok (.aload_n 0, 1) := by decide +kernel
theorem dX5_changed_14 : decode cX5_changed 14 = .ok (.getfield 22, 3) := by decide +kernel
theorem dX5_changed_17 : decode cX5_changed 17 = .ok (.arraylength, 1) := by decide +kernel
theorem dX5_changed_18 : decode cX5_changed 18 = .ok (.if_icmp .lt 7, 3) := by decide +kernel
theorem dX5_changed_21 : decode cX5_changed 21 = .ok (.aload_n 0, 1) := by decide +kernel
theorem dX5_changed_22 : decode cX5_changed 22 = .ok (.invokevirtual 239, 3) := by decide +kernel
theorem dX5_changed_25 : decode cX5_changed 25 = .ok (.aload_n 0, 1) := by decide +kernel
theorem dX5_changed_26 : decode cX5_changed 26 = .ok (.getfield 205, 3) := by decide +kernel
theorem dX5_changed_29 : decode cX5_changed 29 = .ok (.ifCond .lt 53, 3) := by decide +kernel
theorem dX5_changed_32 : decode cX5_changed 32 = .ok (.aload_n 0, 1) := by decide +kernel
theorem dX5_changed_33 : decode cX5_changed 33 = .ok (.getfield 205, 3) := by decide +kernel
theorem dX5_changed_36 : decode cX5_changed 36 = .ok (.aload_n 0, 1) := by decide +kernel
theorem dX5_changed_37 : decode cX5_changed 37 = .ok (.getfield 22, 3) := by decide +kernel
theorem dX5_changed_40 : decode cX5_changed 40 = .ok (.arraylength, 1) := by decide +kernel
theorem dX5_changed_41 : decode cX5_changed 41 = .ok (.if_icmp .ge 41, 3) := by decide +kernel
theorem dX5_changed_44 : decode cX5_changed 44 = .ok (.aload_n 0, 1) := by decide +kernel
theorem dX5_changed_45 : decode cX5_changed 45 = .ok (.getfield 22, 3) := by decide +kernel
theorem dX5_changed_48 : decode cX5_changed 48 = .ok (.aload_n 0, 1) := by decide +kernel
theorem dX5_changed_49 : decode cX5_changed 49 = .ok (.getfield 205, 3) := by decide +kernel
theorem dX5_changed_52 : decode cX5_changed 52 = .ok (.aaload, 1) := by decide +kernel
theorem dX5_changed_53 : decode cX5_changed 53 = .ok (.astore_n 2, 1) := by decide +kernel
theorem dX5_changed_54 : decode cX5_changed 54 = .ok (.aload_n 0, 1) := by decide +kernel
theorem dX5_changed_55 : decode cX5_changed 55 = .ok (.getfield 22, 3) := by decide +kernel
theorem dX5_changed_58 : decode cX5_changed 58 = .ok (.aload_n 0, 1) := by decide +kernel
theorem dX5_changed_59 : decode cX5_changed 59 = .ok (.getfield 205, 3) := by decide +kernel
theorem dX5_changed_62 : decode cX5_changed 62 = .ok (.aload_n 0, 1) := by decide +kernel
theorem dX5_changed_63 : decode cX5_changed 63 = .ok (.getfield 19, 3) := by decide +kernel
theorem dX5_changed_66 : decode cX5_changed 66 = .ok (.aastore, 1) := by decide +kernel
theorem dX5_changed_67 : decode cX5_changed 67 = .ok (.aload_n 0, 1) := by decide +kernel
theorem dX5_changed_68 : decode cX5_changed 68 = .ok (.aload_n 2, 1) := by decide +kernel
theorem dX5_changed_69 : decode cX5_changed 69 = .ok (.putfield 19, 3) := by decide +kernel
theorem dX5_changed_72 : decode cX5_changed 72 = .ok (.aload_n 0, 1) := by decide +kernel
theorem dX5_changed_73 : decode cX5_changed 73 = .ok (.dup, 1) := by decide +kernel
theorem dX5_changed_74 : decode cX5_changed 74 = .ok (.getfield 205, 3) := by decide +kernel
theorem dX5_changed_77 : decode cX5_changed 77 = .ok (.iconst 1, 1) := by decide +kernel
theorem dX5_changed_78 : decode cX5_changed 78 = .ok (.iadd, 1) := by decide +kernel
theorem dX5_changed_79 : decode cX5_changed 79 = .ok (.putfield 205, 3) := by decide +kernel
theorem dX5_changed_82 : decode cX5_changed 82 = .ok (.iload_n 1, 1) := by decide +kernel
theorem dX5_changed_83 : decode cX5_changed 83 = .ok (.ireturn, 1) := by decide +kernel
theorem dX5_dropOldestState_0 : decode cX5_dropOldestState 0 = .ok (.iconst 1, 1) := by decide +kernel
theorem dX5_dropOldestState_1 : decode cX5_dropOldestState 1 = .ok (.istore_n 1, 1) := by decide +kernel
theorem dX5_dropOldestState_2 : decode cX5_dropOldestState 2 = .ok (.iload_n 1, 1) := by decide +kernel
theorem dX5_dropOldestState_3 : decode cX5_dropOldestState 3 = .ok (.aload_n 0, 1) := by decide +kernel
theorem dX5_dropOldestState_4 : decode cX5_dropOldestState 4 = .ok (.getfield 22, 3) := by decide +kernel
theorem dX5_dropOldestState_7 : decode cX5_dropOldestState 7 = .ok (.arraylength, 1) := by decide +kernel
theorem dX5_dropOldestState_8 : decode cX5_dropOldestState 8 = .ok (.if_icmp .ge 39, 3) := by decide +kernel
theorem dX5_dropOldestState_11 : decode cX5_dropOldestState 11 = .ok (.aload_n 0, 1) := by decide +kernel
theorem dX5_dropOldestState_12 : decode cX5_dropOldestState 12 = .ok (.getfield 22, 3) := by decide +kernel
theorem dX5_dropOldestState_15 : decode cX5_dropOldestState 15 = .ok (.iload_n 1, 1) := by decide +kernel
theorem dX5_dropOldestState_16 : decode cX5_dropOldestState 16 = .ok (.iconst 1, 1) := by decide +kernel
theorem dX5_dropOldestState_17 : decode cX5_dropOldestState 17 = .ok (.isub, 1) := by decide +kernel
theorem dX5_dropOldestState_18 : decode cX5_dropOldestState 18 = .ok (.aaload, 1) := by decide +kernel
theorem dX5_dropOldestState_19 : decode cX5_dropOldestState 19 = .ok (.astore_n 2, 1) := by decide +kernel
theorem dX5_dropOldestState_20 : decode cX5_dropOldestState 20 = .ok (.aload_n 0, 1) := by decide +kernel
theorem dX5_dropOldestState_21 : decode cX5_dropOldestState 21 = .ok (.getfield 22, 3) := by decide +kernel
theorem dX5_dropOldestState_24 : decode cX5_dropOldestState 24 = .ok (.iload_n 1, 1) := by decide +kernel
theorem dX5_dropOldestState_25 : decode cX5_dropOldestState 25 = .ok (.iconst 1, 1) := by decide +kernel
theorem dX5_dropOldestState_26 : decode cX5_dropOldestState 26 = .ok (.isub, 1) := by decide +kernel
theorem dX5_dropOldestState_27 : decode cX5_dropOldestState 27 = .ok (.aload_n 0, 1) := by decide +kernel
theorem dX5_dropOldestState_28 : decode cX5_dropOldestState 28 = .ok (.getfield 22, 3) := by decide +kernel
theorem dX5_dropOldestState_31 : decode cX5_dropOldestState 31 = .ok (.iload_n 1, 1) := by decide +kernel
theorem dX5_dropOldestState_32 : decode cX5_dropOldestState 32 = .ok (.aaload, 1) := by decide +kernel
theorem dX5_dropOldestState_33 : decode cX5_dropOldestState 33 = .ok (.aastore, 1) := by decide +kernel
theorem dX5_dropOldestState_34 : decode cX5_dropOldestState 34 = .ok (.aload_n 0, 1) := by decide +kernel
theorem dX5_dropOldestState_35 : decode cX5_dropOldestState 35 = .ok (.getfield 22, 3) := by decide +kernel
theorem dX5_dropOldestState_38 : decode cX5_dropOldestState 38 = .ok (.iload_n 1, 1) := by decide +kernel
theorem dX5_dropOldestState_39 : decode cX5_dropOldestState 39 = .ok (.aload_n 2, 1) := by decide +kernel
theorem dX5_dropOldestState_40 : decode cX5_dropOldestState 40 = .ok (.aastore, 1) := by decide +kernel
theorem dX5_dropOldestState_41 : decode cX5_dropOldestState 41 = .ok (.iinc 1 1, 3) := by decide +kernel
theorem dX5_dropOldestState_44 : decode cX5_dropOldestState 44 = .ok (.goto (-42), 3) := by decide +kernel
theorem dX5_dropOldestState_47 : decode cX5_dropOldestState 47 = .ok (.aload_n 0, 1) := by decide +kernel
theorem dX5_dropOldestState_48 : decode cX5_dropOldestState 48 = .ok (.aload_n 0, 1) := by decide +kernel
theorem dX5_dropOldestState_49 : decode cX5_dropOldestState 49 = .ok (.getfield 22, 3) := by decide +kernel
theorem dX5_dropOldestState_52 : decode cX5_dropOldestState 52 = .ok (.arraylength, 1) := by decide +kernel
theorem dX5_dropOldestState_53 : decode cX5_dropOldestState 53 = .ok (.iconst 1, 1) := by decide +kernel
theorem dX5_dropOldestState_54 : decode cX5_dropOldestState 54 = .ok (.isub, 1) := by decide +kernel
theorem dX5_dropOldestState_55 : decode cX5_dropOldestState 55 = .ok (.putfield 205, 3) := by decide +kernel
theorem dX5_dropOldestState_58 : decode cX5_dropOldestState 58 = .ok (.return_, 1) := by decide +kernel
theorem dX5_noonErrorWith_0 : decode cX5_noonErrorWith 0 = .ok (.aload_n 0, 1) := by decide +kernel
theorem dX5_noonErrorWith_1 : decode cX5_noonErrorWith 1 = .ok (.getfield 16, 3) := by decide +kernel
theorem dX5_noonErrorWith_4 : decode cX5_noonErrorWith 4 = .ok (.aload_n 0, 1) := by decide +kernel
theorem dX5_noonErrorWith_5 : decode cX5_noonErrorWith 5 = .ok (.getfield 10, 3) := by decide +kernel
theorem dX5_noonErrorWith_8 : decode cX5_noonErrorWith 8 = .ok (.invokevirtual 40, 3) := by decide +kernel
theorem dX5_noonErrorWith_11 : decode cX5_noonErrorWith 11 = .ok (.aload_n 0, 1) := by decide +kernel
theorem dX5_noonErrorWith_12 : decode cX5_noonErrorWith 12 = .ok (.getfield 16, 3) := by decide +kernel
theorem dX5_noonErrorWith_15 : decode cX5_noonErrorWith 15 = .ok (.iload_n 1, 1) := by decide +kernel
theorem dX5_noonErrorWith_16 : decode cX5_noonErrorWith 16 = .ok (.invokevirtual 84, 3) := by decide +kernel
theorem dX5_noonErrorWith_19 : decode cX5_noonErrorWith 19 = .ok (.astore_n 3, 1) := by decide +kernel
theorem dX5_noonErrorWith_20 : decode cX5_noonErrorWith 20 = .ok (.aload_n 3, 1) := by decide +kernel
theorem dX5_noonErrorWith_21 : decode cX5_noonErrorWith 21 = .ok (.ifnonnull 5, 3) := by decide +kernel
theorem dX5_noonErrorWith_24 : decode cX5_noonErrorWith 24 = .ok (.iconst 0, 1) := by decide +kernel
theorem dX5_noonErrorWith_25 : decode cX5_noonErrorWith 25 = .ok (.ireturn, 1) := by decide +kernel
theorem dX5_noonErrorWith_26 : decode cX5_noonErrorWith 26 = .ok (.aload_n 3, 1) := by decide +kernel
theorem dX5_noonErrorWith_27 : decode cX5_noonErrorWith 27 = .ok (.dup, 1) := by decide +kernel
theorem dX5_noonErrorWith_28 : decode cX5_noonErrorWith 28 = .ok (.getfield 163, 3) := by decide +kernel
theorem dX5_noonErrorWith_31 : decode cX5_noonErrorWith 31 = .ok (.iload_n 2, 1) := by decide +kernel
theorem dX5_noonErrorWith_32 : decode cX5_noonErrorWith 32 = .ok (.isub, 1) := by decide +kernel
theorem dX5_noonErrorWith_33 : decode cX5_noonErrorWith 33 = .ok (.putfield 163, 3) := by decide +kernel
theorem dX5_noonErrorWith_36 : decode cX5_noonErrorWith 36 = .ok (.aload_n 0, 1) := by decide +kernel
theorem dX5_noonErrorWith_37 : decode cX5_noonErrorWith 37 = .ok (.getfield 16, 3) := by decide +kernel
theorem dX5_noonErrorWith_40 : decode cX5_noonErrorWith 40 = .ok (.invokevirtual 196, 3) := by decide +kernel
theorem dX5_noonErrorWith_43 : decode cX5_noonErrorWith 43 = .ok (.istore 4, 2) := by decide +kernel
theorem dX5_noonErrorWith_45 : decode cX5_noonErrorWith 45 = .ok (.iconst 0, 1) := by decide +kernel
theorem dX5_noonErrorWith_46 : decode cX5_noonErrorWith 46 = .ok (.istore 5, 2) := by decide +kernel
theorem dX5_noonErrorWith_48 : decode cX5_noonErrorWith 48 = .ok (.iload 5, 2) := by decide +kernel
theorem dX5_noonErrorWith_50 : decode cX5_noonErrorWith 50 = .ok (.iload 4, 2) := by decide +kernel
theorem dX5_noonErrorWith_52 : decode cX5_noonErrorWith 52 = .ok (.if_icmp .ge 23, 3) := by decide +kernel
theorem dX5_noonErrorWith_55 : decode cX5_noonErrorWith 55 = .ok (.aload_n 0, 1) := by decide +kernel
theorem dX5_noonErrorWith_56 : decode cX5_noonErrorWith 56 = .ok (.getfield 16, 3) := by decide +kernel
theorem dX5_noonErrorWith_59 : decode cX5_noonErrorWith 59 = .ok (.iload_n 1, 1) := by decide +kernel
theorem dX5_noonErrorWith_60 : decode cX5_noonErrorWith 60 = .ok (.invokevirtual 157, 3) := by decide +kernel
theorem dX5_noonErrorWith_63 : decode cX5_noonErrorWith 63 = .ok (.ifCond .ne 6, 3) := by decide +kernel
theorem dX5_noonErrorWith_66 : decode cX5_noonErrorWith 66 = .ok (.goto 9, 3) := by decide +kernel
theorem dX5_noonErrorWith_69 : decode cX5_noonErrorWith 69 = .ok (.iinc 5 1, 3) := by decide +kernel
theorem dX5_noonErrorWith_72 : decode cX5_noonErrorWith 72 = .ok (.goto (-24), 3) := by decide +kernel
theorem dX5_noonErrorWith_75 : decode cX5_noonErrorWith 75 = .ok (.aload_n 0, 1) := by decide +kernel
theorem dX5_noonErrorWith_76 : decode cX5_noonErrorWith 76 = .ok (.getfield 16, 3) := by decide +kernel
theorem dX5_noonErrorWith_79 : decode cX5_noonErrorWith 79 = .ok (.dup, 1) := by decide +kernel
theorem dX5_noonErrorWith_80 : decode cX5_noonErrorWith 80 = .ok (.getfield 181, 3) := by decide +kernel
theorem dX5_noonErrorWith_83 : decode cX5_noonErrorWith 83 = .ok (.iload 4, 2) := by decide +kernel
theorem dX5_noonErrorWith_85 : decode cX5_noonErrorWith 85 = .ok (.iadd, 1) := by decide +kernel
theorem dX5_noonErrorWith_86 : decode cX5_noonErrorWith 86 = .ok (.putfield 181, 3) := by decide +kernel
theorem dX5_noonErrorWith_89 : decode cX5_noonErrorWith 89 = .ok (.aload_n 0, 1) := by decide +kernel
theorem dX5_noonErrorWith_90 : decode cX5_noonErrorWith 90 = .ok (.getfield 16, 3) := by decide +kernel
theorem dX5_noonErrorWith_93 : decode cX5_noonErrorWith 93 = .ok (.aload_n 3, 1) := by decide +kernel
theorem dX5_noonErrorWith_94 : decode cX5_noonErrorWith 94 = .ok (.invokevirtual 101, 3) := by decide +kernel
theorem dX5_noonErrorWith_97 : decode cX5_noonErrorWith 97 = .ok (.ireturn, 1) := by decide +kernel
theorem dX5_isErrorCode_0 : decode cX5_isErrorCode 0 = .ok (.iload_n 0, 1) := by decide +kernel
theorem dX5_isErrorCode_1 : decode cX5_isErrorCode 1 = .ok (.ldc 78, 2) := by decide +kernel
theorem dX5_isErrorCode_3 : decode cX5_isErrorCode 3 = .ok (.if_icmp .gt 13, 3) := by decide +kernel
theorem dX5_isErrorCode_6 : decode cX5_isErrorCode 6 = .ok (.iload_n 0, 1) := by decide +kernel
theorem dX5_isErrorCode_7 : decode cX5_isErrorCode 7 = .ok (.ldc 96, 2) := by decide +kernel
theorem dX5_isErrorCode_9 : decode cX5_isErrorCode 9 = .ok (.if_icmp .lt 7, 3) := by decide +kernel
theorem dX5_isErrorCode_12 : decode cX5_isErrorCode 12 = .ok (.iconst 1, 1) := by decide +kernel
theorem dX5_isErrorCode_13 : decode cX5_isErrorCode 13 = .ok (.goto 4, 3) := by decide +kernel
theorem dX5_isErrorCode_16 : decode cX5_isErrorCode 16 = .ok (.iconst 0, 1) := by decide +kernel
theorem dX5_isErrorCode_17 : decode cX5_isErrorCode 17 = .ok (.ireturn, 1) := by decide +kernel
theorem dX5_isJug_0 : decode cX5_isJug 0 = .ok (.iload_n 0, 1) := by decide +kernel
theorem dX5_isJug_1 : decode cX5_isJug 1 = .ok (.ifCond .lt 15, 3) := by decide +kernel
theorem dX5_isJug_4 : decode cX5_isJug 4 = .ok (.iload_n 0, 1) := by decide +kernel
theorem dX5_isJug_5 : decode cX5_isJug 5 = .ok (.getstatic 260, 3) := by decide +kernel
theorem dX5_isJug_8 : decode cX5_isJug 8 = .ok (.arraylength, 1) := by decide +kernel
theorem dX5_isJug_9 : decode cX5_isJug 9 = .ok (.if_icmp .ge 7, 3) := by decide +kernel
theorem dX5_isJug_12 : decode cX5_isJug 12 = .ok (.iconst 1, 1) := by decide +kernel
theorem dX5_isJug_13 : decode cX5_isJug 13 = .ok (.goto 4, 3) := by decide +kernel
theorem dX5_isJug_16 : decode cX5_isJug 16 = .ok (.iconst 0, 1) := by decide +kernel
theorem dX5_isJug_17 : decode cX5_isJug 17 = .ok (.ireturn, 1) := by decide +kernel
theorem dX5_element_0 : decode cX5_element 0 = .ok (.iload_n 1, 1) := by decide +kernel
theorem dX5_element_1 : decode cX5_element 1 = .ok (.ifCond .lt 15, 3) := by decide +kernel
theorem dX5_element_4 : decode cX5_element 4 = .ok (.iload_n 1, 1) := by decide +kernel
theorem dX5_element_5 : decode cX5_element 5 = .ok (.aload_n 0, 1) := by decide +kernel
theorem dX5_element_6 : decode cX5_element 6 = .ok (.arraylength, 1) := by decide +kernel
theorem dX5_element_7 : decode cX5_element 7 = .ok (.if_icmp .ge 9, 3) := by decide +kernel
theorem dX5_element_10 : decode cX5_element 10 = .ok (.aload_n 0, 1) := by decide +kernel
theorem dX5_element_11 : decode cX5_element 11 = .ok (.iload_n 1, 1) := by decide +kernel
theorem dX5_element_12 : decode cX5_element 12 = .ok (.iaload, 1) := by decide +kernel
theorem dX5_element_13 : decode cX5_element 13 = .ok (.goto 4, 3) := by decide +kernel
theorem dX5_element_16 : decode cX5_element 16 = .ok (.iconst 0, 1) := by decide +kernel
theorem dX5_element_17 : decode cX5_element 17 = .ok (.ireturn, 1) := by decide +kernel
theorem dX5_put_0 : decode cX5_put 0 = .ok (.iload_n 1, 1) := by decide +kernel
theorem dX5_put_1 : decode cX5_put 1 = .ok (.ifCond .lt 13, 3) := by decide +kernel
theorem dX5_put_4 : decode cX5_put 4 = .ok (.iload_n 1, 1) := by decide +kernel
theorem dX5_put_5 : decode cX5_put 5 = .ok (.aload_n 0, 1) := by decide +kernel
theorem dX5_put_6 : decode cX5_put 6 = .ok (.arraylength, 1) := by decide +kernel
theorem dX5_put_7 : decode cX5_put 7 = .ok (.if_icmp .ge 7, 3) := by decide +kernel
theorem dX5_put_10 : decode cX5_put 10 = .ok (.aload_n 0, 1) := by decide +kernel
theorem dX5_put_11 : decode cX5_put 11 = .ok (.iload_n 1, 1) := by decide +kernel
theorem dX5_put_12 : decode cX5_put 12 = .ok (.iload_n 2, 1) := by decide +kernel
theorem dX5_put_13 : decode cX5_put 13 = .ok (.iastore, 1) := by decide +kernel
theorem dX5_put_14 : decode cX5_put 14 = .ok (.return_, 1) := by decide +kernel
theorem dX5_copy_0 : decode cX5_copy 0 = .ok (.iconst 0, 1) := by decide +kernel
theorem dX5_copy_1 : decode cX5_copy 1 = .ok (.istore_n 2, 1) := by decide +kernel
theorem dX5_copy_2 : decode cX5_copy 2 = .ok (.iload_n 2, 1) := by decide +kernel
theorem dX5_copy_3 : decode cX5_copy 3 = .ok (.aload_n 0, 1) := by decide +kernel
theorem dX5_copy_4 : decode cX5_copy 4 = .ok (.arraylength, 1) := by decide +kernel
theorem dX5_copy_5 : decode cX5_copy 5 = .ok (.if_icmp .ge 21, 3) := by decide +kernel
theorem dX5_copy_8 : decode cX5_copy 8 = .ok (.iload_n 2, 1) := by decide +kernel
theorem dX5_copy_9 : decode cX5_copy 9 = .ok (.aload_n 1, 1) := by decide +kernel
theorem dX5_copy_10 : decode cX5_copy 10 = .ok (.arraylength, 1) := by decide +kernel
theorem dX5_copy_11 : decode cX5_copy 11 = .ok (.if_icmp .ge 15, 3) := by decide +kernel
theorem dX5_copy_14 : decode cX5_copy 14 = .ok (.aload_n 1, 1) := by decide +kernel
theorem dX5_copy_15 : decode cX5_copy 15 = .ok (.iload_n 2, 1) := by decide +kernel
theorem dX5_copy_16 : decode cX5_copy 16 = .ok (.aload_n 0, 1) := by decide +kernel
theorem dX5_copy_17 : decode cX5_copy 17 = .ok (.iload_n 2, 1) := by decide +kernel
theorem dX5_copy_18 : decode cX5_copy 18 = .ok (.iaload, 1) := by decide +kernel
theorem dX5_copy_19 : decode cX5_copy 19 = .ok (.iastore, 1) := by decide +kernel
theorem dX5_copy_20 : decode cX5_copy 20 = .ok (.iinc 2 1, 3) := by decide +kernel
theorem dX5_copy_23 : decode cX5_copy 23 = .ok (.goto (-21), 3) := by decide +kernel
theorem dX5_copy_26 : decode cX5_copy 26 = .ok (.return_, 1) := by decide +kernel
theorem dX5_quotient_0 : decode cX5_quotient 0 = .ok (.iload_n 1, 1) := by decide +kernel
theorem dX5_quotient_1 : decode cX5_quotient 1 = .ok (.iconst 1, 1) := by decide +kernel
theorem dX5_quotient_2 : decode cX5_quotient 2 = .ok (.if_icmp .ge 7, 3) := by decide +kernel
theorem dX5_quotient_5 : decode cX5_quotient 5 = .ok (.iconst 0, 1) := by decide +kernel
theorem dX5_quotient_6 : decode cX5_quotient 6 = .ok (.goto 8, 3) := by decide +kernel
theorem dX5_quotient_9 : decode cX5_quotient 9 = .ok (.iload_n 0, 1) := by decide +kernel
theorem dX5_quotient_10 : decode cX5_quotient 10 = .ok (.iload_n 1, 1) := by decide +kernel
theorem dX5_quotient_11 : decode cX5_quotient 11 = .ok (.invokestatic 264, 3) := by decide +kernel
theorem dX5_quotient_14 : decode cX5_quotient 14 = .ok (.ireturn, 1) := by decide +kernel
theorem dX5_bitsOf_0 : decode cX5_bitsOf 0 = .ok (.fload_n 0, 1) := by decide +kernel
theorem dX5_bitsOf_1 : decode cX5_bitsOf 1 = .ok (.fconst 0, 1) := by decide +kernel
theorem dX5_bitsOf_2 : decode cX5_bitsOf 2 = .ok (.fcmp .g, 1) := by decide +kernel
theorem dX5_bitsOf_3 : decode cX5_bitsOf 3 = .ok (.ifCond .gt 5, 3) := by decide +kernel
theorem dX5_bitsOf_6 : decode cX5_bitsOf 6 = .ok (.iconst 0, 1) := by decide +kernel
theorem dX5_bitsOf_7 : decode cX5_bitsOf 7 = .ok (.ireturn, 1) := by decide +kernel
theorem dX5_bitsOf_8 : decode cX5_bitsOf 8 = .ok (.fload_n 0, 1) := by decide +kernel
theorem dX5_bitsOf_9 : decode cX5_bitsOf 9 = .ok (.fstore_n 1, 1) := by decide +kernel
theorem dX5_bitsOf_10 : decode cX5_bitsOf 10 = .ok (.iconst 0, 1) := by decide +kernel
theorem dX5_bitsOf_11 : decode cX5_bitsOf 11 = .ok (.istore_n 2, 1) := by decide +kernel
theorem dX5_bitsOf_12 : decode cX5_bitsOf 12 = .ok (.fload_n 1, 1) := by decide +kernel
theorem dX5_bitsOf_13 : decode cX5_bitsOf 13 = .ok (.fconst 2, 1) := by decide +kernel
theorem dX5_bitsOf_14 : decode cX5_bitsOf 14 = .ok (.fcmp .l, 1) := by decide +kernel
theorem dX5_bitsOf_15 : decode cX5_bitsOf 15 = .ok (.ifCond .lt 19, 3) := by decide +kernel
theorem dX5_bitsOf_18 : decode cX5_bitsOf 18 = .ok (.iload_n 2, 1) := by decide +kernel
theorem dX5_bitsOf_19 : decode cX5_bitsOf 19 = .ok (.bipush 127, 2) := by decide +kernel
theorem dX5_bitsOf_21 : decode cX5_bitsOf 21 = .ok (.if_icmp .ge 13, 3) := by decide +kernel
theorem dX5_bitsOf_24 : decode cX5_bitsOf 24 = .ok (.fload_n 1, 1) := by decide +kernel
theorem dX5_bitsOf_25 : decode cX5_bitsOf 25 = .ok (.fconst 2, 1) := by decide +kernel
theorem dX5_bitsOf_26 : decode cX5_bitsOf 26 = .ok (.fdiv, 1) := by decide +kernel
theorem dX5_bitsOf_27 : decode cX5_bitsOf 27 = .ok (.fstore_n 1, 1) := by decide +kernel
theorem dX5_bitsOf_28 : decode cX5_bitsOf 28 = .ok (.iinc 2 1, 3) := by decide +kernel
theorem dX5_bitsOf_31 : decode cX5_bitsOf 31 = .ok (.goto (-19), 3) := by decide +kernel
theorem dX5_bitsOf_34 : decode cX5_bitsOf 34 = .ok (.fload_n 1, 1) := by decide +kernel
theorem dX5_bitsOf_35 : decode cX5_bitsOf 35 = .ok (.fconst 1, 1) := by decide +kernel
theorem dX5_bitsOf_36 : decode cX5_bitsOf 36 = .ok (.fcmp .g, 1) := by decide +kernel
theorem dX5_bitsOf_37 : decode cX5_bitsOf 37 = .ok (.ifCond .ge 19, 3) := by decide +kernel
theorem dX5_bitsOf_40 : decode cX5_bitsOf 40 = .ok (.iload_n 2, 1) := by decide +kernel
theorem dX5_bitsOf_41 : decode cX5_bitsOf 41 = .ok (.bipush (-126), 2) := by decide +kernel
theorem dX5_bitsOf_43 : decode cX5_bitsOf 43 = .ok (.if_icmp .le 13, 3) := by decide +kernel
theorem dX5_bitsOf_46 : decode cX5_bitsOf 46 = .ok (.fload_n 1, 1) := by decide +kernel
theorem dX5_bitsOf_47 : decode cX5_bitsOf 47 = .ok (.fconst 2, 1) := by decide +kernel
theorem dX5_bitsOf_48 : decode cX5_bitsOf 48 = .ok (.fmul, 1) := by decide +kernel
theorem dX5_bitsOf_49 : decode cX5_bitsOf 49 = .ok (.fstore_n 1, 1) := by decide +kernel
theorem dX5_bitsOf_50 : decode cX5_bitsOf 50 = .ok (.iinc 2 (-1), 3) := by decide +kernel
theorem dX5_bitsOf_53 : decode cX5_bitsOf 53 = .ok (.goto (-19), 3) := by decide +kernel
theorem dX5_bitsOf_56 : decode cX5_bitsOf 56 = .ok (.iload_n 2, 1) := by decide +kernel
theorem dX5_bitsOf_57 : decode cX5_bitsOf 57 = .ok (.bipush 127, 2) := by decide +kernel
theorem dX5_bitsOf_59 : decode cX5_bitsOf 59 = .ok (.iadd, 1) := by decide +kernel
theorem dX5_bitsOf_60 : decode cX5_bitsOf 60 = .ok (.bipush 23, 2) := by decide +kernel
theorem dX5_bitsOf_62 : decode cX5_bitsOf 62 = .ok (.ishl, 1) := by decide +kernel
theorem dX5_bitsOf_63 : decode cX5_bitsOf 63 = .ok (.fload_n 1, 1) := by decide +kernel
theorem dX5_bitsOf_64 : decode cX5_bitsOf 64 = .ok (.fconst 1, 1) := by decide +kernel
theorem dX5_bitsOf_65 : decode cX5_bitsOf 65 = .ok (.fsub, 1) := by decide +kernel
theorem dX5_bitsOf_66 : decode cX5_bitsOf 66 = .ok (.ldc_w 267, 3) := by decide +kernel
theorem dX5_bitsOf_69 : decode cX5_bitsOf 69 = .ok (.fmul, 1) := by decide +kernel
theorem dX5_bitsOf_70 : decode cX5_bitsOf 70 = .ok (.f2i, 1) := by decide +kernel
theorem dX5_bitsOf_71 : decode cX5_bitsOf 71 = .ok (.iadd, 1) := by decide +kernel
theorem dX5_bitsOf_72 : decode cX5_bitsOf 72 = .ok (.ireturn, 1) := by decide +kernel
theorem dJ9_floorDiv_7cf53_0 : decode cJ9_floorDiv_7cf53 0 = .ok (.iload_n 0, 1) := by decide +kernel
theorem dJ9_floorDiv_7cf53_1 : decode cJ9_floorDiv_7cf53 1 = .ok (.iload_n 1, 1) := by decide +kernel
theorem dJ9_floorDiv_7cf53_2 : decode cJ9_floorDiv_7cf53 2 = .ok (.idiv, 1) := by decide +kernel
theorem dJ9_floorDiv_7cf53_3 : decode cJ9_floorDiv_7cf53 3 = .ok (.istore_n 2, 1) := by decide +kernel
theorem dJ9_floorDiv_7cf53_4 : decode cJ9_floorDiv_7cf53 4 = .ok (.iload_n 0, 1) := by decide +kernel
theorem dJ9_floorDiv_7cf53_5 : decode cJ9_floorDiv_7cf53 5 = .ok (.iload_n 1, 1) := by decide +kernel
theorem dJ9_floorDiv_7cf53_6 : decode cJ9_floorDiv_7cf53 6 = .ok (.ixor, 1) := by decide +kernel
theorem dJ9_floorDiv_7cf53_7 : decode cJ9_floorDiv_7cf53 7 = .ok (.ifCond .ge 14, 3) := by decide +kernel
theorem dJ9_floorDiv_7cf53_10 : decode cJ9_floorDiv_7cf53 10 = .ok (.iload_n 2, 1) := by decide +kernel
theorem dJ9_floorDiv_7cf53_11 : decode cJ9_floorDiv_7cf53 11 = .ok (.iload_n 1, 1) := by decide +kernel
theorem dJ9_floorDiv_7cf53_12 : decode cJ9_floorDiv_7cf53 12 = .ok (.imul, 1) := by decide +kernel
theorem dJ9_floorDiv_7cf53_13 : decode cJ9_floorDiv_7cf53 13 = .ok (.iload_n 0, 1) := by decide +kernel
theorem dJ9_floorDiv_7cf53_14 : decode cJ9_floorDiv_7cf53 14 = .ok (.if_icmp .eq 7, 3) := by decide +kernel
theorem dJ9_floorDiv_7cf53_17 : decode cJ9_floorDiv_7cf53 17 = .ok (.iload_n 2, 1) := by decide +kernel
theorem dJ9_floorDiv_7cf53_18 : decode cJ9_floorDiv_7cf53 18 = .ok (.iconst 1, 1) := by decide +kernel
theorem dJ9_floorDiv_7cf53_19 : decode cJ9_floorDiv_7cf53 19 = .ok (.isub, 1) := by decide +kernel
theorem dJ9_floorDiv_7cf53_20 : decode cJ9_floorDiv_7cf53 20 = .ok (.ireturn, 1) := by decide +kernel
theorem dJ9_floorDiv_7cf53_21 : decode cJ9_floorDiv_7cf53 21 = .ok (.iload_n 2, 1) := by decide +kernel
theorem dJ9_floorDiv_7cf53_22 : decode cJ9_floorDiv_7cf53 22 = .ok (.ireturn, 1) := by decide +kernel
theorem dJ9_floorMod_7cf53_0 : decode cJ9_floorMod_7cf53 0 = .ok (.iload_n 0, 1) := by decide +kernel
theorem dJ9_floorMod_7cf53_1 : decode cJ9_floorMod_7cf53 1 = .ok (.iload_n 1, 1) := by decide +kernel
theorem dJ9_floorMod_7cf53_2 : decode cJ9_floorMod_7cf53 2 = .ok (.irem, 1) := by decide +kernel
theorem dJ9_floorMod_7cf53_3 : decode cJ9_floorMod_7cf53 3 = .ok (.istore_n 2, 1) := by decide +kernel
theorem dJ9_floorMod_7cf53_4 : decode cJ9_floorMod_7cf53 4 = .ok (.iload_n 0, 1) := by decide +kernel
theorem dJ9_floorMod_7cf53_5 : decode cJ9_floorMod_7cf53 5 = .ok (.iload_n 1, 1) := by decide +kernel
theorem dJ9_floorMod_7cf53_6 : decode cJ9_floorMod_7cf53 6 = .ok (.ixor, 1) := by decide +kernel
theorem dJ9_floorMod_7cf53_7 : decode cJ9_floorMod_7cf53 7 = .ok (.ifCond .ge 11, 3) := by decide +kernel
theorem dJ9_floorMod_7cf53_10 : decode cJ9_floorMod_7cf53 10 = .ok (.iload_n 2, 1) := by decide +kernel
theorem dJ9_floorMod_7cf53_11 : decode cJ9_floorMod_7cf53 11 = .ok (.ifCond .eq 7, 3) := by decide +kernel
theorem dJ9_floorMod_7cf53_14 : decode cJ9_floorMod_7cf53 14 = .ok (.iload_n 2, 1) := by decide +kernel
theorem dJ9_floorMod_7cf53_15 : decode cJ9_floorMod_7cf53 15 = .ok (.iload_n 1, 1) := by decide +kernel
theorem dJ9_floorMod_7cf53_16 : decode cJ9_floorMod_7cf53 16 = .ok (.iadd, 1) := by decide +kernel
theorem dJ9_floorMod_7cf53_17 : decode cJ9_floorMod_7cf53 17 = .ok (.ireturn, 1) := by decide +kernel
theorem dJ9_floorMod_7cf53_18 : decode cJ9_floorMod_7cf53 18 = .ok (.iload_n 2, 1) := by decide +kernel
theorem dJ9_floorMod_7cf53_19 : decode cJ9_floorMod_7cf53 19 = .ok (.ireturn, 1) := by decide +kernel
theorem dJ9_abs_0f7a4_0 : decode cJ9_abs_0f7a4 0 = .ok (.iload_n 0, 1) := by decide +kernel
theorem dJ9_abs_0f7a4_1 : decode cJ9_abs_0f7a4 1 = .ok (.ifCond .ge 8, 3) := by decide +kernel
theorem dJ9_abs_0f7a4_4 : decode cJ9_abs_0f7a4 4 = .ok (.iload_n 0, 1) := by decide +kernel
theorem dJ9_abs_0f7a4_5 : decode cJ9_abs_0f7a4 5 = .ok (.ineg, 1) := by decide +kernel
theorem dJ9_abs_0f7a4_6 : decode cJ9_abs_0f7a4 6 = .ok (.goto 4, 3) := by decide +kernel
theorem dJ9_abs_0f7a4_9 : decode cJ9_abs_0f7a4 9 = .ok (.iload_n 0, 1) := by decide +kernel
theorem dJ9_abs_0f7a4_10 : decode cJ9_abs_0f7a4 10 = .ok (.ireturn, 1) := by decide +kernel
theorem dJ9_min_7cf53_0 : decode cJ9_min_7cf53 0 = .ok (.iload_n 0, 1) := by decide +kernel
theorem dJ9_min_7cf53_1 : decode cJ9_min_7cf53 1 = .ok (.iload_n 1, 1) := by decide +kernel
theorem dJ9_min_7cf53_2 : decode cJ9_min_7cf53 2 = .ok (.if_icmp .gt 7, 3) := by decide +kernel
theorem dJ9_min_7cf53_5 : decode cJ9_min_7cf53 5 = .ok (.iload_n 0, 1) := by decide +kernel
theorem dJ9_min_7cf53_6 : decode cJ9_min_7cf53 6 = .ok (.goto 4, 3) := by decide +kernel
theorem dJ9_min_7cf53_9 : decode cJ9_min_7cf53 9 = .ok (.iload_n 1, 1) := by decide +kernel
theorem dJ9_min_7cf53_10 : decode cJ9_min_7cf53 10 = .ok (.ireturn, 1) := by decide +kernel
theorem dL_cell_0 : decode cL_cell 0 = .ok (.iload_n 1, 1) := by decide +kernel
theorem dL_cell_1 : decode cL_cell 1 = .ok (.aload_n 0, 1) := by decide +kernel
theorem dL_cell_2 : decode cL_cell 2 = .ok (.arraylength, 1) := by decide +kernel
theorem dL_cell_3 : decode cL_cell 3 = .ok (.if_icmp .ge 9, 3) := by decide +kernel
theorem dL_cell_6 : decode cL_cell 6 = .ok (.aload_n 0, 1) := by decide +kernel
theorem dL_cell_7 : decode cL_cell 7 = .ok (.iload_n 1, 1) := by decide +kernel
theorem dL_cell_8 : decode cL_cell 8 = .ok (.iaload, 1) := by decide +kernel
theorem dL_cell_9 : decode cL_cell 9 = .ok (.goto 9, 3) := by decide +kernel
theorem dL_cell_12 : decode cL_cell 12 = .ok (.ldc 7, 2) := by decide +kernel
theorem dL_cell_14 : decode cL_cell 14 = .ok (.iload_n 1, 1) := by decide +kernel
theorem dL_cell_15 : decode cL_cell 15 = .ok (.iconst 1, 1) := by decide +kernel
theorem dL_cell_16 : decode cL_cell 16 = .ok (.iadd, 1) := by decide +kernel
theorem dL_cell_17 : decode cL_cell 17 = .ok (.imul, 1) := by decide +kernel
theorem dL_cell_18 : decode cL_cell 18 = .ok (.ireturn, 1) := by decide +kernel
theorem dL_low_0 : decode cL_low 0 = .ok (.iload_n 0, 1) := by decide +kernel
theorem dL_low_1 : decode cL_low 1 = .ok (.ldc 8, 2) := by decide +kernel
theorem dL_low_3 : decode cL_low 3 = .ok (.iand, 1) := by decide +kernel
theorem dL_low_4 : decode cL_low 4 = .ok (.iload_n 1, 1) := by decide +kernel
theorem dL_low_5 : decode cL_low 5 = .ok (.irem, 1) := by decide +kernel
theorem dL_low_6 : decode cL_low 6 = .ok (.ireturn, 1) := by decide +kernel
theorem dL_counted_0 : decode cL_counted 0 = .ok (.aload_n 0, 1) := by decide +kernel
theorem dL_counted_1 : decode cL_counted 1 = .ok (.bipush 20, 2) := by decide +kernel
theorem dL_counted_3 : decode cL_counted 3 = .ok (.iload_n 2, 1) := by decide +kernel
theorem dL_counted_4 : decode cL_counted 4 = .ok (.iadd, 1) := by decide +kernel
theorem dL_counted_5 : decode cL_counted 5 = .ok (.iaload, 1) := by decide +kernel
theorem dL_counted_6 : decode cL_counted 6 = .ok (.ifCond .ne 10, 3) := by decide +kernel
theorem dL_counted_9 : decode cL_counted 9 = .ok (.aload_n 0, 1) := by decide +kernel
theorem dL_counted_10 : decode cL_counted 10 = .ok (.iload_n 2, 1) := by decide +kernel
theorem dL_counted_11 : decode cL_counted 11 = .ok (.iaload, 1) := by decide +kernel
theorem dL_counted_12 : decode cL_counted 12 = .ok (.ineg, 1) := by decide +kernel
theorem dL_counted_13 : decode cL_counted 13 = .ok (.goto 15, 3) := by decide +kernel
theorem dL_counted_16 : decode cL_counted 16 = .ok (.aload_n 0, 1) := by decide +kernel
theorem dL_counted_17 : decode cL_counted 17 = .ok (.iconst 5, 1) := by decide +kernel
theorem dL_counted_18 : decode cL_counted 18 = .ok (.iload_n 2, 1) := by decide +kernel
theorem dL_counted_19 : decode cL_counted 19 = .ok (.iadd, 1) := by decide +kernel
theorem dL_counted_20 : decode cL_counted 20 = .ok (.iaload, 1) := by decide +kernel
theorem dL_counted_21 : decode cL_counted 21 = .ok (.aload_n 1, 1) := by decide +kernel
theorem dL_counted_22 : decode cL_counted 22 = .ok (.bipush 10, 2) := by decide +kernel
theorem dL_counted_24 : decode cL_counted 24 = .ok (.iload_n 2, 1) := by decide +kernel
theorem dL_counted_25 : decode cL_counted 25 = .ok (.iadd, 1) := by decide +kernel
theorem dL_counted_26 : decode cL_counted 26 = .ok (.iaload, 1) := by decide +kernel
theorem dL_counted_27 : decode cL_counted 27 = .ok (.iadd, 1) := by decide +kernel
theorem dL_counted_28 : decode cL_counted 28 = .ok (.ireturn, 1) := by decide +kernel
theorem dL_error_0 : decode cL_error 0 = .ok (.aload_n 1, 1) := by decide +kernel
theorem dL_error_1 : decode cL_error 1 = .ok (.aload_n 2, 1) := by decide +kernel
theorem dL_error_2 : decode cL_error 2 = .ok (.iload_n 3, 1) := by decide +kernel
theorem dL_error_3 : decode cL_error 3 = .ok (.invokestatic 9, 3) := by decide +kernel
theorem dL_error_6 : decode cL_error 6 = .ok (.aload_n 2, 1) := by decide +kernel
theorem dL_error_7 : decode cL_error 7 = .ok (.bipush 35, 2) := by decide +kernel
theorem dL_error_9 : decode cL_error 9 = .ok (.iload_n 3, 1) := by decide +kernel
theorem dL_error_10 : decode cL_error 10 = .ok (.iadd, 1) := by decide +kernel
theorem dL_error_11 : decode cL_error 11 = .ok (.iaload, 1) := by decide +kernel
theorem dL_error_12 : decode cL_error 12 = .ok (.isub, 1) := by decide +kernel
theorem dL_error_13 : decode cL_error 13 = .ok (.istore 4, 2) := by decide +kernel
theorem dL_error_15 : decode cL_error 15 = .ok (.aload_n 1, 1) := by decide +kernel
theorem dL_error_16 : decode cL_error 16 = .ok (.bipush 15, 2) := by decide +kernel
theorem dL_error_18 : decode cL_error 18 = .ok (.iload_n 3, 1) := by decide +kernel
theorem dL_error_19 : decode cL_error 19 = .ok (.iadd, 1) := by decide +kernel
theorem dL_error_20 : decode cL_error 20 = .ok (.iaload, 1) := by decide +kernel
theorem dL_error_21 : decode cL_error 21 = .ok (.istore 5, 2) := by decide +kernel
theorem dL_error_23 : decode cL_error 23 = .ok (.iload 4, 2) := by decide +kernel
theorem dL_error_25 : decode cL_error 25 = .ok (.ifCond .lt 11, 3) := by decide +kernel
theorem dL_error_28 : decode cL_error 28 = .ok (.iload 4, 2) := by decide +kernel
theorem dL_error_30 : decode cL_error 30 = .ok (.iload 5, 2) := by decide +kernel
theorem dL_error_32 : decode cL_error 32 = .ok (.idiv, 1) := by decide +kernel
theorem dL_error_33 : decode cL_error 33 = .ok (.goto 14, 3) := by decide +kernel
theorem dL_error_36 : decode cL_error 36 = .ok (.iload 5, 2) := by decide +kernel
theorem dL_error_38 : decode cL_error 38 = .ok (.iconst 1, 1) := by decide +kernel
theorem dL_error_39 : decode cL_error 39 = .ok (.isub, 1) := by decide +kernel
theorem dL_error_40 : decode cL_error 40 = .ok (.iload 4, 2) := by decide +kernel
theorem dL_error_42 : decode cL_error 42 = .ok (.isub, 1) := by decide +kernel
theorem dL_error_43 : decode cL_error 43 = .ok (.iload 5, 2) := by decide +kernel
theorem dL_error_45 : decode cL_error 45 = .ok (.idiv, 1) := by decide +kernel
theorem dL_error_46 : decode cL_error 46 = .ok (.ineg, 1) := by decide +kernel
theorem dL_error_47 : decode cL_error 47 = .ok (.istore 6, 2) := by decide +kernel
theorem dL_error_49 : decode cL_error 49 = .ok (.aload_n 2, 1) := by decide +kernel
theorem dL_error_50 : decode cL_error 50 = .ok (.bipush 30, 2) := by decide +kernel
theorem dL_error_52 : decode cL_error 52 = .ok (.iload_n 3, 1) := by decide +kernel
theorem dL_error_53 : decode cL_error 53 = .ok (.iadd, 1) := by decide +kernel
theorem dL_error_54 : decode cL_error 54 = .ok (.iaload, 1) := by decide +kernel
theorem dL_error_55 : decode cL_error 55 = .ok (.iload 6, 2) := by decide +kernel
theorem dL_error_57 : decode cL_error 57 = .ok (.iadd, 1) := by decide +kernel
theorem dL_error_58 : decode cL_error 58 = .ok (.aload_n 0, 1) := by decide +kernel
theorem dL_error_59 : decode cL_error 59 = .ok (.bipush 6, 2) := by decide +kernel
theorem dL_error_61 : decode cL_error 61 = .ok (.iaload, 1) := by decide +kernel
theorem dL_error_62 : decode cL_error 62 = .ok (.aload_n 0, 1) := by decide +kernel
theorem dL_error_63 : decode cL_error 63 = .ok (.iconst 3, 1) := by decide +kernel
theorem dL_error_64 : decode cL_error 64 = .ok (.iaload, 1) := by decide +kernel
theorem dL_error_65 : decode cL_error 65 = .ok (.idiv, 1) := by decide +kernel
theorem dL_error_66 : decode cL_error 66 = .ok (.isub, 1) := by decide +kernel
theorem dL_error_67 : decode cL_error 67 = .ok (.ireturn, 1) := by decide +kernel
theorem dL_off_0 : decode cL_off 0 = .ok (.aload_n 0, 1) := by decide +kernel
theorem dL_off_1 : decode cL_off 1 = .ok (.aload_n 1, 1) := by decide +kernel
theorem dL_off_2 : decode cL_off 2 = .ok (.aload_n 2, 1) := by decide +kernel
theorem dL_off_3 : decode cL_off 3 = .ok (.iload_n 3, 1) := by decide +kernel
theorem dL_off_4 : decode cL_off 4 = .ok (.invokestatic 15, 3) := by decide +kernel
theorem dL_off_7 : decode cL_off 7 = .ok (.istore 4, 2) := by decide +kernel
theorem dL_off_9 : decode cL_off 9 = .ok (.iload 4, 2) := by decide +kernel
theorem dL_off_11 : decode cL_off 11 = .ok (.ifCond .ge 9, 3) := by decide +kernel
theorem dL_off_14 : decode cL_off 14 = .ok (.iload 4, 2) := by decide +kernel
theorem dL_off_16 : decode cL_off 16 = .ok (.ineg, 1) := by decide +kernel
theorem dL_off_17 : decode cL_off 17 = .ok (.goto 5, 3) := by decide +kernel
theorem dL_off_20 : decode cL_off 20 = .ok (.iload 4, 2) := by decide +kernel
theorem dL_off_22 : decode cL_off 22 = .ok (.ireturn, 1) := by decide +kernel
theorem dL_trues_0 : decode cL_trues 0 = .ok (.aload_n 2, 1) := by decide +kernel
theorem dL_trues_1 : decode cL_trues 1 = .ok (.bipush 30, 2) := by decide +kernel
theorem dL_trues_3 : decode cL_trues 3 = .ok (.iload_n 3, 1) := by decide +kernel
theorem dL_trues_4 : decode cL_trues 4 = .ok (.iadd, 1) := by decide +kernel
theorem dL_trues_5 : decode cL_trues 5 = .ok (.aload_n 0, 1) := by decide +kernel
theorem dL_trues_6 : decode cL_trues 6 = .ok (.bipush 6, 2) := by decide +kernel
theorem dL_trues_8 : decode cL_trues 8 = .ok (.iaload, 1) := by decide +kernel
theorem dL_trues_9 : decode cL_trues 9 = .ok (.aload_n 0, 1) := by decide +kernel
theorem dL_trues_10 : decode cL_trues 10 = .ok (.iconst 3, 1) := by decide +kernel
theorem dL_trues_11 : decode cL_trues 11 = .ok (.iaload, 1) := by decide +kernel
theorem dL_trues_12 : decode cL_trues 12 = .ok (.idiv, 1) := by decide +kernel
theorem dL_trues_13 : decode cL_trues 13 = .ok (.iastore, 1) := by decide +kernel
theorem dL_trues_14 : decode cL_trues 14 = .ok (.aload_n 2, 1) := by decide +kernel
theorem dL_trues_15 : decode cL_trues 15 = .ok (.bipush 35, 2) := by decide +kernel
theorem dL_trues_17 : decode cL_trues 17 = .ok (.iload_n 3, 1) := by decide +kernel
theorem dL_trues_18 : decode cL_trues 18 = .ok (.iadd, 1) := by decide +kernel
theorem dL_trues_19 : decode cL_trues 19 = .ok (.aload_n 1, 1) := by decide +kernel
theorem dL_trues_20 : decode cL_trues 20 = .ok (.aload_n 2, 1) := by decide +kernel
theorem dL_trues_21 : decode cL_trues 21 = .ok (.iload_n 3, 1) := by decide +kernel
theorem dL_trues_22 : decode cL_trues 22 = .ok (.invokestatic 9, 3) := by decide +kernel
theorem dL_trues_25 : decode cL_trues 25 = .ok (.iastore, 1) := by decide +kernel
theorem dL_trues_26 : decode cL_trues 26 = .ok (.return_, 1) := by decide +kernel
theorem dL_comes_0 : decode cL_comes 0 = .ok (.aload_n 0, 1) := by decide +kernel
theorem dL_comes_1 : decode cL_comes 1 = .ok (.iconst 0, 1) := by decide +kernel
theorem dL_comes_2 : decode cL_comes 2 = .ok (.iaload, 1) := by decide +kernel
theorem dL_comes_3 : decode cL_comes 3 = .ok (.aload_n 1, 1) := by decide +kernel
theorem dL_comes_4 : decode cL_comes 4 = .ok (.iload_n 2, 1) := by decide +kernel
theorem dL_comes_5 : decode cL_comes 5 = .ok (.iaload, 1) := by decide +kernel
theorem dL_comes_6 : decode cL_comes 6 = .ok (.isub, 1) := by decide +kernel
theorem dL_comes_7 : decode cL_comes 7 = .ok (.istore 4, 2) := by decide +kernel
theorem dL_comes_9 : decode cL_comes 9 = .ok (.iload 4, 2) := by decide +kernel
theorem dL_comes_11 : decode cL_comes 11 = .ok (.ifCond .ge 7, 3) := by decide +kernel
theorem dL_comes_14 : decode cL_comes 14 = .ok (.iload_n 3, 1) := by decide +kernel
theorem dL_comes_15 : decode cL_comes 15 = .ok (.goto 17, 3) := by decide +kernel
theorem dL_comes_18 : decode cL_comes 18 = .ok (.iload_n 3, 1) := by decide +kernel
theorem dL_comes_19 : decode cL_comes 19 = .ok (.iload 4, 2) := by decide +kernel
theorem dL_comes_21 : decode cL_comes 21 = .ok (.if_icmp .le 10, 3) := by decide +kernel
theorem dL_comes_24 : decode cL_comes 24 = .ok (.iload_n 3, 1) := by decide +kernel
theorem dL_comes_25 : decode cL_comes 25 = .ok (.iload 4, 2) := by decide +kernel
theorem dL_comes_27 : decode cL_comes 27 = .ok (.isub, 1) := by decide +kernel
theorem dL_comes_28 : decode cL_comes 28 = .ok (.goto 4, 3) := by decide +kernel
theorem dL_comes_31 : decode cL_comes 31 = .ok (.iconst 0, 1) := by decide +kernel
theorem dL_comes_32 : decode cL_comes 32 = .ok (.istore 5, 2) := by decide +kernel
theorem dL_comes_34 : decode cL_comes 34 = .ok (.aload_n 1, 1) := by decide +kernel
theorem dL_comes_35 : decode cL_comes 35 = .ok (.iload_n 2, 1) := by decide +kernel
theorem dL_comes_36 : decode cL_comes 36 = .ok (.dup2, 1) := by decide +kernel
theorem dL_comes_37 : decode cL_comes 37 = .ok (.iaload, 1) := by decide +kernel
theorem dL_comes_38 : decode cL_comes 38 = .ok (.iload_n 3, 1) := by decide +kernel
theorem dL_comes_39 : decode cL_comes 39 = .ok (.iload 5, 2) := by decide +kernel
theorem dL_comes_41 : decode cL_comes 41 = .ok (.isub, 1) := by decide +kernel
theorem dL_comes_42 : decode cL_comes 42 = .ok (.iadd, 1) := by decide +kernel
theorem dL_comes_43 : decode cL_comes 43 = .ok (.iastore, 1) := by decide +kernel
theorem dL_comes_44 : decode cL_comes 44 = .ok (.aload_n 0, 1) := by decide +kernel
theorem dL_comes_45 : decode cL_comes 45 = .ok (.bipush 9, 2) := by decide +kernel
theorem dL_comes_47 : decode cL_comes 47 = .ok (.dup2, 1) := by decide +kernel
theorem dL_comes_48 : decode cL_comes 48 = .ok (.iaload, 1) := by decide +kernel
theorem dL_comes_49 : decode cL_comes 49 = .ok (.iload 5, 2) := by decide +kernel
theorem dL_comes_51 : decode cL_comes 51 = .ok (.iadd, 1) := by decide +kernel
theorem dL_comes_52 : decode cL_comes 52 = .ok (.iastore, 1) := by decide +kernel
theorem dL_comes_53 : decode cL_comes 53 = .ok (.iload 5, 2) := by decide +kernel
theorem dL_comes_55 : decode cL_comes 55 = .ok (.ireturn, 1) := by decide +kernel
theorem dL_on_0 : decode cL_on 0 = .ok (.aload_n 1, 1) := by decide +kernel
theorem dL_on_1 : decode cL_on 1 = .ok (.bipush 25, 2) := by decide +kernel
theorem dL_on_3 : decode cL_on 3 = .ok (.iload_n 2, 1) := by decide +kernel
theorem dL_on_4 : decode cL_on 4 = .ok (.iadd, 1) := by decide +kernel
theorem dL_on_5 : decode cL_on 5 = .ok (.iaload, 1) := by decide +kernel
theorem dL_on_6 : decode cL_on 6 = .ok (.iload_n 2, 1) := by decide +kernel
theorem dL_on_7 : decode cL_on 7 = .ok (.if_icmp .le 20, 3) := by decide +kernel
theorem dL_on_10 : decode cL_on 10 = .ok (.aload_n 0, 1) := by decide +kernel
theorem dL_on_11 : decode cL_on 11 = .ok (.aload_n 1, 1) := by decide +kernel
theorem dL_on_12 : decode cL_on 12 = .ok (.aload_n 1, 1) := by decide +kernel
theorem dL_on_13 : decode cL_on 13 = .ok (.bipush 25, 2) := by decide +kernel
theorem dL_on_15 : decode cL_on 15 = .ok (.iload_n 2, 1) := by decide +kernel
theorem dL_on_16 : decode cL_on 16 = .ok (.iadd, 1) := by decide +kernel
theorem dL_on_17 : decode cL_on 17 = .ok (.iaload, 1) := by decide +kernel
theorem dL_on_18 : decode cL_on 18 = .ok (.iload_n 3, 1) := by decide +kernel
theorem dL_on_19 : decode cL_on 19 = .ok (.invokestatic 19, 3) := by decide +kernel
theorem dL_on_22 : decode cL_on 22 = .ok (.istore 4, 2) := by decide +kernel
theorem dL_on_24 : decode cL_on 24 = .ok (.goto 11, 3) := by decide +kernel
theorem dL_on_27 : decode cL_on 27 = .ok (.aload_n 0, 1) := by decide +kernel
theorem dL_on_28 : decode cL_on 28 = .ok (.bipush 8, 2) := by decide +kernel
theorem dL_on_30 : decode cL_on 30 = .ok (.dup2, 1) := by decide +kernel
theorem dL_on_31 : decode cL_on 31 = .ok (.iaload, 1) := by decide +kernel
theorem dL_on_32 : decode cL_on 32 = .ok (.iload_n 3, 1) := by decide +kernel
theorem dL_on_33 : decode cL_on 33 = .ok (.iadd, 1) := by decide +kernel
theorem dL_on_34 : decode cL_on 34 = .ok (.iastore, 1) := by decide +kernel
theorem dL_on_35 : decode cL_on 35 = .ok (.return_, 1) := by decide +kernel
theorem dL_drip_0 : decode cL_drip 0 = .ok (.aload_n 0, 1) := by decide +kernel
theorem dL_drip_1 : decode cL_drip 1 = .ok (.bipush 10, 2) := by decide +kernel
theorem dL_drip_3 : decode cL_drip 3 = .ok (.iload_n 1, 1) := by decide +kernel
theorem dL_drip_4 : decode cL_drip 4 = .ok (.iadd, 1) := by decide +kernel
theorem dL_drip_5 : decode cL_drip 5 = .ok (.iaload, 1) := by decide +kernel
theorem dL_drip_6 : decode cL_drip 6 = .ok (.sipush 1000, 3) := by decide +kernel
theorem dL_drip_9 : decode cL_drip 9 = .ok (.aload_n 0, 1) := by decide +kernel
theorem dL_drip_10 : decode cL_drip 10 = .ok (.iload_n 1, 1) := by decide +kernel
theorem dL_drip_11 : decode cL_drip 11 = .ok (.iaload, 1) := by decide +kernel
theorem dL_drip_12 : decode cL_drip 12 = .ok (.iadd, 1) := by decide +kernel
theorem dL_drip_13 : decode cL_drip 13 = .ok (.imul, 1) := by decide +kernel
theorem dL_drip_14 : decode cL_drip 14 = .ok (.sipush 1000, 3) := by decide +kernel
theorem dL_drip_17 : decode cL_drip 17 = .ok (.idiv, 1) := by decide +kernel
theorem dL_drip_18 : decode cL_drip 18 = .ok (.istore_n 2, 1) := by decide +kernel
theorem dL_drip_19 : decode cL_drip 19 = .ok (.iload_n 2, 1) := by decide +kernel
theorem dL_drip_20 : decode cL_drip 20 = .ok (.aload_n 0, 1) := by decide +kernel
theorem dL_drip_21 : decode cL_drip 21 = .ok (.iload_n 1, 1) := by decide +kernel
theorem dL_drip_22 : decode cL_drip 22 = .ok (.iaload, 1) := by decide +kernel
theorem dL_drip_23 : decode cL_drip 23 = .ok (.if_icmp .le 9, 3) := by decide +kernel
theorem dL_drip_26 : decode cL_drip 26 = .ok (.aload_n 0, 1) := by decide +kernel
theorem dL_drip_27 : decode cL_drip 27 = .ok (.iload_n 1, 1) := by decide +kernel
theorem dL_drip_28 : decode cL_drip 28 = .ok (.iaload, 1) := by decide +kernel
theorem dL_drip_29 : decode cL_drip 29 = .ok (.goto 4, 3) := by decide +kernel
theorem dL_drip_32 : decode cL_drip 32 = .ok (.iload_n 2, 1) := by decide +kernel
theorem dL_drip_33 : decode cL_drip 33 = .ok (.ireturn, 1) := by decide +kernel
theorem dL_ticks_0 : decode cL_ticks 0 = .ok (.iconst 0, 1) := by decide +kernel
theorem dL_ticks_1 : decode cL_ticks 1 = .ok (.istore 6, 2) := by decide +kernel
theorem dL_ticks_3 : decode cL_ticks 3 = .ok (.iconst 1, 1) := by decide +kernel
theorem dL_ticks_4 : decode cL_ticks 4 = .ok (.istore 7, 2) := by decide +kernel
theorem dL_ticks_6 : decode cL_ticks 6 = .ok (.iconst 0, 1) := by decide +kernel
theorem dL_ticks_7 : decode cL_ticks 7 = .ok (.istore 8, 2) := by decide +kernel
theorem dL_ticks_9 : decode cL_ticks 9 = .ok (.iload 8, 2) := by decide +kernel
theorem dL_ticks_11 : decode cL_ticks 11 = .ok (.iload 4, 2) := by decide +kernel
theorem dL_ticks_13 : decode cL_ticks 13 = .ok (.if_icmp .ge 381, 3) := by decide +kernel
theorem dL_ticks_16 : decode cL_ticks 16 = .ok (.iload 7, 2) := by decide +kernel
theorem dL_ticks_18 : decode cL_ticks 18 = .ok (.ifCond .eq 376, 3) := by decide +kernel
theorem dL_ticks_21 : decode cL_ticks 21 = .ok (.iconst 0, 1) := by decide +kernel
theorem dL_ticks_22 : decode cL_ticks 22 = .ok (.istore 9, 2) := by decide +kernel
theorem dL_ticks_24 : decode cL_ticks 24 = .ok (.iload 9, 2) := by decide +kernel
theorem dL_ticks_26 : decode cL_ticks 26 = .ok (.aload_n 0, 1) := by decide +kernel
theorem dL_ticks_27 : decode cL_ticks 27 = .ok (.bipush 18, 2) := by decide +kernel
theorem dL_ticks_29 : decode cL_ticks 29 = .ok (.iaload, 1) := by decide +kernel
theorem dL_ticks_30 : decode cL_ticks 30 = .ok (.if_icmp .ge 201, 3) := by decide +kernel
theorem dL_ticks_33 : decode cL_ticks 33 = .ok (.aload_n 1, 1) := by decide +kernel
theorem dL_ticks_34 : decode cL_ticks 34 = .ok (.iload 9, 2) := by decide +kernel
theorem dL_ticks_36 : decode cL_ticks 36 = .ok (.invokestatic 23, 3) := by decide +kernel
theorem dL_ticks_39 : decode cL_ticks 39 = .ok (.istore 10, 2) := by decide +kernel
theorem dL_ticks_41 : decode cL_ticks 41 = .ok (.iload 6, 2) := by decide +kernel
theorem dL_ticks_43 : decode cL_ticks 43 = .ok (.iload 10, 2) := by decide +kernel
theorem dL_ticks_45 : decode cL_ticks 45 = .ok (.iadd, 1) := by decide +kernel
theorem dL_ticks_46 : decode cL_ticks 46 = .ok (.istore 6, 2) := by decide +kernel
theorem dL_ticks_48 : decode cL_ticks 48 = .ok (.aload_n 1, 1) := by decide +kernel
theorem dL_ticks_49 : decode cL_ticks 49 = .ok (.iload 9, 2) := by decide +kernel
theorem dL_ticks_51 : decode cL_ticks 51 = .ok (.dup2, 1) := by decide +kernel
theorem dL_ticks_52 : decode cL_ticks 52 = .ok (.iaload, 1) := by decide +kernel
theorem dL_ticks_53 : decode cL_ticks 53 = .ok (.iload 10, 2) := by decide +kernel
theorem dL_ticks_55 : decode cL_ticks 55 = .ok (.isub, 1) := by decide +kernel
theorem dL_ticks_56 : decode cL_ticks 56 = .ok (.iastore, 1) := by decide +kernel
theorem dL_ticks_57 : decode cL_ticks 57 = .ok (.aload_n 1, 1) := by decide +kernel
theorem dL_ticks_58 : decode cL_ticks 58 = .ok (.bipush 30, 2) := by decide +kernel
theorem dL_ticks_60 : decode cL_ticks 60 = .ok (.iload 9, 2) := by decide +kernel
theorem dL_ticks_62 : decode cL_ticks 62 = .ok (.iadd, 1) := by decide +kernel
theorem dL_ticks_63 : decode cL_ticks 63 = .ok (.dup2, 1) := by decide +kernel
theorem dL_ticks_64 : decode cL_ticks 64 = .ok (.iaload, 1) := by decide +kernel
theorem dL_ticks_65 : decode cL_ticks 65 = .ok (.iload 10, 2) := by decide +kernel
theorem dL_ticks_67 : decode cL_ticks 67 = .ok (.iadd, 1) := by decide +kernel
theorem dL_ticks_68 : decode cL_ticks 68 = .ok (.iastore, 1) := by decide +kernel
theorem dL_ticks_69 : decode cL_ticks 69 = .ok (.aload_n 2, 1) := by decide +kernel
theorem dL_ticks_70 : decode cL_ticks 70 = .ok (.iload 9, 2) := by decide +kernel
theorem dL_ticks_72 : decode cL_ticks 72 = .ok (.dup2, 1) := by decide +kernel
theorem dL_ticks_73 : decode cL_ticks 73 = .ok (.iaload, 1) := by decide +kernel
theorem dL_ticks_74 : decode cL_ticks 74 = .ok (.iload 10, 2) := by decide +kernel
theorem dL_ticks_76 : decode cL_ticks 76 = .ok (.iadd, 1) := by decide +kernel
theorem dL_ticks_77 : decode cL_ticks 77 = .ok (.iastore, 1) := by decide +kernel
theorem dL_ticks_78 : decode cL_ticks 78 = .ok (.aload_n 1, 1) := by decide +kernel
theorem dL_ticks_79 : decode cL_ticks 79 = .ok (.bipush 20, 2) := by decide +kernel
theorem dL_ticks_81 : decode cL_ticks 81 = .ok (.iload 9, 2) := by decide +kernel
theorem dL_ticks_83 : decode cL_ticks 83 = .ok (.iadd, 1) := by decide +kernel
theorem dL_ticks_84 : decode cL_ticks 84 = .ok (.iaload, 1) := by decide +kernel
theorem dL_ticks_85 : decode cL_ticks 85 = .ok (.ifCond .ne 15, 3) := by decide +kernel
theorem dL_ticks_88 : decode cL_ticks 88 = .ok (.aload_n 0, 1) := by decide +kernel
theorem dL_ticks_89 : decode cL_ticks 89 = .ok (.aload_n 1, 1) := by decide +kernel
theorem dL_ticks_90 : decode cL_ticks 90 = .ok (.iload 9, 2) := by decide +kernel
theorem dL_ticks_92 : decode cL_ticks 92 = .ok (.iload 10, 2) := by decide +kernel
theorem dL_ticks_94 : decode cL_ticks 94 = .ok (.invokestatic 27, 3) := by decide +kernel
theorem dL_ticks_97 : decode cL_ticks 97 = .ok (.goto 41, 3) := by decide +kernel
theorem dL_ticks_100 : decode cL_ticks 100 = .ok (.aload_n 1, 1) := by decide +kernel
theorem dL_ticks_101 : decode cL_ticks 101 = .ok (.bipush 20, 2) := by decide +kernel
theorem dL_ticks_103 : decode cL_ticks 103 = .ok (.iload 9, 2) := by decide +kernel
theorem dL_ticks_105 : decode cL_ticks 105 = .ok (.iadd, 1) := by decide +kernel
theorem dL_ticks_106 : decode cL_ticks 106 = .ok (.iaload, 1) := by decide +kernel
theorem dL_ticks_107 : decode cL_ticks 107 = .ok (.iconst 1, 1) := by decide +kernel
theorem dL_ticks_108 : decode cL_ticks 108 = .ok (.if_icmp .ne 19, 3) := by decide +kernel
theorem dL_ticks_111 : decode cL_ticks 111 = .ok (.aload_n 0, 1) := by decide +kernel
theorem dL_ticks_112 : decode cL_ticks 112 = .ok (.aload_n 1, 1) := by decide +kernel
theorem dL_ticks_113 : decode cL_ticks 113 = .ok (.iconst 5, 1) := by decide +kernel
theorem dL_ticks_114 : decode cL_ticks 114 = .ok (.iload 9, 2) := by decide +kernel
theorem dL_ticks_116 : decode cL_ticks 116 = .ok (.iadd, 1) := by decide +kernel
theorem dL_ticks_117 : decode cL_ticks 117 = .ok (.iload 10, 2) := by decide +kernel
theorem dL_ticks_119 : decode cL_ticks 119 = .ok (.invokestatic 19, 3) := by decide +kernel
theorem dL_ticks_122 : decode cL_ticks 122 = .ok (.istore 11, 2) := by decide +kernel
theorem dL_ticks_124 : decode cL_ticks 124 = .ok (.goto 14, 3) := by decide +kernel
theorem dL_ticks_127 : decode cL_ticks 127 = .ok (.aload_n 1, 1) := by decide +kernel
theorem dL_ticks_128 : decode cL_ticks 128 = .ok (.iconst 5, 1) := by decide +kernel
theorem dL_ticks_129 : decode cL_ticks 129 = .ok (.iload 9, 2) := by decide +kernel
theorem dL_ticks_131 : decode cL_ticks 131 = .ok (.iadd, 1) := by decide +kernel
theorem dL_ticks_132 : decode cL_ticks 132 = .ok (.dup2, 1) := by decide +kernel
theorem dL_ticks_133 : decode cL_ticks 133 = .ok (.iaload, 1) := by decide +kernel
theorem dL_ticks_134 : decode cL_ticks 134 = .ok (.iload 10, 2) := by decide +kernel
theorem dL_ticks_136 : decode cL_ticks 136 = .ok (.iadd, 1) := by decide +kernel
theorem dL_ticks_137 : decode cL_ticks 137 = .ok (.iastore, 1) := by decide +kernel
theorem dL_ticks_138 : decode cL_ticks 138 = .ok (.aload_n 1, 1) := by decide +kernel
theorem dL_ticks_139 : decode cL_ticks 139 = .ok (.bipush 20, 2) := by decide +kernel
theorem dL_ticks_141 : decode cL_ticks 141 = .ok (.iload 9, 2) := by decide +kernel
theorem dL_ticks_143 : decode cL_ticks 143 = .ok (.iadd, 1) := by decide +kernel
theorem dL_ticks_144 : decode cL_ticks 144 = .ok (.iaload, 1) := by decide +kernel
theorem dL_ticks_145 : decode cL_ticks 145 = .ok (.iconst 2, 1) := by decide +kernel
theorem dL_ticks_146 : decode cL_ticks 146 = .ok (.if_icmp .ne 79, 3) := by decide +kernel
theorem dL_ticks_149 : decode cL_ticks 149 = .ok (.aload_n 1, 1) := by decide +kernel
theorem dL_ticks_150 : decode cL_ticks 150 = .ok (.iconst 5, 1) := by decide +kernel
theorem dL_ticks_151 : decode cL_ticks 151 = .ok (.iload 9, 2) := by decide +kernel
theorem dL_ticks_153 : decode cL_ticks 153 = .ok (.iadd, 1) := by decide +kernel
theorem dL_ticks_154 : decode cL_ticks 154 = .ok (.iaload, 1) := by decide +kernel
theorem dL_ticks_155 : decode cL_ticks 155 = .ok (.aload_n 0, 1) := by decide +kernel
theorem dL_ticks_156 : decode cL_ticks 156 = .ok (.iconst 1, 1) := by decide +kernel
theorem dL_ticks_157 : decode cL_ticks 157 = .ok (.iaload, 1) := by decide +kernel
theorem dL_ticks_158 : decode cL_ticks 158 = .ok (.if_icmp .lt 67, 3) := by decide +kernel
theorem dL_ticks_161 : decode cL_ticks 161 = .ok (.aload_n 1, 1) := by decide +kernel
theorem dL_ticks_162 : decode cL_ticks 162 = .ok (.iconst 5, 1) := by decide +kernel
theorem dL_ticks_163 : decode cL_ticks 163 = .ok (.iload 9, 2) := by decide +kernel
theorem dL_ticks_165 : decode cL_ticks 165 = .ok (.iadd, 1) := by decide +kernel
theorem dL_ticks_166 : decode cL_ticks 166 = .ok (.iaload, 1) := by decide +kernel
theorem dL_ticks_167 : decode cL_ticks 167 = .ok (.istore 11, 2) := by decide +kernel
theorem dL_ticks_169 : decode cL_ticks 169 = .ok (.aload_n 1, 1) := by decide +kernel
theorem dL_ticks_170 : decode cL_ticks 170 = .ok (.iconst 5, 1) := by decide +kernel
theorem dL_ticks_171 : decode cL_ticks 171 = .ok (.iload 9, 2) := by decide +kernel
theorem dL_ticks_173 : decode cL_ticks 173 = .ok (.iadd, 1) := by decide +kernel
theorem dL_ticks_174 : decode cL_ticks 174 = .ok (.iconst 0, 1) := by decide +kernel
theorem dL_ticks_175 : decode cL_ticks 175 = .ok (.iastore, 1) := by decide +kernel
theorem dL_ticks_176 : decode cL_ticks 176 = .ok (.aload_n 2, 1) := by decide +kernel
theorem dL_ticks_177 : decode cL_ticks 177 = .ok (.iconst 5, 1) := by decide +kernel
theorem dL_ticks_178 : decode cL_ticks 178 = .ok (.iload 9, 2) := by decide +kernel
theorem dL_ticks_180 : decode cL_ticks 180 = .ok (.iadd, 1) := by decide +kernel
theorem dL_ticks_181 : decode cL_ticks 181 = .ok (.dup2, 1) := by decide +kernel
theorem dL_ticks_182 : decode cL_ticks 182 = .ok (.iaload, 1) := by decide +kernel
theorem dL_ticks_183 : decode cL_ticks 183 = .ok (.iconst 1, 1) := by decide +kernel
theorem dL_ticks_184 : decode cL_ticks 184 = .ok (.iadd, 1) := by decide +kernel
theorem dL_ticks_185 : decode cL_ticks 185 = .ok (.iastore, 1) := by decide +kernel
theorem dL_ticks_186 : decode cL_ticks 186 = .ok (.aload_n 2, 1) := by decide +kernel
theorem dL_ticks_187 : decode cL_ticks 187 = .ok (.bipush 10, 2) := by decide +kernel
theorem dL_ticks_189 : decode cL_ticks 189 = .ok (.iload 9, 2) := by decide +kernel
theorem dL_ticks_191 : decode cL_ticks 191 = .ok (.iadd, 1) := by decide +kernel
theorem dL_ticks_192 : decode cL_ticks 192 = .ok (.dup2, 1) := by decide +kernel
theorem dL_ticks_193 : decode cL_ticks 193 = .ok (.iaload, 1) := by decide +kernel
theorem dL_ticks_194 : decode cL_ticks 194 = .ok (.aload_n 0, 1) := by decide +kernel
theorem dL_ticks_195 : decode cL_ticks 195 = .ok (.iconst 1, 1) := by decide +kernel
theorem dL_ticks_196 : decode cL_ticks 196 = .ok (.iaload, 1) := by decide +kernel
theorem dL_ticks_197 : decode cL_ticks 197 = .ok (.iadd, 1) := by decide +kernel
theorem dL_ticks_198 : decode cL_ticks 198 = .ok (.iastore, 1) := by decide +kernel
theorem dL_ticks_199 : decode cL_ticks 199 = .ok (.aload_n 0, 1) := by decide +kernel
theorem dL_ticks_200 : decode cL_ticks 200 = .ok (.bipush 16, 2) := by decide +kernel
theorem dL_ticks_202 : decode cL_ticks 202 = .ok (.dup2, 1) := by decide +kernel
theorem dL_ticks_203 : decode cL_ticks 203 = .ok (.iaload, 1) := by decide +kernel
theorem dL_ticks_204 : decode cL_ticks 204 = .ok (.iconst 1, 1) := by decide +kernel
theorem dL_ticks_205 : decode cL_ticks 205 = .ok (.iadd, 1) := by decide +kernel
theorem dL_ticks_206 : decode cL_ticks 206 = .ok (.iastore, 1) := by decide +kernel
theorem dL_ticks_207 : decode cL_ticks 207 = .ok (.aload_n 0, 1) := by decide +kernel
theorem dL_ticks_208 : decode cL_ticks 208 = .ok (.bipush 12, 2) := by decide +kernel
theorem dL_ticks_210 : decode cL_ticks 210 = .ok (.dup2, 1) := by decide +kernel
theorem dL_ticks_211 : decode cL_ticks 211 = .ok (.iaload, 1) := by decide +kernel
theorem dL_ticks_212 : decode cL_ticks 212 = .ok (.iload 11, 2) := by decide +kernel
theorem dL_ticks_214 : decode cL_ticks 214 = .ok (.iadd, 1) := by decide +kernel
theorem dL_ticks_215 : decode cL_ticks 215 = .ok (.iastore, 1) := by decide +kernel
theorem dL_ticks_216 : decode cL_ticks 216 = .ok (.aload_n 0, 1) := by decide +kernel
theorem dL_ticks_217 : decode cL_ticks 217 = .ok (.aload_n 1, 1) := by decide +kernel
theorem dL_ticks_218 : decode cL_ticks 218 = .ok (.iload 9, 2) := by decide +kernel
theorem dL_ticks_220 : decode cL_ticks 220 = .ok (.iload 11, 2) := by decide +kernel
