theorem dX3_clocksEmpty_4 : decode cX3_clocksEmpty 4 = .ok (.iload_n 2, 1) := by decide +kernel
theorem dX3_clocksEmpty_5 : decode cX3_clocksEmpty 5 = .ok (.aload_n 0, 1) := by decide +kernel
theorem dX3_clocksEmpty_6 : decode cX3_clocksEmpty 6 = .ok (.getfield 48, 3) := by decide +kernel
theorem dX3_clocksEmpty_9 : decode cX3_clocksEmpty 9 = .ok (.if_icmp .ge 36, 3) := by decide +kernel
theorem dX3_clocksEmpty_12 : decode cX3_clocksEmpty 12 = .ok (.iload_n 2, 1) := by decide +kernel
theorem dX3_clocksEmpty_13 : decode cX3_clocksEmpty 13 = .ok (.aload_n 0, 1) := by decide +kernel
theorem dX3_clocksEmpty_14 : decode cX3_clocksEmpty 14 = .ok (.getfield 11, 3) := by decide +kernel
theorem dX3_clocksEmpty_17 : decode cX3_clocksEmpty 17 = .ok (.arraylength, 1) := by decide +kernel
theorem dX3_clocksEmpty_18 : decode cX3_clocksEmpty 18 = .ok (.if_icmp .ge 27, 3) := by decide +kernel
theorem dX3_clocksEmpty_21 : decode cX3_clocksEmpty 21 = .ok (.aload_n 0, 1) := by decide +kernel
theorem dX3_clocksEmpty_22 : decode cX3_clocksEmpty 22 = .ok (.getfield 11, 3) := by decide +kernel
theorem dX3_clocksEmpty_25 : decode cX3_clocksEmpty 25 = .ok (.iload_n 2, 1) := by decide +kernel
theorem dX3_clocksEmpty_26 : decode cX3_clocksEmpty 26 = .ok (.aaload, 1) := by decide +kernel
theorem dX3_clocksEmpty_27 : decode cX3_clocksEmpty 27 = .ok (.getfield 197, 3) := by decide +kernel
theorem dX3_clocksEmpty_30 : decode cX3_clocksEmpty 30 = .ok (.ifCond .ne 9, 3) := by decide +kernel
theorem dX3_clocksEmpty_33 : decode cX3_clocksEmpty 33 = .ok (.iload_n 1, 1) := by decide +kernel
theorem dX3_clocksEmpty_34 : decode cX3_clocksEmpty 34 = .ok (.iconst 1, 1) := by decide +kernel
theorem dX3_clocksEmpty_35 : decode cX3_clocksEmpty 35 = .ok (.iload_n 2, 1) := by decide +kernel
theorem dX3_clocksEmpty_36 : decode cX3_clocksEmpty 36 = .ok (.ishl, 1) := by decide +kernel
theorem dX3_clocksEmpty_37 : decode cX3_clocksEmpty 37 = .ok (.ior, 1) := by decide +kernel
theorem dX3_clocksEmpty_38 : decode cX3_clocksEmpty 38 = .ok (.istore_n 1, 1) := by decide +kernel
theorem dX3_clocksEmpty_39 : decode cX3_clocksEmpty 39 = .ok (.iinc 2 1, 3) := by decide +kernel
theorem dX3_clocksEmpty_42 : decode cX3_clocksEmpty 42 = .ok (.goto (-38), 3) := by decide +kernel
theorem dX3_clocksEmpty_45 : decode cX3_clocksEmpty 45 = .ok (.iload_n 1, 1) := by decide +kernel
theorem dX3_clocksEmpty_46 : decode cX3_clocksEmpty 46 = .ok (.ireturn, 1) := by decide +kernel
theorem dX3_sizeOfError_0 : decode cX3_sizeOfError 0 = .ok (.aload_n 0, 1) := by decide +kernel
theorem dX3_sizeOfError_1 : decode cX3_sizeOfError 1 = .ok (.iload_n 1, 1) := by decide +kernel
theorem dX3_sizeOfError_2 : decode cX3_sizeOfError 2 = .ok (.invokevirtual 85, 3) := by decide +kernel
theorem dX3_sizeOfError_5 : decode cX3_sizeOfError 5 = .ok (.astore_n 2, 1) := by decide +kernel
theorem dX3_sizeOfError_6 : decode cX3_sizeOfError 6 = .ok (.aload_n 2, 1) := by decide +kernel
theorem dX3_sizeOfError_7 : decode cX3_sizeOfError 7 = .ok (.ifnonnull 7, 3) := by decide +kernel
theorem dX3_sizeOfError_10 : decode cX3_sizeOfError 10 = .ok (.iconst 0, 1) := by decide +kernel
theorem dX3_sizeOfError_11 : decode cX3_sizeOfError 11 = .ok (.goto 11, 3) := by decide +kernel
theorem dX3_sizeOfError_14 : decode cX3_sizeOfError 14 = .ok (.aload_n 0, 1) := by decide +kernel
theorem dX3_sizeOfError_15 : decode cX3_sizeOfError 15 = .ok (.aload_n 2, 1) := by decide +kernel
theorem dX3_sizeOfError_16 : decode cX3_sizeOfError 16 = .ok (.invokevirtual 127, 3) := by decide +kernel
theorem dX3_sizeOfError_19 : decode cX3_sizeOfError 19 = .ok (.invokestatic 224, 3) := by decide +kernel
theorem dX3_sizeOfError_22 : decode cX3_sizeOfError 22 = .ok (.ireturn, 1) := by decide +kernel
theorem dX3_errorsTogether_0 : decode cX3_errorsTogether 0 = .ok (.iconst 0, 1) := by decide +kernel
theorem dX3_errorsTogether_1 : decode cX3_errorsTogether 1 = .ok (.istore_n 1, 1) := by decide +kernel
theorem dX3_errorsTogether_2 : decode cX3_errorsTogether 2 = .ok (.iconst 0, 1) := by decide +kernel
theorem dX3_errorsTogether_3 : decode cX3_errorsTogether 3 = .ok (.istore_n 2, 1) := by decide +kernel
theorem dX3_errorsTogether_4 : decode cX3_errorsTogether 4 = .ok (.iload_n 2, 1) := by decide +kernel
theorem dX3_errorsTogether_5 : decode cX3_errorsTogether 5 = .ok (.aload_n 0, 1) := by decide +kernel
theorem dX3_errorsTogether_6 : decode cX3_errorsTogether 6 = .ok (.getfield 48, 3) := by decide +kernel
theorem dX3_errorsTogether_9 : decode cX3_errorsTogether 9 = .ok (.if_icmp .ge 17, 3) := by decide +kernel
theorem dX3_errorsTogether_12 : decode cX3_errorsTogether 12 = .ok (.iload_n 1, 1) := by decide +kernel
theorem dX3_errorsTogether_13 : decode cX3_errorsTogether 13 = .ok (.aload_n 0, 1) := by decide +kernel
theorem dX3_errorsTogether_14 : decode cX3_errorsTogether 14 = .ok (.iload_n 2, 1) := by decide +kernel
theorem dX3_errorsTogether_15 : decode cX3_errorsTogether 15 = .ok (.invokevirtual 245, 3) := by decide +kernel
theorem dX3_errorsTogether_18 : decode cX3_errorsTogether 18 = .ok (.iadd, 1) := by decide +kernel
theorem dX3_errorsTogether_19 : decode cX3_errorsTogether 19 = .ok (.istore_n 1, 1) := by decide +kernel
theorem dX3_errorsTogether_20 : decode cX3_errorsTogether 20 = .ok (.iinc 2 1, 3) := by decide +kernel
theorem dX3_errorsTogether_23 : decode cX3_errorsTogether 23 = .ok (.goto (-19), 3) := by decide +kernel
theorem dX3_errorsTogether_26 : decode cX3_errorsTogether 26 = .ok (.iload_n 1, 1) := by decide +kernel
theorem dX3_errorsTogether_27 : decode cX3_errorsTogether 27 = .ok (.ireturn, 1) := by decide +kernel
theorem dX3_rankOf_0 : decode cX3_rankOf 0 = .ok (.aload_n 0, 1) := by decide +kernel
theorem dX3_rankOf_1 : decode cX3_rankOf 1 = .ok (.iload_n 1, 1) := by decide +kernel
theorem dX3_rankOf_2 : decode cX3_rankOf 2 = .ok (.invokevirtual 245, 3) := by decide +kernel
theorem dX3_rankOf_5 : decode cX3_rankOf 5 = .ok (.istore_n 2, 1) := by decide +kernel
theorem dX3_rankOf_6 : decode cX3_rankOf 6 = .ok (.iconst 0, 1) := by decide +kernel
theorem dX3_rankOf_7 : decode cX3_rankOf 7 = .ok (.istore_n 3, 1) := by decide +kernel
theorem dX3_rankOf_8 : decode cX3_rankOf 8 = .ok (.iconst 0, 1) := by decide +kernel
theorem dX3_rankOf_9 : decode cX3_rankOf 9 = .ok (.istore 4, 2) := by decide +kernel
theorem dX3_rankOf_11 : decode cX3_rankOf 11 = .ok (.iload 4, 2) := by decide +kernel
theorem dX3_rankOf_13 : decode cX3_rankOf 13 = .ok (.aload_n 0, 1) := by decide +kernel
theorem dX3_rankOf_14 : decode cX3_rankOf 14 = .ok (.getfield 48, 3) := by decide +kernel
theorem dX3_rankOf_17 : decode cX3_rankOf 17 = .ok (.if_icmp .ge 38, 3) := by decide +kernel
theorem dX3_rankOf_20 : decode cX3_rankOf 20 = .ok (.aload_n 0, 1) := by decide +kernel
theorem dX3_rankOf_21 : decode cX3_rankOf 21 = .ok (.iload 4, 2) := by decide +kernel
theorem dX3_rankOf_23 : decode cX3_rankOf 23 = .ok (.invokevirtual 245, 3) := by decide +kernel
theorem dX3_rankOf_26 : decode cX3_rankOf 26 = .ok (.istore 5, 2) := by decide +kernel
theorem dX3_rankOf_28 : decode cX3_rankOf 28 = .ok (.iload 5, 2) := by decide +kernel
theorem dX3_rankOf_30 : decode cX3_rankOf 30 = .ok (.iload_n 2, 1) := by decide +kernel
theorem dX3_rankOf_31 : decode cX3_rankOf 31 = .ok (.if_icmp .gt 15, 3) := by decide +kernel
theorem dX3_rankOf_34 : decode cX3_rankOf 34 = .ok (.iload 5, 2) := by decide +kernel
theorem dX3_rankOf_36 : decode cX3_rankOf 36 = .ok (.iload_n 2, 1) := by decide +kernel
theorem dX3_rankOf_37 : decode cX3_rankOf 37 = .ok (.if_icmp .ne 12, 3) := by decide +kernel
theorem dX3_rankOf_40 : decode cX3_rankOf 40 = .ok (.iload 4, 2) := by decide +kernel
theorem dX3_rankOf_42 : decode cX3_rankOf 42 = .ok (.iload_n 1, 1) := by decide +kernel
theorem dX3_rankOf_43 : decode cX3_rankOf 43 = .ok (.if_icmp .ge 6, 3) := by decide +kernel
theorem dX3_rankOf_46 : decode cX3_rankOf 46 = .ok (.iinc 3 1, 3) := by decide +kernel
theorem dX3_rankOf_49 : decode cX3_rankOf 49 = .ok (.iinc 4 1, 3) := by decide +kernel
theorem dX3_rankOf_52 : decode cX3_rankOf 52 = .ok (.goto (-41), 3) := by decide +kernel
theorem dX3_rankOf_55 : decode cX3_rankOf 55 = .ok (.iload_n 3, 1) := by decide +kernel
theorem dX3_rankOf_56 : decode cX3_rankOf 56 = .ok (.ireturn, 1) := by decide +kernel
theorem dX4_init_0 : decode cX4_init 0 = .ok (.aload_n 0, 1) := by decide +kernel
theorem dX4_init_1 : decode cX4_init 1 = .ok (.invokespecial 3, 3) := by decide +kernel
theorem dX4_init_4 : decode cX4_init 4 = .ok (.aload_n 0, 1) := by decide +kernel
theorem dX4_init_5 : decode cX4_init 5 = .ok (.bipush 60, 2) := by decide +kernel
theorem dX4_init_7 : decode cX4_init 7 = .ok (.newarray .char, 2) := by decide +kernel
theorem dX4_init_9 : decode cX4_init 9 = .ok (.putfield 9, 3) := by decide +kernel
theorem dX4_init_12 : decode cX4_init 12 = .ok (.aload_n 0, 1) := by decide +kernel
theorem dX4_init_13 : decode cX4_init 13 = .ok (.iconst 3, 1) := by decide +kernel
theorem dX4_init_14 : decode cX4_init 14 = .ok (.newarray .int, 2) := by decide +kernel
theorem dX4_init_16 : decode cX4_init 16 = .ok (.putfield 15, 3) := by decide +kernel
theorem dX4_init_19 : decode cX4_init 19 = .ok (.return_, 1) := by decide +kernel
theorem dX4_append_0 : decode cX4_append 0 = .ok (.aload_n 0, 1) := by decide +kernel
theorem dX4_append_1 : decode cX4_append 1 = .ok (.getfield 19, 3) := by decide +kernel
theorem dX4_append_4 : decode cX4_append 4 = .ok (.ifCond .lt 15, 3) := by decide +kernel
theorem dX4_append_7 : decode cX4_append 7 = .ok (.aload_n 0, 1) := by decide +kernel
theorem dX4_append_8 : decode cX4_append 8 = .ok (.getfield 19, 3) := by decide +kernel
theorem dX4_append_11 : decode cX4_append 11 = .ok (.aload_n 0, 1) := by decide +kernel
theorem dX4_append_12 : decode cX4_append 12 = .ok (.getfield 9, 3) := by decide +kernel
theorem dX4_append_15 : decode cX4_append 15 = .ok (.arraylength, 1) := by decide +kernel
theorem dX4_append_16 : decode cX4_append 16 = .ok (.if_icmp .lt 6, 3) := by decide +kernel
theorem dX4_append_19 : decode cX4_append 19 = .ok (.ldc 23, 2) := by decide +kernel
theorem dX4_append_21 : decode cX4_append 21 = .ok (.ireturn, 1) := by decide +kernel
theorem dX4_append_22 : decode cX4_append 22 = .ok (.aload_n 0, 1) := by decide +kernel
theorem dX4_append_23 : decode cX4_append 23 = .ok (.getfield 9, 3) := by decide +kernel
theorem dX4_append_26 : decode cX4_append 26 = .ok (.aload_n 0, 1) := by decide +kernel
theorem dX4_append_27 : decode cX4_append 27 = .ok (.getfield 19, 3) := by decide +kernel
theorem dX4_append_30 : decode cX4_append 30 = .ok (.iload_n 1, 1) := by decide +kernel
theorem dX4_append_31 : decode cX4_append 31 = .ok (.castore, 1) := by decide +kernel
theorem dX4_append_32 : decode cX4_append 32 = .ok (.aload_n 0, 1) := by decide +kernel
theorem dX4_append_33 : decode cX4_append 33 = .ok (.dup, 1) := by decide +kernel
theorem dX4_append_34 : decode cX4_append 34 = .ok (.getfield 19, 3) := by decide +kernel
theorem dX4_append_37 : decode cX4_append 37 = .ok (.iconst 1, 1) := by decide +kernel
theorem dX4_append_38 : decode cX4_append 38 = .ok (.iadd, 1) := by decide +kernel
theorem dX4_append_39 : decode cX4_append 39 = .ok (.putfield 19, 3) := by decide +kernel
theorem dX4_append_42 : decode cX4_append 42 = .ok (.aload_n 0, 1) := by decide +kernel
theorem dX4_append_43 : decode cX4_append 43 = .ok (.getfield 19, 3) := by decide +kernel
theorem dX4_append_46 : decode cX4_append 46 = .ok (.ireturn, 1) := by decide +kernel
theorem dX4_rewind_0 : decode cX4_rewind 0 = .ok (.aload_n 0, 1) := by decide +kernel
theorem dX4_rewind_1 : decode cX4_rewind 1 = .ok (.iconst 0, 1) := by decide +kernel
theorem dX4_rewind_2 : decode cX4_rewind 2 = .ok (.putfield 24, 3) := by decide +kernel
theorem dX4_rewind_5 : decode cX4_rewind 5 = .ok (.aload_n 0, 1) := by decide +kernel
theorem dX4_rewind_6 : decode cX4_rewind 6 = .ok (.iconst 0, 1) := by decide +kernel
theorem dX4_rewind_7 : decode cX4_rewind 7 = .ok (.putfield 27, 3) := by decide +kernel
theorem dX4_rewind_10 : decode cX4_rewind 10 = .ok (.return_, 1) := by decide +kernel
theorem dX4_tellFault_0 : decode cX4_tellFault 0 = .ok (.aload_n 0, 1) := by decide +kernel
theorem dX4_tellFault_1 : decode cX4_tellFault 1 = .ok (.iload_n 1, 1) := by decide +kernel
theorem dX4_tellFault_2 : decode cX4_tellFault 2 = .ok (.putfield 27, 3) := by decide +kernel
theorem dX4_tellFault_5 : decode cX4_tellFault 5 = .ok (.aload_n 0, 1) := by decide +kernel
theorem dX4_tellFault_6 : decode cX4_tellFault 6 = .ok (.iload_n 2, 1) := by decide +kernel
theorem dX4_tellFault_7 : decode cX4_tellFault 7 = .ok (.putfield 30, 3) := by decide +kernel
theorem dX4_tellFault_10 : decode cX4_tellFault 10 = .ok (.return_, 1) := by decide +kernel
theorem dX4_number_0 : decode cX4_number 0 = .ok (.aload_n 0, 1) := by decide +kernel
theorem dX4_number_1 : decode cX4_number 1 = .ok (.getfield 15, 3) := by decide +kernel
theorem dX4_number_4 : decode cX4_number 4 = .ok (.iload_n 1, 1) := by decide +kernel
theorem dX4_number_5 : decode cX4_number 5 = .ok (.invokestatic 33, 3) := by decide +kernel
theorem dX4_number_8 : decode cX4_number 8 = .ok (.ireturn, 1) := by decide +kernel
theorem dX4_readOrder_0 : decode cX4_readOrder 0 = .ok (.aload_n 0, 1) := by decide +kernel
theorem dX4_readOrder_1 : decode cX4_readOrder 1 = .ok (.getfield 24, 3) := by decide +kernel
theorem dX4_readOrder_4 : decode cX4_readOrder 4 = .ok (.aload_n 0, 1) := by decide +kernel
theorem dX4_readOrder_5 : decode cX4_readOrder 5 = .ok (.getfield 19, 3) := by decide +kernel
theorem dX4_readOrder_8 : decode cX4_readOrder 8 = .ok (.if_icmp .lt 5, 3) := by decide +kernel
theorem dX4_readOrder_11 : decode cX4_readOrder 11 = .ok (.iconst 0, 1) := by decide +kernel
theorem dX4_readOrder_12 : decode cX4_readOrder 12 = .ok (.ireturn, 1) := by decide +kernel
theorem dX4_readOrder_13 : decode cX4_readOrder 13 = .ok (.aload_n 0, 1) := by decide +kernel
theorem dX4_readOrder_14 : decode cX4_readOrder 14 = .ok (.aload_n 0, 1) := by decide +kernel
theorem dX4_readOrder_15 : decode cX4_readOrder 15 = .ok (.getfield 24, 3) := by decide +kernel
theorem dX4_readOrder_18 : decode cX4_readOrder 18 = .ok (.putfield 37, 3) := by decide +kernel
theorem dX4_readOrder_21 : decode cX4_readOrder 21 = .ok (.aload_n 0, 1) := by decide +kernel
theorem dX4_readOrder_22 : decode cX4_readOrder 22 = .ok (.invokevirtual 40, 3) := by decide +kernel
theorem dX4_readOrder_25 : decode cX4_readOrder 25 = .ok (.ifCond .eq 5, 3) := by decide +kernel
theorem dX4_readOrder_28 : decode cX4_readOrder 28 = .ok (.iconst 1, 1) := by decide +kernel
theorem dX4_readOrder_29 : decode cX4_readOrder 29 = .ok (.ireturn, 1) := by decide +kernel
theorem dX4_readOrder_30 : decode cX4_readOrder 30 = .ok (.aload_n 0, 1) := by decide +kernel
theorem dX4_readOrder_31 : decode cX4_readOrder 31 = .ok (.iconst 1, 1) := by decide +kernel
theorem dX4_readOrder_32 : decode cX4_readOrder 32 = .ok (.aload_n 0, 1) := by decide +kernel
theorem dX4_readOrder_33 : decode cX4_readOrder 33 = .ok (.getfield 24, 3) := by decide +kernel
theorem dX4_readOrder_36 : decode cX4_readOrder 36 = .ok (.aload_n 0, 1) := by decide +kernel
theorem dX4_readOrder_37 : decode cX4_readOrder 37 = .ok (.getfield 37, 3) := by decide +kernel
theorem dX4_readOrder_40 : decode cX4_readOrder 40 = .ok (.isub, 1) := by decide +kernel
theorem dX4_readOrder_41 : decode cX4_readOrder 41 = .ok (.invokevirtual 44, 3) := by decide +kernel
theorem dX4_readOrder_44 : decode cX4_readOrder 44 = .ok (.iconst 0, 1) := by decide +kernel
theorem dX4_readOrder_45 : decode cX4_readOrder 45 = .ok (.ireturn, 1) := by decide +kernel
theorem dX4_readForm_0 : decode cX4_readForm 0 = .ok (.aload_n 0, 1) := by decide +kernel
theorem dX4_readForm_1 : decode cX4_readForm 1 = .ok (.aload_n 0, 1) := by decide +kernel
theorem dX4_readForm_2 : decode cX4_readForm 2 = .ok (.invokevirtual 48, 3) := by decide +kernel
theorem dX4_readForm_5 : decode cX4_readForm 5 = .ok (.putfield 52, 3) := by decide +kernel
theorem dX4_readForm_8 : decode cX4_readForm 8 = .ok (.aload_n 0, 1) := by decide +kernel
theorem dX4_readForm_9 : decode cX4_readForm 9 = .ok (.getfield 52, 3) := by decide +kernel
theorem dX4_readForm_12 : decode cX4_readForm 12 = .ok (.invokestatic 56, 3) := by decide +kernel
theorem dX4_readForm_15 : decode cX4_readForm 15 = .ok (.istore_n 1, 1) := by decide +kernel
theorem dX4_readForm_16 : decode cX4_readForm 16 = .ok (.iload_n 1, 1) := by decide +kernel
theorem dX4_readForm_17 : decode cX4_readForm 17 = .ok (.ifCond .ne 5, 3) := by decide +kernel
theorem dX4_readForm_20 : decode cX4_readForm 20 = .ok (.iconst 0, 1) := by decide +kernel
theorem dX4_readForm_21 : decode cX4_readForm 21 = .ok (.ireturn, 1) := by decide +kernel
theorem dX4_readForm_22 : decode cX4_readForm 22 = .ok (.aload_n 0, 1) := by decide +kernel
theorem dX4_readForm_23 : decode cX4_readForm 23 = .ok (.dup, 1) := by decide +kernel
theorem dX4_readForm_24 : decode cX4_readForm 24 = .ok (.getfield 24, 3) := by decide +kernel
theorem dX4_readForm_27 : decode cX4_readForm 27 = .ok (.iconst 1, 1) := by decide +kernel
theorem dX4_readForm_28 : decode cX4_readForm 28 = .ok (.iadd, 1) := by decide +kernel
theorem dX4_readForm_29 : decode cX4_readForm 29 = .ok (.putfield 24, 3) := by decide +kernel
theorem dX4_readForm_32 : decode cX4_readForm 32 = .ok (.iconst 0, 1) := by decide +kernel
theorem dX4_readForm_33 : decode cX4_readForm 33 = .ok (.istore_n 2, 1) := by decide +kernel
theorem dX4_readForm_34 : decode cX4_readForm 34 = .ok (.iload_n 2, 1) := by decide +kernel
theorem dX4_readForm_35 : decode cX4_readForm 35 = .ok (.iload_n 1, 1) := by decide +kernel
theorem dX4_readForm_36 : decode cX4_readForm 36 = .ok (.if_icmp .ge 40, 3) := by decide +kernel
theorem dX4_readForm_39 : decode cX4_readForm 39 = .ok (.aload_n 0, 1) := by decide +kernel
theorem dX4_readForm_40 : decode cX4_readForm 40 = .ok (.iload_n 2, 1) := by decide +kernel
theorem dX4_readForm_41 : decode cX4_readForm 41 = .ok (.invokevirtual 60, 3) := by decide +kernel
theorem dX4_readForm_44 : decode cX4_readForm 44 = .ok (.ifCond .eq 24, 3) := by decide +kernel
theorem dX4_readForm_47 : decode cX4_readForm 47 = .ok (.aload_n 0, 1) := by decide +kernel
theorem dX4_readForm_48 : decode cX4_readForm 48 = .ok (.iload_n 2, 1) := by decide +kernel
theorem dX4_readForm_49 : decode cX4_readForm 49 = .ok (.iconst 1, 1) := by decide +kernel
theorem dX4_readForm_50 : decode cX4_readForm 50 = .ok (.iadd, 1) := by decide +kernel
theorem dX4_readForm_51 : decode cX4_readForm 51 = .ok (.iload_n 1, 1) := by decide +kernel
theorem dX4_readForm_52 : decode cX4_readForm 52 = .ok (.if_icmp .ge 8, 3) := by decide +kernel
theorem dX4_readForm_55 : decode cX4_readForm 55 = .ok (.bipush 44, 2) := by decide +kernel
theorem dX4_readForm_57 : decode cX4_readForm 57 = .ok (.goto 5, 3) := by decide +kernel
theorem dX4_readForm_60 : decode cX4_readForm 60 = .ok (.bipush 59, 2) := by decide +kernel
theorem dX4_readForm_62 : decode cX4_readForm 62 = .ok (.invokevirtual 64, 3) := by decide +kernel
theorem dX4_readForm_65 : decode cX4_readForm 65 = .ok (.ifCond .ne 5, 3) := by decide +kernel
theorem dX4_readForm_68 : decode cX4_readForm 68 = .ok (.iconst 0, 1) := by decide +kernel
theorem dX4_readForm_69 : decode cX4_readForm 69 = .ok (.ireturn, 1) := by decide +kernel
theorem dX4_readForm_70 : decode cX4_readForm 70 = .ok (.iinc 2 1, 3) := by decide +kernel
theorem dX4_readForm_73 : decode cX4_readForm 73 = .ok (.goto (-39), 3) := by decide +kernel
theorem dX4_readForm_76 : decode cX4_readForm 76 = .ok (.iconst 1, 1) := by decide +kernel
theorem dX4_readForm_77 : decode cX4_readForm 77 = .ok (.ireturn, 1) := by decide +kernel
theorem dX4_readNumber_0 : decode cX4_readNumber 0 = .ok (.iconst 0, 1) := by decide +kernel
theorem dX4_readNumber_1 : decode cX4_readNumber 1 = .ok (.istore_n 2, 1) := by decide +kernel
theorem dX4_readNumber_2 : decode cX4_readNumber 2 = .ok (.iconst 0, 1) := by decide +kernel
theorem dX4_readNumber_3 : decode cX4_readNumber 3 = .ok (.istore_n 3, 1) := by decide +kernel
theorem dX4_readNumber_4 : decode cX4_readNumber 4 = .ok (.iload_n 3, 1) := by decide +kernel
theorem dX4_readNumber_5 : decode cX4_readNumber 5 = .ok (.iconst 3, 1) := by decide +kernel
theorem dX4_readNumber_6 : decode cX4_readNumber 6 = .ok (.if_icmp .ge 42, 3) := by decide +kernel
theorem dX4_readNumber_9 : decode cX4_readNumber 9 = .ok (.aload_n 0, 1) := by decide +kernel
theorem dX4_readNumber_10 : decode cX4_readNumber 10 = .ok (.invokevirtual 48, 3) := by decide +kernel
theorem dX4_readNumber_13 : decode cX4_readNumber 13 = .ok (.invokestatic 68, 3) := by decide +kernel
theorem dX4_readNumber_16 : decode cX4_readNumber 16 = .ok (.ifCond .eq 32, 3) := by decide +kernel
theorem dX4_readNumber_19 : decode cX4_readNumber 19 = .ok (.iload_n 2, 1) := by decide +kernel
theorem dX4_readNumber_20 : decode cX4_readNumber 20 = .ok (.bipush 10, 2) := by decide +kernel
theorem dX4_readNumber_22 : decode cX4_readNumber 22 = .ok (.imul, 1) := by decide +kernel
theorem dX4_readNumber_23 : decode cX4_readNumber 23 = .ok (.aload_n 0, 1) := by decide +kernel
theorem dX4_readNumber_24 : decode cX4_readNumber 24 = .ok (.invokevirtual 48, 3) := by decide +kernel
theorem dX4_readNumber_27 : decode cX4_readNumber 27 = .ok (.bipush 48, 2) := by decide +kernel
theorem dX4_readNumber_29 : decode cX4_readNumber 29 = .ok (.isub, 1) := by decide +kernel
theorem dX4_readNumber_30 : decode cX4_readNumber 30 = .ok (.iadd, 1) := by decide +kernel
theorem dX4_readNumber_31 : decode cX4_readNumber 31 = .ok (.istore_n 2, 1) := by decide +kernel
theorem dX4_readNumber_32 : decode cX4_readNumber 32 = .ok (.iinc 3 1, 3) := by decide +kernel
theorem dX4_readNumber_35 : decode cX4_readNumber 35 = .ok (.aload_n 0, 1) := by decide +kernel
theorem dX4_readNumber_36 : decode cX4_readNumber 36 = .ok (.dup, 1) := by decide +kernel
theorem dX4_readNumber_37 : decode cX4_readNumber 37 = .ok (.getfield 24, 3) := by decide +kernel
theorem dX4_readNumber_40 : decode cX4_readNumber 40 = .ok (.iconst 1, 1) := by decide +kernel
theorem dX4_readNumber_41 : decode cX4_readNumber 41 = .ok (.iadd, 1) := by decide +kernel
theorem dX4_readNumber_42 : decode cX4_readNumber 42 = .ok (.putfield 24, 3) := by decide +kernel
theorem dX4_readNumber_45 : decode cX4_readNumber 45 = .ok (.goto (-41), 3) := by decide +kernel
theorem dX4_readNumber_48 : decode cX4_readNumber 48 = .ok (.aload_n 0, 1) := by decide +kernel
theorem dX4_readNumber_49 : decode cX4_readNumber 49 = .ok (.getfield 15, 3) := by decide +kernel
theorem dX4_readNumber_52 : decode cX4_readNumber 52 = .ok (.iload_n 1, 1) := by decide +kernel
theorem dX4_readNumber_53 : decode cX4_readNumber 53 = .ok (.iload_n 2, 1) := by decide +kernel
theorem dX4_readNumber_54 : decode cX4_readNumber 54 = .ok (.invokestatic 71, 3) := by decide +kernel
theorem dX4_readNumber_57 : decode cX4_readNumber 57 = .ok (.iload_n 3, 1) := by decide +kernel
theorem dX4_readNumber_58 : decode cX4_readNumber 58 = .ok (.ifCond .le 7, 3) := by decide +kernel
theorem dX4_readNumber_61 : decode cX4_readNumber 61 = .ok (.iconst 1, 1) := by decide +kernel
theorem dX4_readNumber_62 : decode cX4_readNumber 62 = .ok (.goto 4, 3) := by decide +kernel
theorem dX4_readNumber_65 : decode cX4_readNumber 65 = .ok (.iconst 0, 1) := by decide +kernel
theorem dX4_readNumber_66 : decode cX4_readNumber 66 = .ok (.ireturn, 1) := by decide +kernel
theorem dX4_readSign_0 : decode cX4_readSign 0 = .ok (.aload_n 0, 1) := by decide +kernel
theorem dX4_readSign_1 : decode cX4_readSign 1 = .ok (.invokevirtual 48, 3) := by decide +kernel
theorem dX4_readSign_4 : decode cX4_readSign 4 = .ok (.iload_n 1, 1) := by decide +kernel
theorem dX4_readSign_5 : decode cX4_readSign 5 = .ok (.if_icmp .eq 5, 3) := by decide +kernel
theorem dX4_readSign_8 : decode cX4_readSign 8 = .ok (.iconst 0, 1) := by decide +kernel
theorem dX4_readSign_9 : decode cX4_readSign 9 = .ok (.ireturn, 1) := by decide +kernel
theorem dX4_readSign_10 : decode cX4_readSign 10 = .ok (.aload_n 0, 1) := by decide +kernel
theorem dX4_readSign_11 : decode cX4_readSign 11 = .ok (.dup, 1) := by decide +kernel
theorem dX4_readSign_12 : decode cX4_readSign 12 = .ok (.getfield 24, 3) := by decide +kernel
theorem dX4_readSign_15 : decode cX4_readSign 15 = .ok (.iconst 1, 1) := by decide +kernel
theorem dX4_readSign_16 : decode cX4_readSign 16 = .ok (.iadd, 1) := by decide +kernel
theorem dX4_readSign_17 : decode cX4_readSign 17 = .ok (.putfield 24, 3) := by decide +kernel
theorem dX4_readSign_20 : decode cX4_readSign 20 = .ok (.iconst 1, 1) := by decide +kernel
theorem dX4_readSign_21 : decode cX4_readSign 21 = .ok (.ireturn, 1) := by decide +kernel
theorem dX4_signHere_0 : decode cX4_signHere 0 = .ok (.aload_n 0, 1) := by decide +kernel
theorem dX4_signHere_1 : decode cX4_signHere 1 = .ok (.getfield 24, 3) := by decide +kernel
theorem dX4_signHere_4 : decode cX4_signHere 4 = .ok (.ifCond .lt 38, 3) := by decide +kernel
theorem dX4_signHere_7 : decode cX4_signHere 7 = .ok (.aload_n 0, 1) := by decide +kernel
theorem dX4_signHere_8 : decode cX4_signHere 8 = .ok (.getfield 24, 3) := by decide +kernel
theorem dX4_signHere_11 : decode cX4_signHere 11 = .ok (.aload_n 0, 1) := by decide +kernel
theorem dX4_signHere_12 : decode cX4_signHere 12 = .ok (.getfield 19, 3) := by decide +kernel
theorem dX4_signHere_15 : decode cX4_signHere 15 = .ok (.if_icmp .ge 27, 3) := by decide +kernel
theorem dX4_signHere_18 : decode cX4_signHere 18 = .ok (.aload_n 0, 1) := by decide +kernel
theorem dX4_signHere_19 : decode cX4_signHere 19 = .ok (.getfield 24, 3) := by decide +kernel
theorem dX4_signHere_22 : decode cX4_signHere 22 = .ok (.aload_n 0, 1) := by decide +kernel
theorem dX4_signHere_23 : decode cX4_signHere 23 = .ok (.getfield 9, 3) := by decide +kernel
theorem dX4_signHere_26 : decode cX4_signHere 26 = .ok (.arraylength, 1) := by decide +kernel
theorem dX4_signHere_27 : decode cX4_signHere 27 = .ok (.if_icmp .ge 15, 3) := by decide +kernel
theorem dX4_signHere_30 : decode cX4_signHere 30 = .ok (.aload_n 0, 1) := by decide +kernel
theorem dX4_signHere_31 : decode cX4_signHere 31 = .ok (.getfield 9, 3) := by decide +kernel
theorem dX4_signHere_34 : decode cX4_signHere 34 = .ok (.aload_n 0, 1) := by decide +kernel
theorem dX4_signHere_35 : decode cX4_signHere 35 = .ok (.getfield 24, 3) := by decide +kernel
theorem dX4_signHere_38 : decode cX4_signHere 38 = .ok (.caload, 1) := by decide +kernel
theorem dX4_signHere_39 : decode cX4_signHere 39 = .ok (.goto 4, 3) := by decide +kernel
theorem dX4_signHere_42 : decode cX4_signHere 42 = .ok (.iconst 0, 1) := by decide +kernel
theorem dX4_signHere_43 : decode cX4_signHere 43 = .ok (.ireturn, 1) := by decide +kernel
theorem dX4_isDigit_0 : decode cX4_isDigit 0 = .ok (.iload_n 0, 1) := by decide +kernel
theorem dX4_isDigit_1 : decode cX4_isDigit 1 = .ok (.bipush 48, 2) := by decide +kernel
theorem dX4_isDigit_3 : decode cX4_isDigit 3 = .ok (.if_icmp .lt 13, 3) := by decide +kernel
theorem dX4_isDigit_6 : decode cX4_isDigit 6 = .ok (.iload_n 0, 1) := by decide +kernel
theorem dX4_isDigit_7 : decode cX4_isDigit 7 = .ok (.bipush 57, 2) := by decide +kernel
theorem dX4_isDigit_9 : decode cX4_isDigit 9 = .ok (.if_icmp .gt 7, 3) := by decide +kernel
theorem dX4_isDigit_12 : decode cX4_isDigit 12 = .ok (.iconst 1, 1) := by decide +kernel
theorem dX4_isDigit_13 : decode cX4_isDigit 13 = .ok (.goto 4, 3) := by decide +kernel
theorem dX4_isDigit_16 : decode cX4_isDigit 16 = .ok (.iconst 0, 1) := by decide +kernel
theorem dX4_isDigit_17 : decode cX4_isDigit 17 = .ok (.ireturn, 1) := by decide +kernel
theorem dX4_numbersOf_0 : decode cX4_numbersOf 0 = .ok (.iload_n 0, 1) := by decide +kernel
theorem dX4_numbersOf_1 : decode cX4_numbersOf 1 = .ok (.lookupswitch 65 #[(99, 59), (108, 61), (112, 61), (116, 63), (119, 61), (120, 63)], 59) := by decide +kernel
theorem dX4_numbersOf_60 : decode cX4_numbersOf 60 = .ok (.iconst 3, 1) := by decide +kernel
theorem dX4_numbersOf_61 : decode cX4_numbersOf 61 = .ok (.ireturn, 1) := by decide +kernel
theorem dX4_numbersOf_62 : decode cX4_numbersOf 62 = .ok (.iconst 2, 1) := by decide +kernel
theorem dX4_numbersOf_63 : decode cX4_numbersOf 63 = .ok (.ireturn, 1) := by decide +kernel
theorem dX4_numbersOf_64 : decode cX4_numbersOf 64 = .ok (.iconst 1, 1) := by decide +kernel
theorem dX4_numbersOf_65 : decode cX4_numbersOf 65 = .ok (.ireturn, 1) := by decide +kernel
theorem dX4_numbersOf_66 : decode cX4_numbersOf 66 = .ok (.iconst 0, 1) := by decide +kernel
theorem dX4_numbersOf_67 : decode cX4_numbersOf 67 = .ok (.ireturn, 1) := by decide +kernel
theorem dX5_init_0 : decode cX5_init 0 = .ok (.aload_n 0, 1) := by decide +kernel
theorem dX5_init_1 : decode cX5_init 1 = .ok (.invokespecial 1, 3) := by decide +kernel
theorem dX5_init_4 : decode cX5_init 4 = .ok (.aload_n 0, 1) := by decide +kernel
theorem dX5_init_5 : decode cX5_init 5 = .ok (.new 7, 3) := by decide +kernel
theorem dX5_init_8 : decode cX5_init 8 = .ok (.dup, 1) := by decide +kernel
theorem dX5_init_9 : decode cX5_init 9 = .ok (.invokespecial 9, 3) := by decide +kernel
theorem dX5_init_12 : decode cX5_init 12 = .ok (.putfield 10, 3) := by decide +kernel
theorem dX5_init_15 : decode cX5_init 15 = .ok (.aload_n 0, 1) := by decide +kernel
theorem dX5_init_16 : decode cX5_init 16 = .ok (.new 7, 3) := by decide +kernel
theorem dX5_init_19 : decode cX5_init 19 = .ok (.dup, 1) := by decide +kernel
theorem dX5_init_20 : decode cX5_init 20 = .ok (.invokespecial 9, 3) := by decide +kernel
theorem dX5_init_23 : decode cX5_init 23 = .ok (.putfield 16, 3) := by decide +kernel
theorem dX5_init_26 : decode cX5_init 26 = .ok (.aload_n 0, 1) := by decide +kernel
theorem dX5_init_27 : decode cX5_init 27 = .ok (.new 7, 3) := by decide +kernel
theorem dX5_init_30 : decode cX5_init 30 = .ok (.dup, 1) := by decide +kernel
theorem dX5_init_31 : decode cX5_init 31 = .ok (.invokespecial 9, 3) := by decide +kernel
theorem dX5_init_34 : decode cX5_init 34 = .ok (.putfield 19, 3) := by decide +kernel
theorem dX5_init_37 : decode cX5_init 37 = .ok (.aload_n 0, 1) := by decide +kernel
theorem dX5_init_38 : decode cX5_init 38 = .ok (.iconst 4, 1) := by decide +kernel
theorem dX5_init_39 : decode cX5_init 39 = .ok (.anewarray 7, 3) := by decide +kernel
theorem dX5_init_42 : decode cX5_init 42 = .ok (.putfield 22, 3) := by decide +kernel
theorem dX5_init_45 : decode cX5_init 45 = .ok (.iconst 0, 1) := by decide +kernel
theorem dX5_init_46 : decode cX5_init 46 = .ok (.istore_n 1, 1) := by decide +kernel
theorem dX5_init_47 : decode cX5_init 47 = .ok (.iload_n 1, 1) := by decide +kernel
theorem dX5_init_48 : decode cX5_init 48 = .ok (.aload_n 0, 1) := by decide +kernel
theorem dX5_init_49 : decode cX5_init 49 = .ok (.getfield 22, 3) := by decide +kernel
theorem dX5_init_52 : decode cX5_init 52 = .ok (.arraylength, 1) := by decide +kernel
theorem dX5_init_53 : decode cX5_init 53 = .ok (.if_icmp .ge 22, 3) := by decide +kernel
theorem dX5_init_56 : decode cX5_init 56 = .ok (.aload_n 0, 1) := by decide +kernel
theorem dX5_init_57 : decode cX5_init 57 = .ok (.getfield 22, 3) := by decide +kernel
theorem dX5_init_60 : decode cX5_init 60 = .ok (.iload_n 1, 1) := by decide +kernel
theorem dX5_init_61 : decode cX5_init 61 = .ok (.new 7, 3) := by decide +kernel
theorem dX5_init_64 : decode cX5_init 64 = .ok (.dup, 1) := by decide +kernel
theorem dX5_init_65 : decode cX5_init 65 = .ok (.invokespecial 9, 3) := by decide +kernel
theorem dX5_init_68 : decode cX5_init 68 = .ok (.aastore, 1) := by decide +kernel
theorem dX5_init_69 : decode cX5_init 69 = .ok (.iinc 1 1, 3) := by decide +kernel
theorem dX5_init_72 : decode cX5_init 72 = .ok (.goto (-25), 3) := by decide +kernel
theorem dX5_init_75 : decode cX5_init 75 = .ok (.aload_n 0, 1) := by decide +kernel
theorem dX5_init_76 : decode cX5_init 76 = .ok (.iconst 2, 1) := by decide +kernel
theorem dX5_init_77 : decode cX5_init 77 = .ok (.anewarray 7, 3) := by decide +kernel
theorem dX5_init_80 : decode cX5_init 80 = .ok (.putfield 26, 3) := by decide +kernel
theorem dX5_init_83 : decode cX5_init 83 = .ok (.iconst 0, 1) := by decide +kernel
theorem dX5_init_84 : decode cX5_init 84 = .ok (.istore_n 1, 1) := by decide +kernel
theorem dX5_init_85 : decode cX5_init 85 = .ok (.iload_n 1, 1) := by decide +kernel
theorem dX5_init_86 : decode cX5_init 86 = .ok (.aload_n 0, 1) := by decide +kernel
theorem dX5_init_87 : decode cX5_init 87 = .ok (.getfield 26, 3) := by decide +kernel
theorem dX5_init_90 : decode cX5_init 90 = .ok (.arraylength, 1) := by decide +kernel
theorem dX5_init_91 : decode cX5_init 91 = .ok (.if_icmp .ge 22, 3) := by decide +kernel
theorem dX5_init_94 : decode cX5_init 94 = .ok (.aload_n 0, 1) := by decide +kernel
theorem dX5_init_95 : decode cX5_init 95 = .ok (.getfield 26, 3) := by decide +kernel
theorem dX5_init_98 : decode cX5_init 98 = .ok (.iload_n 1, 1) := by decide +kernel
theorem dX5_init_99 : decode cX5_init 99 = .ok (.new 7, 3) := by decide +kernel
theorem dX5_init_102 : decode cX5_init 102 = .ok (.dup, 1) := by decide +kernel
theorem dX5_init_103 : decode cX5_init 103 = .ok (.invokespecial 9, 3) := by decide +kernel
theorem dX5_init_106 : decode cX5_init 106 = .ok (.aastore, 1) := by decide +kernel
theorem dX5_init_107 : decode cX5_init 107 = .ok (.iinc 1 1, 3) := by decide +kernel
theorem dX5_init_110 : decode cX5_init 110 = .ok (.goto (-25), 3) := by decide +kernel
theorem dX5_init_113 : decode cX5_init 113 = .ok (.aload_n 0, 1) := by decide +kernel
theorem dX5_init_114 : decode cX5_init 114 = .ok (.iconst 2, 1) := by decide +kernel
theorem dX5_init_115 : decode cX5_init 115 = .ok (.newarray .boolean, 2) := by decide +kernel
theorem dX5_init_117 : decode cX5_init 117 = .ok (.putfield 29, 3) := by decide +kernel
theorem dX5_init_120 : decode cX5_init 120 = .ok (.aload_n 0, 1) := by decide +kernel
theorem dX5_init_121 : decode cX5_init 121 = .ok (.new 33, 3) := by decide +kernel
theorem dX5_init_124 : decode cX5_init 124 = .ok (.dup, 1) := by decide +kernel
theorem dX5_init_125 : decode cX5_init 125 = .ok (.invokespecial 35, 3) := by decide +kernel
theorem dX5_init_128 : decode cX5_init 128 = .ok (.putfield 36, 3) := by decide +kernel
theorem dX5_init_131 : decode cX5_init 131 = .ok (.return_, 1) := by decide +kernel
theorem dX5_clock_0 : decode cX5_clock 0 = .ok (.aload_n 0, 1) := by decide +kernel
theorem dX5_clock_1 : decode cX5_clock 1 = .ok (.getfield 19, 3) := by decide +kernel
theorem dX5_clock_4 : decode cX5_clock 4 = .ok (.aload_n 0, 1) := by decide +kernel
theorem dX5_clock_5 : decode cX5_clock 5 = .ok (.getfield 10, 3) := by decide +kernel
theorem dX5_clock_8 : decode cX5_clock 8 = .ok (.invokevirtual 40, 3) := by decide +kernel
theorem dX5_clock_11 : decode cX5_clock 11 = .ok (.aload_n 0, 1) := by decide +kernel
theorem dX5_clock_12 : decode cX5_clock 12 = .ok (.aload_n 0, 1) := by decide +kernel
theorem dX5_clock_13 : decode cX5_clock 13 = .ok (.getfield 10, 3) := by decide +kernel
theorem dX5_clock_16 : decode cX5_clock 16 = .ok (.iload_n 1, 1) := by decide +kernel
theorem dX5_clock_17 : decode cX5_clock 17 = .ok (.iload_n 2, 1) := by decide +kernel
theorem dX5_clock_18 : decode cX5_clock 18 = .ok (.iload_n 3, 1) := by decide +kernel
theorem dX5_clock_19 : decode cX5_clock 19 = .ok (.invokevirtual 44, 3) := by decide +kernel
theorem dX5_clock_22 : decode cX5_clock 22 = .ok (.invokevirtual 48, 3) := by decide +kernel
theorem dX5_clock_25 : decode cX5_clock 25 = .ok (.ireturn, 1) := by decide +kernel
theorem dX5_lead_0 : decode cX5_lead 0 = .ok (.aload_n 0, 1) := by decide +kernel
theorem dX5_lead_1 : decode cX5_lead 1 = .ok (.getfield 19, 3) := by decide +kernel
theorem dX5_lead_4 : decode cX5_lead 4 = .ok (.aload_n 0, 1) := by decide +kernel
theorem dX5_lead_5 : decode cX5_lead 5 = .ok (.getfield 10, 3) := by decide +kernel
theorem dX5_lead_8 : decode cX5_lead 8 = .ok (.invokevirtual 40, 3) := by decide +kernel
theorem dX5_lead_11 : decode cX5_lead 11 = .ok (.aload_n 0, 1) := by decide +kernel
theorem dX5_lead_12 : decode cX5_lead 12 = .ok (.aload_n 0, 1) := by decide +kernel
theorem dX5_lead_13 : decode cX5_lead 13 = .ok (.getfield 10, 3) := by decide +kernel
theorem dX5_lead_16 : decode cX5_lead 16 = .ok (.iload_n 1, 1) := by decide +kernel
theorem dX5_lead_17 : decode cX5_lead 17 = .ok (.iload_n 2, 1) := by decide +kernel
theorem dX5_lead_18 : decode cX5_lead 18 = .ok (.invokevirtual 52, 3) := by decide +kernel
theorem dX5_lead_21 : decode cX5_lead 21 = .ok (.invokevirtual 48, 3) := by decide +kernel
theorem dX5_lead_24 : decode cX5_lead 24 = .ok (.ireturn, 1) := by decide +kernel
theorem dX5_pour_0 : decode cX5_pour 0 = .ok (.aload_n 0, 1) := by decide +kernel
theorem dX5_pour_1 : decode cX5_pour 1 = .ok (.getfield 19, 3) := by decide +kernel
theorem dX5_pour_4 : decode cX5_pour 4 = .ok (.aload_n 0, 1) := by decide +kernel
theorem dX5_pour_5 : decode cX5_pour 5 = .ok (.getfield 10, 3) := by decide +kernel
theorem dX5_pour_8 : decode cX5_pour 8 = .ok (.invokevirtual 40, 3) := by decide +kernel
theorem dX5_pour_11 : decode cX5_pour 11 = .ok (.aload_n 0, 1) := by decide +kernel
theorem dX5_pour_12 : decode cX5_pour 12 = .ok (.aload_n 0, 1) := by decide +kernel
theorem dX5_pour_13 : decode cX5_pour 13 = .ok (.getfield 10, 3) := by decide +kernel
theorem dX5_pour_16 : decode cX5_pour 16 = .ok (.iload_n 1, 1) := by decide +kernel
theorem dX5_pour_17 : decode cX5_pour 17 = .ok (.iload_n 2, 1) := by decide +kernel
theorem dX5_pour_18 : decode cX5_pour 18 = .ok (.invokevirtual 56, 3) := by decide +kernel
theorem dX5_pour_21 : decode cX5_pour 21 = .ok (.invokevirtual 48, 3) := by decide +kernel
theorem dX5_pour_24 : decode cX5_pour 24 = .ok (.ireturn, 1) := by decide +kernel
theorem dX5_wax_0 : decode cX5_wax 0 = .ok (.aload_n 0, 1) := by decide +kernel
theorem dX5_wax_1 : decode cX5_wax 1 = .ok (.getfield 19, 3) := by decide +kernel
theorem dX5_wax_4 : decode cX5_wax 4 = .ok (.aload_n 0, 1) := by decide +kernel
theorem dX5_wax_5 : decode cX5_wax 5 = .ok (.getfield 10, 3) := by decide +kernel
theorem dX5_wax_8 : decode cX5_wax 8 = .ok (.invokevirtual 40, 3) := by decide +kernel
theorem dX5_wax_11 : decode cX5_wax 11 = .ok (.aload_n 0, 1) := by decide +kernel
theorem dX5_wax_12 : decode cX5_wax 12 = .ok (.aload_n 0, 1) := by decide +kernel
theorem dX5_wax_13 : decode cX5_wax 13 = .ok (.getfield 10, 3) := by decide +kernel
theorem dX5_wax_16 : decode cX5_wax 16 = .ok (.iload_n 1, 1) := by decide +kernel
theorem dX5_wax_17 : decode cX5_wax 17 = .ok (.iload_n 2, 1) := by decide +kernel
theorem dX5_wax_18 : decode cX5_wax 18 = .ok (.invokevirtual 59, 3) := by decide +kernel
theorem dX5_wax_21 : decode cX5_wax 21 = .ok (.invokevirtual 48, 3) := by decide +kernel
theorem dX5_wax_24 : decode cX5_wax 24 = .ok (.ireturn, 1) := by decide +kernel
theorem dX5_pitch_0 : decode cX5_pitch 0 = .ok (.aload_n 0, 1) := by decide +kernel
theorem dX5_pitch_1 : decode cX5_pitch 1 = .ok (.getfield 19, 3) := by decide +kernel
theorem dX5_pitch_4 : decode cX5_pitch 4 = .ok (.aload_n 0, 1) := by decide +kernel
theorem dX5_pitch_5 : decode cX5_pitch 5 = .ok (.getfield 10, 3) := by decide +kernel
theorem dX5_pitch_8 : decode cX5_pitch 8 = .ok (.invokevirtual 40, 3) := by decide +kernel
theorem dX5_pitch_11 : decode cX5_pitch 11 = .ok (.aload_n 0, 1) := by decide +kernel
theorem dX5_pitch_12 : decode cX5_pitch 12 = .ok (.aload_n 0, 1) := by decide +kernel
theorem dX5_pitch_13 : decode cX5_pitch 13 = .ok (.getfield 10, 3) := by decide +kernel
theorem dX5_pitch_16 : decode cX5_pitch 16 = .ok (.iload_n 1, 1) := by decide +kernel
theorem dX5_pitch_17 : decode cX5_pitch 17 = .ok (.iload_n 2, 1) := by decide +kernel
theorem dX5_pitch_18 : decode cX5_pitch 18 = .ok (.invokevirtual 62, 3) := by decide +kernel
theorem dX5_pitch_21 : decode cX5_pitch 21 = .ok (.invokevirtual 48, 3) := by decide +kernel
theorem dX5_pitch_24 : decode cX5_pitch 24 = .ok (.ireturn, 1) := by decide +kernel
theorem dX5_trueUp_0 : decode cX5_trueUp 0 = .ok (.aload_n 0, 1) := by decide +kernel
theorem dX5_trueUp_1 : decode cX5_trueUp 1 = .ok (.getfield 19, 3) := by decide +kernel
theorem dX5_trueUp_4 : decode cX5_trueUp 4 = .ok (.aload_n 0, 1) := by decide +kernel
theorem dX5_trueUp_5 : decode cX5_trueUp 5 = .ok (.getfield 10, 3) := by decide +kernel
theorem dX5_trueUp_8 : decode cX5_trueUp 8 = .ok (.invokevirtual 40, 3) := by decide +kernel
theorem dX5_trueUp_11 : decode cX5_trueUp 11 = .ok (.aload_n 0, 1) := by decide +kernel
theorem dX5_trueUp_12 : decode cX5_trueUp 12 = .ok (.aload_n 0, 1) := by decide +kernel
theorem dX5_trueUp_13 : decode cX5_trueUp 13 = .ok (.getfield 10, 3) := by decide +kernel
theorem dX5_trueUp_16 : decode cX5_trueUp 16 = .ok (.iload_n 1, 1) := by decide +kernel
theorem dX5_trueUp_17 : decode cX5_trueUp 17 = .ok (.invokevirtual 65, 3) := by decide +kernel
theorem dX5_trueUp_20 : decode cX5_trueUp 20 = .ok (.invokevirtual 48, 3) := by decide +kernel
theorem dX5_trueUp_23 : decode cX5_trueUp 23 = .ok (.ireturn, 1) := by decide +kernel
theorem dX5_ticks_0 : decode cX5_ticks 0 = .ok (.aload_n 0, 1) := by decide +kernel
theorem dX5_ticks_1 : decode cX5_ticks 1 = .ok (.getfield 19, 3) := by decide +kernel
theorem dX5_ticks_4 : decode cX5_ticks 4 = .ok (.aload_n 0, 1) := by decide +kernel
theorem dX5_ticks_5 : decode cX5_ticks 5 = .ok (.getfield 10, 3) := by decide +kernel
theorem dX5_ticks_8 : decode cX5_ticks 8 = .ok (.invokevirtual 40, 3) := by decide +kernel
theorem dX5_ticks_11 : decode cX5_ticks 11 = .ok (.aload_n 0, 1) := by decide +kernel
theorem dX5_ticks_12 : decode cX5_ticks 12 = .ok (.aload_n 0, 1) := by decide +kernel
theorem dX5_ticks_13 : decode cX5_ticks 13 = .ok (.getfield 10, 3) := by decide +kernel
theorem dX5_ticks_16 : decode cX5_ticks 16 = .ok (.iload_n 1, 1) := by decide +kernel
theorem dX5_ticks_17 : decode cX5_ticks 17 = .ok (.invokevirtual 68, 3) := by decide +kernel
theorem dX5_ticks_20 : decode cX5_ticks 20 = .ok (.invokevirtual 48, 3) := by decide +kernel
theorem dX5_ticks_23 : decode cX5_ticks 23 = .ok (.ireturn, 1) := by decide +kernel
theorem dX5_set_0 : decode cX5_set 0 = .ok (.aload_n 0, 1) := by decide +kernel
theorem dX5_set_1 : decode cX5_set 1 = .ok (.getfield 19, 3) := by decide +kernel
theorem dX5_set_4 : decode cX5_set 4 = .ok (.aload_n 0, 1) := by decide +kernel
theorem dX5_set_5 : decode cX5_set 5 = .ok (.getfield 10, 3) := by decide +kernel
theorem dX5_set_8 : decode cX5_set 8 = .ok (.invokevirtual 40, 3) := by decide +kernel
theorem dX5_set_11 : decode cX5_set 11 = .ok (.aload_n 0, 1) := by decide +kernel
theorem dX5_set_12 : decode cX5_set 12 = .ok (.aload_n 0, 1) := by decide +kernel
theorem dX5_set_13 : decode cX5_set 13 = .ok (.getfield 10, 3) := by decide +kernel
theorem dX5_set_16 : decode cX5_set 16 = .ok (.iload_n 1, 1) := by decide +kernel
theorem dX5_set_17 : decode cX5_set 17 = .ok (.iload_n 2, 1) := by decide +kernel
theorem dX5_set_18 : decode cX5_set 18 = .ok (.invokevirtual 71, 3) := by decide +kernel
theorem dX5_set_21 : decode cX5_set 21 = .ok (.invokevirtual 48, 3) := by decide +kernel
theorem dX5_set_24 : decode cX5_set 24 = .ok (.ireturn, 1) := by decide +kernel
theorem dX5_keep_0 : decode cX5_keep 0 = .ok (.aload_n 0, 1) := by decide +kernel
theorem dX5_keep_1 : decode cX5_keep 1 = .ok (.iload_n 1, 1) := by decide +kernel
theorem dX5_keep_2 : decode cX5_keep 2 = .ok (.invokevirtual 74, 3) := by decide +kernel
theorem dX5_keep_5 : decode cX5_keep 5 = .ok (.ifCond .ne 6, 3) := by decide +kernel
theorem dX5_keep_8 : decode cX5_keep 8 = .ok (.ldc 78, 2) := by decide +kernel
theorem dX5_keep_10 : decode cX5_keep 10 = .ok (.ireturn, 1) := by decide +kernel
theorem dX5_keep_11 : decode cX5_keep 11 = .ok (.aload_n 0, 1) := by decide +kernel
theorem dX5_keep_12 : decode cX5_keep 12 = .ok (.getfield 26, 3) := by decide +kernel
theorem dX5_keep_15 : decode cX5_keep 15 = .ok (.iload_n 1, 1) := by decide +kernel
theorem dX5_keep_16 : decode cX5_keep 16 = .ok (.aaload, 1) := by decide +kernel
theorem dX5_keep_17 : decode cX5_keep 17 = .ok (.aload_n 0, 1) := by decide +kernel
theorem dX5_keep_18 : decode cX5_keep 18 = .ok (.getfield 10, 3) := by decide +kernel
theorem dX5_keep_21 : decode cX5_keep 21 = .ok (.invokevirtual 40, 3) := by decide +kernel
theorem dX5_keep_24 : decode cX5_keep 24 = .ok (.aload_n 0, 1) := by decide +kernel
theorem dX5_keep_25 : decode cX5_keep 25 = .ok (.getfield 29, 3) := by decide +kernel
theorem dX5_keep_28 : decode cX5_keep 28 = .ok (.iload_n 1, 1) := by decide +kernel
theorem dX5_keep_29 : decode cX5_keep 29 = .ok (.iconst 1, 1) := by decide +kernel
theorem dX5_keep_30 : decode cX5_keep 30 = .ok (.bastore, 1) := by decide +kernel
theorem dX5_keep_31 : decode cX5_keep 31 = .ok (.aload_n 0, 1) := by decide +kernel
theorem dX5_keep_32 : decode cX5_keep 32 = .ok (.getfield 10, 3) := by decide +kernel
theorem dX5_keep_35 : decode cX5_keep 35 = .ok (.getfield 79, 3) := by decide +kernel
theorem dX5_keep_38 : decode cX5_keep 38 = .ok (.ireturn, 1) := by decide +kernel
theorem dX5_back_0 : decode cX5_back 0 = .ok (.aload_n 0, 1) := by decide +kernel
theorem dX5_back_1 : decode cX5_back 1 = .ok (.iload_n 1, 1) := by decide +kernel
theorem dX5_back_2 : decode cX5_back 2 = .ok (.invokevirtual 74, 3) := by decide +kernel
theorem dX5_back_5 : decode cX5_back 5 = .ok (.ifCond .ne 6, 3) := by decide +kernel
theorem dX5_back_8 : decode cX5_back 8 = .ok (.ldc 78, 2) := by decide +kernel
theorem dX5_back_10 : decode cX5_back 10 = .ok (.ireturn, 1) := by decide +kernel
theorem dX5_back_11 : decode cX5_back 11 = .ok (.aload_n 0, 1) := by decide +kernel
theorem dX5_back_12 : decode cX5_back 12 = .ok (.getfield 29, 3) := by decide +kernel
theorem dX5_back_15 : decode cX5_back 15 = .ok (.iload_n 1, 1) := by decide +kernel
theorem dX5_back_16 : decode cX5_back 16 = .ok (.baload, 1) := by decide +kernel
theorem dX5_back_17 : decode cX5_back 17 = .ok (.ifCond .ne 6, 3) := by decide +kernel
theorem dX5_back_20 : decode cX5_back 20 = .ok (.ldc 83, 2) := by decide +kernel
theorem dX5_back_22 : decode cX5_back 22 = .ok (.ireturn, 1) := by decide +kernel
theorem dX5_back_23 : decode cX5_back 23 = .ok (.aload_n 0, 1) := by decide +kernel
theorem dX5_back_24 : decode cX5_back 24 = .ok (.getfield 19, 3) := by decide +kernel
theorem dX5_back_27 : decode cX5_back 27 = .ok (.aload_n 0, 1) := by decide +kernel
theorem dX5_back_28 : decode cX5_back 28 = .ok (.getfield 10, 3) := by decide +kernel
theorem dX5_back_31 : decode cX5_back 31 = .ok (.invokevirtual 40, 3) := by decide +kernel
theorem dX5_back_34 : decode cX5_back 34 = .ok (.aload_n 0, 1) := by decide +kernel
theorem dX5_back_35 : decode cX5_back 35 = .ok (.getfield 10, 3) := by decide +kernel
theorem dX5_back_38 : decode cX5_back 38 = .ok (.aload_n 0, 1) := by decide +kernel
theorem dX5_back_39 : decode cX5_back 39 = .ok (.getfield 26, 3) := by decide +kernel
theorem dX5_back_42 : decode cX5_back 42 = .ok (.iload_n 1, 1) := by decide +kernel
theorem dX5_back_43 : decode cX5_back 43 = .ok (.aaload, 1) := by decide +kernel
theorem dX5_back_44 : decode cX5_back 44 = .ok (.invokevirtual 40, 3) := by decide +kernel
theorem dX5_back_47 : decode cX5_back 47 = .ok (.aload_n 0, 1) := by decide +kernel
theorem dX5_back_48 : decode cX5_back 48 = .ok (.aload_n 0, 1) := by decide +kernel
theorem dX5_back_49 : decode cX5_back 49 = .ok (.getfield 10, 3) := by decide +kernel
theorem dX5_back_52 : decode cX5_back 52 = .ok (.getfield 79, 3) := by decide +kernel
theorem dX5_back_55 : decode cX5_back 55 = .ok (.invokevirtual 48, 3) := by decide +kernel
theorem dX5_back_58 : decode cX5_back 58 = .ok (.ireturn, 1) := by decide +kernel
theorem dX5_clockOf_0 : decode cX5_clockOf 0 = .ok (.aload_n 0, 1) := by decide +kernel
theorem dX5_clockOf_1 : decode cX5_clockOf 1 = .ok (.getfield 10, 3) := by decide +kernel
theorem dX5_clockOf_4 : decode cX5_clockOf 4 = .ok (.iload_n 1, 1) := by decide +kernel
theorem dX5_clockOf_5 : decode cX5_clockOf 5 = .ok (.invokevirtual 84, 3) := by decide +kernel
theorem dX5_clockOf_8 : decode cX5_clockOf 8 = .ok (.astore_n 3, 1) := by decide +kernel
theorem dX5_clockOf_9 : decode cX5_clockOf 9 = .ok (.aload_n 3, 1) := by decide +kernel
theorem dX5_clockOf_10 : decode cX5_clockOf 10 = .ok (.ifnull 13, 3) := by decide +kernel
theorem dX5_clockOf_13 : decode cX5_clockOf 13 = .ok (.iload_n 2, 1) := by decide +kernel
theorem dX5_clockOf_14 : decode cX5_clockOf 14 = .ok (.ifCond .lt 9, 3) := by decide +kernel
theorem dX5_clockOf_17 : decode cX5_clockOf 17 = .ok (.iload_n 2, 1) := by decide +kernel
theorem dX5_clockOf_18 : decode cX5_clockOf 18 = .ok (.bipush 11, 2) := by decide +kernel
theorem dX5_clockOf_20 : decode cX5_clockOf 20 = .ok (.if_icmp .le 6, 3) := by decide +kernel
theorem dX5_clockOf_23 : decode cX5_clockOf 23 = .ok (.ldc 78, 2) := by decide +kernel
theorem dX5_clockOf_25 : decode cX5_clockOf 25 = .ok (.ireturn, 1) := by decide +kernel
theorem dX5_clockOf_26 : decode cX5_clockOf 26 = .ok (.aload_n 3, 1) := by decide +kernel
theorem dX5_clockOf_27 : decode cX5_clockOf 27 = .ok (.iload_n 2, 1) := by decide +kernel
theorem dX5_clockOf_28 : decode cX5_clockOf 28 = .ok (.invokevirtual 88, 3) := by decide +kernel
theorem dX5_clockOf_31 : decode cX5_clockOf 31 = .ok (.ifCond .eq 11, 3) := by decide +kernel
theorem dX5_clockOf_34 : decode cX5_clockOf 34 = .ok (.aload_n 3, 1) := by decide +kernel
theorem dX5_clockOf_35 : decode cX5_clockOf 35 = .ok (.iload_n 2, 1) := by decide +kernel
theorem dX5_clockOf_36 : decode cX5_clockOf 36 = .ok (.invokevirtual 93, 3) := by decide +kernel
theorem dX5_clockOf_39 : decode cX5_clockOf 39 = .ok (.goto 5, 3) := by decide +kernel
theorem dX5_clockOf_42 : decode cX5_clockOf 42 = .ok (.ldc 96, 2) := by decide +kernel
theorem dX5_clockOf_44 : decode cX5_clockOf 44 = .ok (.ireturn, 1) := by decide +kernel
theorem dX5_hour_0 : decode cX5_hour 0 = .ok (.aload_n 0, 1) := by decide +kernel
theorem dX5_hour_1 : decode cX5_hour 1 = .ok (.getfield 10, 3) := by decide +kernel
theorem dX5_hour_4 : decode cX5_hour 4 = .ok (.iload_n 1, 1) := by decide +kernel
theorem dX5_hour_5 : decode cX5_hour 5 = .ok (.invokevirtual 84, 3) := by decide +kernel
theorem dX5_hour_8 : decode cX5_hour 8 = .ok (.astore_n 3, 1) := by decide +kernel
theorem dX5_hour_9 : decode cX5_hour 9 = .ok (.aload_n 3, 1) := by decide +kernel
theorem dX5_hour_10 : decode cX5_hour 10 = .ok (.ifnull 12, 3) := by decide +kernel
theorem dX5_hour_13 : decode cX5_hour 13 = .ok (.iload_n 2, 1) := by decide +kernel
theorem dX5_hour_14 : decode cX5_hour 14 = .ok (.ifCond .lt 8, 3) := by decide +kernel
theorem dX5_hour_17 : decode cX5_hour 17 = .ok (.iload_n 2, 1) := by decide +kernel
theorem dX5_hour_18 : decode cX5_hour 18 = .ok (.iconst 2, 1) := by decide +kernel
theorem dX5_hour_19 : decode cX5_hour 19 = .ok (.if_icmp .le 6, 3) := by decide +kernel
theorem dX5_hour_22 : decode cX5_hour 22 = .ok (.ldc 78, 2) := by decide +kernel
theorem dX5_hour_24 : decode cX5_hour 24 = .ok (.ireturn, 1) := by decide +kernel
theorem dX5_hour_25 : decode cX5_hour 25 = .ok (.iload_n 2, 1) := by decide +kernel
theorem dX5_hour_26 : decode cX5_hour 26 = .ok (.ifCond .ne 12, 3) := by decide +kernel
theorem dX5_hour_29 : decode cX5_hour 29 = .ok (.aload_n 3, 1) := by decide +kernel
theorem dX5_hour_30 : decode cX5_hour 30 = .ok (.invokevirtual 97, 3) := by decide +kernel
theorem dX5_hour_33 : decode cX5_hour 33 = .ok (.sipush 10000, 3) := by decide +kernel
theorem dX5_hour_36 : decode cX5_hour 36 = .ok (.iadd, 1) := by decide +kernel
theorem dX5_hour_37 : decode cX5_hour 37 = .ok (.ireturn, 1) := by decide +kernel
theorem dX5_hour_38 : decode cX5_hour 38 = .ok (.iload_n 2, 1) := by decide +kernel
theorem dX5_hour_39 : decode cX5_hour 39 = .ok (.iconst 1, 1) := by decide +kernel
theorem dX5_hour_40 : decode cX5_hour 40 = .ok (.if_icmp .ne 18, 3) := by decide +kernel
theorem dX5_hour_43 : decode cX5_hour 43 = .ok (.aload_n 0, 1) := by decide +kernel
theorem dX5_hour_44 : decode cX5_hour 44 = .ok (.getfield 10, 3) := by decide +kernel
theorem dX5_hour_47 : decode cX5_hour 47 = .ok (.aload_n 3, 1) := by decide +kernel
theorem dX5_hour_48 : decode cX5_hour 48 = .ok (.invokevirtual 101, 3) := by decide +kernel
theorem dX5_hour_51 : decode cX5_hour 51 = .ok (.sipush 10000, 3) := by decide +kernel
theorem dX5_hour_54 : decode cX5_hour 54 = .ok (.iadd, 1) := by decide +kernel
theorem dX5_hour_55 : decode cX5_hour 55 = .ok (.goto 10, 3) := by decide +kernel
theorem dX5_hour_58 : decode cX5_hour 58 = .ok (.aload_n 0, 1) := by decide +kernel
theorem dX5_hour_59 : decode cX5_hour 59 = .ok (.getfield 10, 3) := by decide +kernel
theorem dX5_hour_62 : decode cX5_hour 62 = .ok (.invokevirtual 105, 3) := by decide +kernel
theorem dX5_hour_65 : decode cX5_hour 65 = .ok (.ireturn, 1) := by decide +kernel
theorem dX5_water_0 : decode cX5_water 0 = .ok (.iload_n 1, 1) := by decide +kernel
theorem dX5_water_1 : decode cX5_water 1 = .ok (.tableswitch 146 0 9 #[55, 63, 72, 81, 89, 97, 105, 113, 121, 138], 55) := by decide +kernel
theorem dX5_water_56 : decode cX5_water 56 = .ok (.aload_n 0, 1) := by decide +kernel
theorem dX5_water_57 : decode cX5_water 57 = .ok (.getfield 10, 3) := by decide +kernel
theorem dX5_water_60 : decode cX5_water 60 = .ok (.getfield 108, 3) := by decide +kernel
theorem dX5_water_63 : decode cX5_water 63 = .ok (.ireturn, 1) := by decide +kernel
theorem dX5_water_64 : decode cX5_water 64 = .ok (.aload_n 0, 1) := by decide +kernel
theorem dX5_water_65 : decode cX5_water 65 = .ok (.getfield 10, 3) := by decide +kernel
theorem dX5_water_68 : decode cX5_water 68 = .ok (.iconst 1, 1) := by decide +kernel
theorem dX5_water_69 : decode cX5_water 69 = .ok (.invokevirtual 111, 3) := by decide +kernel
theorem dX5_water_72 : decode cX5_water 72 = .ok (.ireturn, 1) := by decide +kernel
theorem dX5_water_73 : decode cX5_water 73 = .ok (.aload_n 0, 1) := by decide +kernel
theorem dX5_water_74 : decode cX5_water 74 = .ok (.getfield 10, 3) := by decide +kernel
theorem dX5_water_77 : decode cX5_water 77 = .ok (.iconst 2, 1) := by decide +kernel
theorem dX5_water_78 : decode cX5_water 78 = .ok (.invokevirtual 111, 3) := by decide +kernel
theorem dX5_water_81 : decode cX5_water 81 = .ok (.ireturn, 1) := by decide +kernel
theorem dX5_water_82 : decode cX5_water 82 = .ok (.aload_n 0, 1) := by decide +kernel
theorem dX5_water_83 : decode cX5_water 83 = .ok (.getfield 10, 3) := by decide +kernel
theorem dX5_water_86 : decode cX5_water 86 = .ok (.getfield 114, 3) := by decide +kernel
theorem dX5_water_89 : decode cX5_water 89 = .ok (.ireturn, 1) := by decide +kernel
theorem dX5_water_90 : decode cX5_water 90 = .ok (.aload_n 0, 1) := by decide +kernel
theorem dX5_water_91 : decode cX5_water 91 = .ok (.getfield 10, 3) := by decide +kernel
theorem dX5_water_94 : decode cX5_water 94 = .ok (.getfield 117, 3) := by decide +kernel
theorem dX5_water_97 : decode cX5_water 97 = .ok (.ireturn, 1) := by decide +kernel
theorem dX5_water_98 : decode cX5_water 98 = .ok (.aload_n 0, 1) := by decide +kernel
theorem dX5_water_99 : decode cX5_water 99 = .ok (.getfield 10, 3) := by decide +kernel
theorem dX5_water_102 : decode cX5_water 102 = .ok (.invokevirtual 120, 3) := by decide +kernel
theorem dX5_water_105 : decode cX5_water 105 = .ok (.ireturn, 1) := by decide +kernel
theorem dX5_water_106 : decode cX5_water 106 = .ok (.aload_n 0, 1) := by decide +kernel
theorem dX5_water_107 : decode cX5_water 107 = .ok (.getfield 10, 3) := by decide +kernel
theorem dX5_water_110 : decode cX5_water 110 = .ok (.getfield 123, 3) := by decide +kernel
theorem dX5_water_113 : decode cX5_water 113 = .ok (.ireturn, 1) := by decide +kernel
theorem dX5_water_114 : decode cX5_water 114 = .ok (.aload_n 0, 1) := by decide +kernel
theorem dX5_water_115 : decode cX5_water 115 = .ok (.getfield 10, 3) := by decide +kernel
theorem dX5_water_118 : decode cX5_water 118 = .ok (.getfield 126, 3) := by decide +kernel
theorem dX5_water_121 : decode cX5_water 121 = .ok (.ireturn, 1) := by decide +kernel
theorem dX5_water_122 : decode cX5_water 122 = .ok (.aload_n 0, 1) := by decide +kernel
theorem dX5_water_123 : decode cX5_water 123 = .ok (.getfield 10, 3) := by decide +kernel
theorem dX5_water_126 : decode cX5_water 126 = .ok (.getfield 129, 3) := by decide +kernel
theorem dX5_water_129 : decode cX5_water 129 = .ok (.aload_n 0, 1) := by decide +kernel
theorem dX5_water_130 : decode cX5_water 130 = .ok (.getfield 10, 3) := by decide +kernel
theorem dX5_water_133 : decode cX5_water 133 = .ok (.iconst 1, 1) := by decide +kernel
theorem dX5_water_134 : decode cX5_water 134 = .ok (.invokevirtual 111, 3) := by decide +kernel
theorem dX5_water_137 : decode cX5_water 137 = .ok (.isub, 1) := by decide +kernel
theorem dX5_water_138 : decode cX5_water 138 = .ok (.ireturn, 1) := by decide +kernel
theorem dX5_water_139 : decode cX5_water 139 = .ok (.aload_n 0, 1) := by decide +kernel
theorem dX5_water_140 : decode cX5_water 140 = .ok (.getfield 10, 3) := by decide +kernel
theorem dX5_water_143 : decode cX5_water 143 = .ok (.getfield 132, 3) := by decide +kernel
theorem dX5_water_146 : decode cX5_water 146 = .ok (.ireturn, 1) := by decide +kernel
theorem dX5_water_147 : decode cX5_water 147 = .ok (.ldc 78, 2) := by decide +kernel
theorem dX5_water_149 : decode cX5_water 149 = .ok (.ireturn, 1) := by decide +kernel
theorem dX5_noon_0 : decode cX5_noon 0 = .ok (.iload_n 1, 1) := by decide +kernel
theorem dX5_noon_1 : decode cX5_noon 1 = .ok (.ifCond .lt 7, 3) := by decide +kernel
theorem dX5_noon_4 : decode cX5_noon 4 = .ok (.iload_n 2, 1) := by decide +kernel
theorem dX5_noon_5 : decode cX5_noon 5 = .ok (.ifCond .ge 6, 3) := by decide +kernel
theorem dX5_noon_8 : decode cX5_noon 8 = .ok (.ldc 78, 2) := by decide +kernel
theorem dX5_noon_10 : decode cX5_noon 10 = .ok (.ireturn, 1) := by decide +kernel
theorem dX5_noon_11 : decode cX5_noon 11 = .ok (.aload_n 0, 1) := by decide +kernel
theorem dX5_noon_12 : decode cX5_noon 12 = .ok (.getfield 10, 3) := by decide +kernel
theorem dX5_noon_15 : decode cX5_noon 15 = .ok (.getfield 135, 3) := by decide +kernel
theorem dX5_noon_18 : decode cX5_noon 18 = .ok (.iload_n 1, 1) := by decide +kernel
theorem dX5_noon_19 : decode cX5_noon 19 = .ok (.iload_n 2, 1) := by decide +kernel
theorem dX5_noon_20 : decode cX5_noon 20 = .ok (.invokevirtual 139, 3) := by decide +kernel
theorem dX5_noon_23 : decode cX5_noon 23 = .ok (.ifCond .ne 6, 3) := by decide +kernel
theorem dX5_noon_26 : decode cX5_noon 26 = .ok (.ldc 96, 2) := by decide +kernel
theorem dX5_noon_28 : decode cX5_noon 28 = .ok (.ireturn, 1) := by decide +kernel
theorem dX5_noon_29 : decode cX5_noon 29 = .ok (.aload_n 0, 1) := by decide +kernel
theorem dX5_noon_30 : decode cX5_noon 30 = .ok (.getfield 10, 3) := by decide +kernel
theorem dX5_noon_33 : decode cX5_noon 33 = .ok (.getfield 135, 3) := by decide +kernel
theorem dX5_noon_36 : decode cX5_noon 36 = .ok (.iload_n 1, 1) := by decide +kernel
theorem dX5_noon_37 : decode cX5_noon 37 = .ok (.iload_n 2, 1) := by decide +kernel
theorem dX5_noon_38 : decode cX5_noon 38 = .ok (.invokevirtual 144, 3) := by decide +kernel
theorem dX5_noon_41 : decode cX5_noon 41 = .ok (.sipush 10000, 3) := by decide +kernel
theorem dX5_noon_44 : decode cX5_noon 44 = .ok (.iadd, 1) := by decide +kernel
theorem dX5_noon_45 : decode cX5_noon 45 = .ok (.ireturn, 1) := by decide +kernel
theorem dX5_why_0 : decode cX5_why 0 = .ok (.aload_n 0, 1) := by decide +kernel
theorem dX5_why_1 : decode cX5_why 1 = .ok (.getfield 10, 3) := by decide +kernel
theorem dX5_why_4 : decode cX5_why 4 = .ok (.iload_n 1, 1) := by decide +kernel
theorem dX5_why_5 : decode cX5_why 5 = .ok (.invokevirtual 84, 3) := by decide +kernel
theorem dX5_why_8 : decode cX5_why 8 = .ok (.astore_n 3, 1) := by decide +kernel
theorem dX5_why_9 : decode cX5_why 9 = .ok (.aload_n 3, 1) := by decide +kernel
theorem dX5_why_10 : decode cX5_why 10 = .ok (.ifnull 10, 3) := by decide +kernel
theorem dX5_why_13 : decode cX5_why 13 = .ok (.iload_n 2, 1) := by decide +kernel
theorem dX5_why_14 : decode cX5_why 14 = .ok (.invokestatic 147, 3) := by decide +kernel
theorem dX5_why_17 : decode cX5_why 17 = .ok (.ifCond .ne 6, 3) := by decide +kernel
theorem dX5_why_20 : decode cX5_why 20 = .ok (.ldc 78, 2) := by decide +kernel
theorem dX5_why_22 : decode cX5_why 22 = .ok (.ireturn, 1) := by decide +kernel
theorem dX5_why_23 : decode cX5_why 23 = .ok (.aload_n 0, 1) := by decide +kernel
theorem dX5_why_24 : decode cX5_why 24 = .ok (.getfield 10, 3) := by decide +kernel
theorem dX5_why_27 : decode cX5_why 27 = .ok (.aload_n 3, 1) := by decide +kernel
theorem dX5_why_28 : decode cX5_why 28 = .ok (.iload_n 2, 1) := by decide +kernel
theorem dX5_why_29 : decode cX5_why 29 = .ok (.invokevirtual 150, 3) := by decide +kernel
theorem dX5_why_32 : decode cX5_why 32 = .ok (.ireturn, 1) := by decide +kernel
theorem dX5_emptyIn_0 : decode cX5_emptyIn 0 = .ok (.aload_n 0, 1) := by decide +kernel
theorem dX5_emptyIn_1 : decode cX5_emptyIn 1 = .ok (.getfield 10, 3) := by decide +kernel
theorem dX5_emptyIn_4 : decode cX5_emptyIn 4 = .ok (.iload_n 1, 1) := by decide +kernel
theorem dX5_emptyIn_5 : decode cX5_emptyIn 5 = .ok (.invokevirtual 84, 3) := by decide +kernel
theorem dX5_emptyIn_8 : decode cX5_emptyIn 8 = .ok (.ifnonnull 6, 3) := by decide +kernel
theorem dX5_emptyIn_11 : decode cX5_emptyIn 11 = .ok (.ldc 78, 2) := by decide +kernel
theorem dX5_emptyIn_13 : decode cX5_emptyIn 13 = .ok (.ireturn, 1) := by decide +kernel
theorem dX5_emptyIn_14 : decode cX5_emptyIn 14 = .ok (.aload_n 0, 1) := by decide +kernel
theorem dX5_emptyIn_15 : decode cX5_emptyIn 15 = .ok (.getfield 16, 3) := by decide +kernel
theorem dX5_emptyIn_18 : decode cX5_emptyIn 18 = .ok (.aload_n 0, 1) := by decide +kernel
theorem dX5_emptyIn_19 : decode cX5_emptyIn 19 = .ok (.getfield 10, 3) := by decide +kernel
theorem dX5_emptyIn_22 : decode cX5_emptyIn 22 = .ok (.invokevirtual 40, 3) := by decide +kernel
theorem dX5_emptyIn_25 : decode cX5_emptyIn 25 = .ok (.iconst 0, 1) := by decide +kernel
theorem dX5_emptyIn_26 : decode cX5_emptyIn 26 = .ok (.istore_n 2, 1) := by decide +kernel
theorem dX5_emptyIn_27 : decode cX5_emptyIn 27 = .ok (.iload_n 2, 1) := by decide +kernel
theorem dX5_emptyIn_28 : decode cX5_emptyIn 28 = .ok (.sipush 1000, 3) := by decide +kernel
theorem dX5_emptyIn_31 : decode cX5_emptyIn 31 = .ok (.if_icmp .gt 31, 3) := by decide +kernel
theorem dX5_emptyIn_34 : decode cX5_emptyIn 34 = .ok (.aload_n 0, 1) := by decide +kernel
theorem dX5_emptyIn_35 : decode cX5_emptyIn 35 = .ok (.getfield 16, 3) := by decide +kernel
theorem dX5_emptyIn_38 : decode cX5_emptyIn 38 = .ok (.iload_n 1, 1) := by decide +kernel
theorem dX5_emptyIn_39 : decode cX5_emptyIn 39 = .ok (.invokevirtual 154, 3) := by decide +kernel
theorem dX5_emptyIn_42 : decode cX5_emptyIn 42 = .ok (.ifCond .eq 5, 3) := by decide +kernel
theorem dX5_emptyIn_45 : decode cX5_emptyIn 45 = .ok (.iload_n 2, 1) := by decide +kernel
theorem dX5_emptyIn_46 : decode cX5_emptyIn 46 = .ok (.ireturn, 1) := by decide +kernel
theorem dX5_emptyIn_47 : decode cX5_emptyIn 47 = .ok (.aload_n 0, 1) := by decide +kernel
theorem dX5_emptyIn_48 : decode cX5_emptyIn 48 = .ok (.getfield 16, 3) := by decide +kernel
theorem dX5_emptyIn_51 : decode cX5_emptyIn 51 = .ok (.iload_n 1, 1) := by decide +kernel
theorem dX5_emptyIn_52 : decode cX5_emptyIn 52 = .ok (.invokevirtual 157, 3) := by decide +kernel
theorem dX5_emptyIn_55 : decode cX5_emptyIn 55 = .ok (.pop, 1) := by decide +kernel
theorem dX5_emptyIn_56 : decode cX5_emptyIn 56 = .ok (.iinc 2 1, 3) := by decide +kernel
theorem dX5_emptyIn_59 : decode cX5_emptyIn 59 = .ok (.goto (-32), 3) := by decide +kernel
theorem dX5_emptyIn_62 : decode cX5_emptyIn 62 = .ok (.ldc 96, 2) := by decide +kernel
theorem dX5_emptyIn_64 : decode cX5_emptyIn 64 = .ok (.ireturn, 1) := by decide +kernel
theorem dX5_noonError_0 : decode cX5_noonError 0 = .ok (.aload_n 0, 1) := by decide +kernel
theorem dX5_noonError_1 : decode cX5_noonError 1 = .ok (.getfield 10, 3) := by decide +kernel
theorem dX5_noonError_4 : decode cX5_noonError 4 = .ok (.iload_n 1, 1) := by decide +kernel
theorem dX5_noonError_5 : decode cX5_noonError 5 = .ok (.invokevirtual 84, 3) := by decide +kernel
theorem dX5_noonError_8 : decode cX5_noonError 8 = .ok (.ifnonnull 6, 3) := by decide +kernel
theorem dX5_noonError_11 : decode cX5_noonError 11 = .ok (.ldc 78, 2) := by decide +kernel
theorem dX5_noonError_13 : decode cX5_noonError 13 = .ok (.ireturn, 1) := by decide +kernel
theorem dX5_noonError_14 : decode cX5_noonError 14 = .ok (.aload_n 0, 1) := by decide +kernel
theorem dX5_noonError_15 : decode cX5_noonError 15 = .ok (.iload_n 1, 1) := by decide +kernel
theorem dX5_noonError_16 : decode cX5_noonError 16 = .ok (.iconst 0, 1) := by decide +kernel
theorem dX5_noonError_17 : decode cX5_noonError 17 = .ok (.invokevirtual 160, 3) := by decide +kernel
theorem dX5_noonError_20 : decode cX5_noonError 20 = .ok (.sipush 10000, 3) := by decide +kernel
theorem dX5_noonError_23 : decode cX5_noonError 23 = .ok (.iadd, 1) := by decide +kernel
theorem dX5_noonError_24 : decode cX5_noonError 24 = .ok (.ireturn, 1) := by decide +kernel
theorem dX5_bestWax_0 : decode cX5_bestWax 0 = .ok (.aload_n 0, 1) := by decide +kernel
theorem dX5_bestWax_1 : decode cX5_bestWax 1 = .ok (.getfield 10, 3) := by decide +kernel
theorem dX5_bestWax_4 : decode cX5_bestWax 4 = .ok (.iload_n 1, 1) := by decide +kernel
theorem dX5_bestWax_5 : decode cX5_bestWax 5 = .ok (.invokevirtual 84, 3) := by decide +kernel
theorem dX5_bestWax_8 : decode cX5_bestWax 8 = .ok (.astore_n 3, 1) := by decide +kernel
theorem dX5_bestWax_9 : decode cX5_bestWax 9 = .ok (.aload_n 3, 1) := by decide +kernel
theorem dX5_bestWax_10 : decode cX5_bestWax 10 = .ok (.ifnull 12, 3) := by decide +kernel
theorem dX5_bestWax_13 : decode cX5_bestWax 13 = .ok (.iload_n 2, 1) := by decide +kernel
theorem dX5_bestWax_14 : decode cX5_bestWax 14 = .ok (.ifCond .lt 8, 3) := by decide +kernel
theorem dX5_bestWax_17 : decode cX5_bestWax 17 = .ok (.iload_n 2, 1) := by decide +kernel
theorem dX5_bestWax_18 : decode cX5_bestWax 18 = .ok (.iconst 1, 1) := by decide +kernel
theorem dX5_bestWax_19 : decode cX5_bestWax 19 = .ok (.if_icmp .le 6, 3) := by decide +kernel
theorem dX5_bestWax_22 : decode cX5_bestWax 22 = .ok (.ldc 78, 2) := by decide +kernel
theorem dX5_bestWax_24 : decode cX5_bestWax 24 = .ok (.ireturn, 1) := by decide +kernel
theorem dX5_bestWax_25 : decode cX5_bestWax 25 = .ok (.iconst 0, 1) := by decide +kernel
theorem dX5_bestWax_26 : decode cX5_bestWax 26 = .ok (.istore 4, 2) := by decide +kernel
theorem dX5_bestWax_28 : decode cX5_bestWax 28 = .ok (.aload_n 0, 1) := by decide +kernel
theorem dX5_bestWax_29 : decode cX5_bestWax 29 = .ok (.iload_n 1, 1) := by decide +kernel
theorem dX5_bestWax_30 : decode cX5_bestWax 30 = .ok (.iconst 0, 1) := by decide +kernel
theorem dX5_bestWax_31 : decode cX5_bestWax 31 = .ok (.invokevirtual 160, 3) := by decide +kernel
theorem dX5_bestWax_34 : decode cX5_bestWax 34 = .ok (.istore 5, 2) := by decide +kernel
theorem dX5_bestWax_36 : decode cX5_bestWax 36 = .ok (.iconst 1, 1) := by decide +kernel
theorem dX5_bestWax_37 : decode cX5_bestWax 37 = .ok (.istore 6, 2) := by decide +kernel
theorem dX5_bestWax_39 : decode cX5_bestWax 39 = .ok (.iload 6, 2) := by decide +kernel
theorem dX5_bestWax_41 : decode cX5_bestWax 41 = .ok (.aload_n 3, 1) := by decide +kernel
theorem dX5_bestWax_42 : decode cX5_bestWax 42 = .ok (.getfield 163, 3) := by decide +kernel
theorem dX5_bestWax_45 : decode cX5_bestWax 45 = .ok (.if_icmp .ge 46, 3) := by decide +kernel
theorem dX5_bestWax_48 : decode cX5_bestWax 48 = .ok (.iload 6, 2) := by decide +kernel
theorem dX5_bestWax_50 : decode cX5_bestWax 50 = .ok (.bipush 60, 2) := by decide +kernel
theorem dX5_bestWax_52 : decode cX5_bestWax 52 = .ok (.if_icmp .ge 39, 3) := by decide +kernel
theorem dX5_bestWax_55 : decode cX5_bestWax 55 = .ok (.aload_n 0, 1) := by decide +kernel
theorem dX5_bestWax_56 : decode cX5_bestWax 56 = .ok (.iload_n 1, 1) := by decide +kernel
theorem dX5_bestWax_57 : decode cX5_bestWax 57 = .ok (.iload 6, 2) := by decide +kernel
theorem dX5_bestWax_59 : decode cX5_bestWax 59 = .ok (.invokevirtual 160, 3) := by decide +kernel
theorem dX5_bestWax_62 : decode cX5_bestWax 62 = .ok (.istore 7, 2) := by decide +kernel
theorem dX5_bestWax_64 : decode cX5_bestWax 64 = .ok (.iload 7, 2) := by decide +kernel
theorem dX5_bestWax_66 : decode cX5_bestWax 66 = .ok (.invokestatic 166, 3) := by decide +kernel
theorem dX5_bestWax_69 : decode cX5_bestWax 69 = .ok (.iload 5, 2) := by decide +kernel
theorem dX5_bestWax_71 : decode cX5_bestWax 71 = .ok (.invokestatic 166, 3) := by decide +kernel
theorem dX5_bestWax_74 : decode cX5_bestWax 74 = .ok (.if_icmp .ge 11, 3) := by decide +kernel
theorem dX5_bestWax_77 : decode cX5_bestWax 77 = .ok (.iload 6, 2) := by decide +kernel
theorem dX5_bestWax_79 : decode cX5_bestWax 79 = .ok (.istore 4, 2) := by decide +kernel
theorem dX5_bestWax_81 : decode cX5_bestWax 81 = .ok (.iload 7, 2) := by decide +kernel
theorem dX5_bestWax_83 : decode cX5_bestWax 83 = .ok (.istore 5, 2) := by decide +kernel
theorem dX5_bestWax_85 : decode cX5_bestWax 85 = .ok (.iinc 6 1, 3) := by decide +kernel
theorem dX5_bestWax_88 : decode cX5_bestWax 88 = .ok (.goto (-49), 3) := by decide +kernel
theorem dX5_bestWax_91 : decode cX5_bestWax 91 = .ok (.iload_n 2, 1) := by decide +kernel
theorem dX5_bestWax_92 : decode cX5_bestWax 92 = .ok (.ifCond .ne 8, 3) := by decide +kernel
theorem dX5_bestWax_95 : decode cX5_bestWax 95 = .ok (.iload 4, 2) := by decide +kernel
theorem dX5_bestWax_97 : decode cX5_bestWax 97 = .ok (.goto 9, 3) := by decide +kernel
theorem dX5_bestWax_100 : decode cX5_bestWax 100 = .ok (.iload 5, 2) := by decide +kernel
theorem dX5_bestWax_102 : decode cX5_bestWax 102 = .ok (.sipush 10000, 3) := by decide +kernel
theorem dX5_bestWax_105 : decode cX5_bestWax 105 = .ok (.iadd, 1) := by decide +kernel
theorem dX5_bestWax_106 : decode cX5_bestWax 106 = .ok (.ireturn, 1) := by decide +kernel
theorem dX5_worst_0 : decode cX5_worst 0 = .ok (.iload_n 1, 1) := by decide +kernel
theorem dX5_worst_1 : decode cX5_worst 1 = .ok (.ifCond .ge 6, 3) := by decide +kernel
theorem dX5_worst_4 : decode cX5_worst 4 = .ok (.ldc 78, 2) := by decide +kernel
theorem dX5_worst_6 : decode cX5_worst 6 = .ok (.ireturn, 1) := by decide +kernel
theorem dX5_worst_7 : decode cX5_worst 7 = .ok (.iconst 0, 1) := by decide +kernel
theorem dX5_worst_8 : decode cX5_worst 8 = .ok (.istore_n 2, 1) := by decide +kernel
theorem dX5_worst_9 : decode cX5_worst 9 = .ok (.iload_n 2, 1) := by decide +kernel
theorem dX5_worst_10 : decode cX5_worst 10 = .ok (.aload_n 0, 1) := by decide +kernel
theorem dX5_worst_11 : decode cX5_worst 11 = .ok (.getfield 10, 3) := by decide +kernel
theorem dX5_worst_14 : decode cX5_worst 14 = .ok (.getfield 79, 3) := by decide +kernel
theorem dX5_worst_17 : decode cX5_worst 17 = .ok (.if_icmp .ge 23, 3) := by decide +kernel
theorem dX5_worst_20 : decode cX5_worst 20 = .ok (.aload_n 0, 1) := by decide +kernel
theorem dX5_worst_21 : decode cX5_worst 21 = .ok (.getfield 10, 3) := by decide +kernel
theorem dX5_worst_24 : decode cX5_worst 24 = .ok (.iload_n 2, 1) := by decide +kernel
theorem dX5_worst_25 : decode cX5_worst 25 = .ok (.invokevirtual 171, 3) := by decide +kernel
theorem dX5_worst_28 : decode cX5_worst 28 = .ok (.iload_n 1, 1) := by decide +kernel
theorem dX5_worst_29 : decode cX5_worst 29 = .ok (.if_icmp .ne 5, 3) := by decide +kernel
theorem dX5_worst_32 : decode cX5_worst 32 = .ok (.iload_n 2, 1) := by decide +kernel
theorem dX5_worst_33 : decode cX5_worst 33 = .ok (.ireturn, 1) := by decide +kernel
theorem dX5_worst_34 : decode cX5_worst 34 = .ok (.iinc 2 1, 3) := by decide +kernel
theorem dX5_worst_37 : decode cX5_worst 37 = .ok (.goto (-28), 3) := by decide +kernel
theorem dX5_worst_40 : decode cX5_worst 40 = .ok (.ldc 96, 2) := by decide +kernel
theorem dX5_worst_42 : decode cX5_worst 42 = .ok (.ireturn, 1) := by decide +kernel
theorem dX5_mean_0 : decode cX5_mean 0 = .ok (.aload_n 0, 1) := by decide +kernel
theorem dX5_mean_1 : decode cX5_mean 1 = .ok (.getfield 10, 3) := by decide +kernel
theorem dX5_mean_4 : decode cX5_mean 4 = .ok (.getfield 79, 3) := by decide +kernel
theorem dX5_mean_7 : decode cX5_mean 7 = .ok (.iconst 1, 1) := by decide +kernel
theorem dX5_mean_8 : decode cX5_mean 8 = .ok (.if_icmp .ge 6, 3) := by decide +kernel
theorem dX5_mean_11 : decode cX5_mean 11 = .ok (.ldc 96, 2) := by decide +kernel
theorem dX5_mean_13 : decode cX5_mean 13 = .ok (.ireturn, 1) := by decide +kernel
theorem dX5_mean_14 : decode cX5_mean 14 = .ok (.aload_n 0, 1) := by decide +kernel
theorem dX5_mean_15 : decode cX5_mean 15 = .ok (.getfield 10, 3) := by decide +kernel
theorem dX5_mean_18 : decode cX5_mean 18 = .ok (.invokevirtual 174, 3) := by decide +kernel
theorem dX5_mean_21 : decode cX5_mean 21 = .ok (.i2f, 1) := by decide +kernel
theorem dX5_mean_22 : decode cX5_mean 22 = .ok (.aload_n 0, 1) := by decide +kernel
theorem dX5_mean_23 : decode cX5_mean 23 = .ok (.getfield 10, 3) := by decide +kernel
theorem dX5_mean_26 : decode cX5_mean 26 = .ok (.getfield 79, 3) := by decide +kernel
theorem dX5_mean_29 : decode cX5_mean 29 = .ok (.i2f, 1) := by decide +kernel
theorem dX5_mean_30 : decode cX5_mean 30 = .ok (.fdiv, 1) := by decide +kernel
theorem dX5_mean_31 : decode cX5_mean 31 = .ok (.invokestatic 177, 3) := by decide +kernel
theorem dX5_mean_34 : decode cX5_mean 34 = .ok (.ireturn, 1) := by decide +kernel
theorem dX5_count_0 : decode cX5_count 0 = .ok (.iload_n 1, 1) := by decide +kernel
theorem dX5_count_1 : decode cX5_count 1 = .ok (.tableswitch 248 0 25 #[119, 127, 135, 143, 151, 162, 173, 183, 193, 201, 209, 220, 225, 248, 248, 248, 248, 248, 248, 248, 233, 233, 233, 233, 233, 233], 119) := by decide +kernel
theorem dX5_count_120 : decode cX5_count 120 = .ok (.aload_n 0, 1) := by decide +kernel
theorem dX5_count_121 : decode cX5_count 121 = .ok (.getfield 10, 3) := by decide +kernel
theorem dX5_count_124 : decode cX5_count 124 = .ok (.getfield 181, 3) := by decide +kernel
theorem dX5_count_127 : decode cX5_count 127 = .ok (.ireturn, 1) := by decide +kernel
theorem dX5_count_128 : decode cX5_count 128 = .ok (.aload_n 0, 1) := by decide +kernel
theorem dX5_count_129 : decode cX5_count 129 = .ok (.getfield 10, 3) := by decide +kernel
theorem dX5_count_132 : decode cX5_count 132 = .ok (.getfield 79, 3) := by decide +kernel
theorem dX5_count_135 : decode cX5_count 135 = .ok (.ireturn, 1) := by decide +kernel
theorem dX5_count_136 : decode cX5_count 136 = .ok (.aload_n 0, 1) := by decide +kernel
theorem dX5_count_137 : decode cX5_count 137 = .ok (.getfield 10, 3) := by decide +kernel
theorem dX5_count_140 : decode cX5_count 140 = .ok (.invokevirtual 184, 3) := by decide +kernel
theorem dX5_count_143 : decode cX5_count 143 = .ok (.ireturn, 1) := by decide +kernel
theorem dX5_count_144 : decode cX5_count 144 = .ok (.aload_n 0, 1) := by decide +kernel
theorem dX5_count_145 : decode cX5_count 145 = .ok (.getfield 10, 3) := by decide +kernel
theorem dX5_count_148 : decode cX5_count 148 = .ok (.invokevirtual 187, 3) := by decide +kernel
theorem dX5_count_151 : decode cX5_count 151 = .ok (.ireturn, 1) := by decide +kernel
theorem dX5_count_152 : decode cX5_count 152 = .ok (.aload_n 0, 1) := by decide +kernel
theorem dX5_count_153 : decode cX5_count 153 = .ok (.getfield 10, 3) := by decide +kernel
theorem dX5_count_156 : decode cX5_count 156 = .ok (.getfield 135, 3) := by decide +kernel
theorem dX5_count_159 : decode cX5_count 159 = .ok (.getfield 190, 3) := by decide +kernel
theorem dX5_count_162 : decode cX5_count 162 = .ok (.ireturn, 1) := by decide +kernel
theorem dX5_count_163 : decode cX5_count 163 = .ok (.aload_n 0, 1) := by decide +kernel
theorem dX5_count_164 : decode cX5_count 164 = .ok (.getfield 10, 3) := by decide +kernel
theorem dX5_count_167 : decode cX5_count 167 = .ok (.getfield 135, 3) := by decide +kernel
theorem dX5_count_170 : decode cX5_count 170 = .ok (.getfield 193, 3) := by decide +kernel
theorem dX5_count_173 : decode cX5_count 173 = .ok (.ireturn, 1) := by decide +kernel
theorem dX5_count_174 : decode cX5_count 174 = .ok (.aload_n 0, 1) := by decide +kernel
theorem dX5_count_175 : decode cX5_count 175 = .ok (.getfield 10, 3) := by decide +kernel
theorem dX5_count_178 : decode cX5_count 178 = .ok (.bipush 10, 2) := by decide +kernel
theorem dX5_count_180 : decode cX5_count 180 = .ok (.invokevirtual 111, 3) := by decide +kernel
theorem dX5_count_183 : decode cX5_count 183 = .ok (.ireturn, 1) := by decide +kernel
theorem dX5_count_184 : decode cX5_count 184 = .ok (.aload_n 0, 1) := by decide +kernel
theorem dX5_count_185 : decode cX5_count 185 = .ok (.getfield 10, 3) := by decide +kernel
theorem dX5_count_188 : decode cX5_count 188 = .ok (.bipush 7, 2) := by decide +kernel
theorem dX5_count_190 : decode cX5_count 190 = .ok (.invokevirtual 111, 3) := by decide +kernel
theorem dX5_count_193 : decode cX5_count 193 = .ok (.ireturn, 1) := by decide +kernel
theorem dX5_count_194 : decode cX5_count 194 = .ok (.aload_n 0, 1) := by decide +kernel
theorem dX5_count_195 : decode cX5_count 195 = .ok (.getfield 10, 3) := by decide +kernel
theorem dX5_count_198 : decode cX5_count 198 = .ok (.invokevirtual 196, 3) := by decide +kernel
theorem dX5_count_201 : decode cX5_count 201 = .ok (.ireturn, 1) := by decide +kernel
theorem dX5_count_202 : decode cX5_count 202 = .ok (.aload_n 0, 1) := by decide +kernel
theorem dX5_count_203 : decode cX5_count 203 = .ok (.getfield 10, 3) := by decide +kernel
theorem dX5_count_206 : decode cX5_count 206 = .ok (.getfield 199, 3) := by decide +kernel
theorem dX5_count_209 : decode cX5_count 209 = .ok (.ireturn, 1) := by decide +kernel
theorem dX5_count_210 : decode cX5_count 210 = .ok (.aload_n 0, 1) := by decide +kernel
theorem dX5_count_211 : decode cX5_count 211 = .ok (.getfield 10, 3) := by decide +kernel
theorem dX5_count_214 : decode cX5_count 214 = .ok (.getfield 135, 3) := by decide +kernel
theorem dX5_count_217 : decode cX5_count 217 = .ok (.invokevirtual 202, 3) := by decide +kernel
theorem dX5_count_220 : decode cX5_count 220 = .ok (.ireturn, 1) := by decide +kernel
theorem dX5_count_221 : decode cX5_count 221 = .ok (.aload_n 0, 1) := by decide +kernel
theorem dX5_count_222 : decode cX5_count 222 = .ok (.getfield 205, 3) := by decide +kernel
theorem dX5_count_225 : decode cX5_count 225 = .ok (.ireturn, 1) := by decide +kernel
theorem dX5_count_226 : decode cX5_count 226 = .ok (.aload_n 0, 1) := by decide +kernel
theorem dX5_count_227 : decode cX5_count 227 = .ok (.getfield 36, 3) := by decide +kernel
theorem dX5_count_230 : decode cX5_count 230 = .ok (.getfield 208, 3) := by decide +kernel
theorem dX5_count_233 : decode cX5_count 233 = .ok (.ireturn, 1) := by decide +kernel
theorem dX5_count_234 : decode cX5_count 234 = .ok (.aload_n 0, 1) := by decide +kernel
theorem dX5_count_235 : decode cX5_count 235 = .ok (.getfield 10, 3) := by decide +kernel
theorem dX5_count_238 : decode cX5_count 238 = .ok (.getfield 211, 3) := by decide +kernel
theorem dX5_count_241 : decode cX5_count 241 = .ok (.iload_n 1, 1) := by decide +kernel
theorem dX5_count_242 : decode cX5_count 242 = .ok (.bipush 20, 2) := by decide +kernel
theorem dX5_count_244 : decode cX5_count 244 = .ok (.isub, 1) := by decide +kernel
theorem dX5_count_245 : decode cX5_count 245 = .ok (.invokevirtual 215, 3) := by decide +kernel
theorem dX5_count_248 : decode cX5_count 248 = .ok (.ireturn, 1) := by decide +kernel
theorem dX5_count_249 : decode cX5_count 249 = .ok (.ldc 78, 2) := by decide +kernel
theorem dX5_count_251 : decode cX5_count 251 = .ok (.ireturn, 1) := by decide +kernel
theorem dX5_undo_0 : decode cX5_undo 0 = .ok (.aload_n 0, 1) := by decide +kernel
theorem dX5_undo_1 : decode cX5_undo 1 = .ok (.getfield 205, 3) := by decide +kernel
theorem dX5_undo_4 : decode cX5_undo 4 = .ok (.iconst 1, 1) := by decide +kernel
theorem dX5_undo_5 : decode cX5_undo 5 = .ok (.if_icmp .lt 15, 3) := by decide +kernel
theorem dX5_undo_8 : decode cX5_undo 8 = .ok (.aload_n 0, 1) := by decide +kernel
theorem dX5_undo_9 : decode cX5_undo 9 = .ok (.getfield 205, 3) := by decide +kernel
theorem dX5_undo_12 : decode cX5_undo 12 = .ok (.aload_n 0, 1) := by decide +kernel
theorem dX5_undo_13 : decode cX5_undo 13 = .ok (.getfield 22, 3) := by decide +kernel
theorem dX5_undo_16 : decode cX5_undo 16 = .ok (.arraylength, 1) := by decide +kernel
theorem dX5_undo_17 : decode cX5_undo 17 = .ok (.if_icmp .le 6, 3) := by decide +kernel
theorem dX5_undo_20 : decode cX5_undo 20 = .ok (.ldc 83, 2) := by decide +kernel
theorem dX5_undo_22 : decode cX5_undo 22 = .ok (.ireturn, 1) := by decide +kernel
theorem dX5_undo_23 : decode cX5_undo 23 = .ok (.aload_n 0, 1) := by decide +kernel
theorem dX5_undo_24 : decode cX5_undo 24 = .ok (.dup, 1) := by decide +kernel
theorem dX5_undo_25 : decode cX5_undo 25 = .ok (.getfield 205, 3) := by decide +kernel
theorem dX5_undo_28 : decode cX5_undo 28 = .ok (.iconst 1, 1) := by decide +kernel
theorem dX5_undo_29 : decode cX5_undo 29 = .ok (.isub, 1) := by decide +kernel
theorem dX5_undo_30 : decode cX5_undo 30 = .ok (.putfield 205, 3) := by decide +kernel
theorem dX5_undo_33 : decode cX5_undo 33 = .ok (.aload_n 0, 1) := by decide +kernel
theorem dX5_undo_34 : decode cX5_undo 34 = .ok (.getfield 10, 3) := by decide +kernel
theorem dX5_undo_37 : decode cX5_undo 37 = .ok (.aload_n 0, 1) := by decide +kernel
theorem dX5_undo_38 : decode cX5_undo 38 = .ok (.getfield 22, 3) := by decide +kernel
theorem dX5_undo_41 : decode cX5_undo 41 = .ok (.aload_n 0, 1) := by decide +kernel
theorem dX5_undo_42 : decode cX5_undo 42 = .ok (.getfield 205, 3) := by decide +kernel
theorem dX5_undo_45 : decode cX5_undo 45 = .ok (.aaload, 1) := by decide +kernel
theorem dX5_undo_46 : decode cX5_undo 46 = .ok (.invokevirtual 40, 3) := by decide +kernel
theorem dX5_undo_49 : decode cX5_undo 49 = .ok (.aload_n 0, 1) := by decide +kernel
theorem dX5_undo_50 : decode cX5_undo 50 = .ok (.getfield 205, 3) := by decide +kernel
theorem dX5_undo_53 : decode cX5_undo 53 = .ok (.ireturn, 1) := by decide +kernel
theorem dX5_type_0 : decode cX5_type 0 = .ok (.iload_n 1, 1) := by decide +kernel
theorem dX5_type_1 : decode cX5_type 1 = .ok (.bipush 32, 2) := by decide +kernel
theorem dX5_type_3 : decode cX5_type 3 = .ok (.if_icmp .lt 9, 3) := by decide +kernel
theorem dX5_type_6 : decode cX5_type 6 = .ok (.iload_n 1, 1) := by decide +kernel
theorem dX5_type_7 : decode cX5_type 7 = .ok (.bipush 126, 2) := by decide +kernel
theorem dX5_type_9 : decode cX5_type 9 = .ok (.if_icmp .le 6, 3) := by decide +kernel
theorem dX5_type_12 : decode cX5_type 12 = .ok (.ldc 78, 2) := by decide +kernel
theorem dX5_type_14 : decode cX5_type 14 = .ok (.ireturn, 1) := by decide +kernel
theorem dX5_type_15 : decode cX5_type 15 = .ok (.aload_n 0, 1) := by decide +kernel
theorem dX5_type_16 : decode cX5_type 16 = .ok (.getfield 36, 3) := by decide +kernel
theorem dX5_type_19 : decode cX5_type 19 = .ok (.iload_n 1, 1) := by decide +kernel
theorem dX5_type_20 : decode cX5_type 20 = .ok (.i2c, 1) := by decide +kernel
theorem dX5_type_21 : decode cX5_type 21 = .ok (.invokevirtual 220, 3) := by decide +kernel
theorem dX5_type_24 : decode cX5_type 24 = .ok (.ireturn, 1) := by decide +kernel
theorem dX5_clearText_0 : decode cX5_clearText 0 = .ok (.aload_n 0, 1) := by decide +kernel
theorem dX5_clearText_1 : decode cX5_clearText 1 = .ok (.getfield 36, 3) := by decide +kernel
theorem dX5_clearText_4 : decode cX5_clearText 4 = .ok (.getfield 208, 3) := by decide +kernel
theorem dX5_clearText_7 : decode cX5_clearText 7 = .ok (.istore_n 1, 1) := by decide +kernel
theorem dX5_clearText_8 : decode cX5_clearText 8 = .ok (.aload_n 0, 1) := by decide +kernel
theorem dX5_clearText_9 : decode cX5_clearText 9 = .ok (.getfield 36, 3) := by decide +kernel
theorem dX5_clearText_12 : decode cX5_clearText 12 = .ok (.iconst 0, 1) := by decide +kernel
theorem dX5_clearText_13 : decode cX5_clearText 13 = .ok (.putfield 208, 3) := by decide +kernel
theorem dX5_clearText_16 : decode cX5_clearText 16 = .ok (.iload_n 1, 1) := by decide +kernel
theorem dX5_clearText_17 : decode cX5_clearText 17 = .ok (.ireturn, 1) := by decide +kernel
theorem dX5_fault_0 : decode cX5_fault 0 = .ok (.iload_n 1, 1) := by decide +kernel
theorem dX5_fault_1 : decode cX5_fault 1 = .ok (.ifCond .lt 8, 3) := by decide +kernel
theorem dX5_fault_4 : decode cX5_fault 4 = .ok (.iload_n 1, 1) := by decide +kernel
theorem dX5_fault_5 : decode cX5_fault 5 = .ok (.iconst 2, 1) := by decide +kernel
theorem dX5_fault_6 : decode cX5_fault 6 = .ok (.if_icmp .le 6, 3) := by decide +kernel
theorem dX5_fault_9 : decode cX5_fault 9 = .ok (.ldc 78, 2) := by decide +kernel
theorem dX5_fault_11 : decode cX5_fault 11 = .ok (.ireturn, 1) := by decide +kernel
theorem dX5_fault_12 : decode cX5_fault 12 = .ok (.aload_n 0, 1) := by decide +kernel
theorem dX5_fault_13 : decode cX5_fault 13 = .ok (.invokevirtual 224, 3) := by decide +kernel
theorem dX5_fault_16 : decode cX5_fault 16 = .ok (.pop, 1) := by decide +kernel
theorem dX5_fault_17 : decode cX5_fault 17 = .ok (.aload_n 0, 1) := by decide +kernel
theorem dX5_fault_18 : decode cX5_fault 18 = .ok (.getfield 36, 3) := by decide +kernel
theorem dX5_fault_21 : decode cX5_fault 21 = .ok (.getfield 227, 3) := by decide +kernel
theorem dX5_fault_24 : decode cX5_fault 24 = .ok (.ifCond .ne 6, 3) := by decide +kernel
theorem dX5_fault_27 : decode cX5_fault 27 = .ok (.ldc 96, 2) := by decide +kernel
theorem dX5_fault_29 : decode cX5_fault 29 = .ok (.ireturn, 1) := by decide +kernel
theorem dX5_fault_30 : decode cX5_fault 30 = .ok (.iload_n 1, 1) := by decide +kernel
theorem dX5_fault_31 : decode cX5_fault 31 = .ok (.ifCond .ne 11, 3) := by decide +kernel
theorem dX5_fault_34 : decode cX5_fault 34 = .ok (.aload_n 0, 1) := by decide +kernel
theorem dX5_fault_35 : decode cX5_fault 35 = .ok (.getfield 36, 3) := by decide +kernel
theorem dX5_fault_38 : decode cX5_fault 38 = .ok (.getfield 230, 3) := by decide +kernel
theorem dX5_fault_41 : decode cX5_fault 41 = .ok (.ireturn, 1) := by decide +kernel
theorem dX5_fault_42 : decode cX5_fault 42 = .ok (.iload_n 1, 1) := by decide +kernel
theorem dX5_fault_43 : decode cX5_fault 43 = .ok (.iconst 1, 1) := by decide +kernel
theorem dX5_fault_44 : decode cX5_fault 44 = .ok (.if_icmp .ne 13, 3) := by decide +kernel
theorem dX5_fault_47 : decode cX5_fault 47 = .ok (.aload_n 0, 1) := by decide +kernel
theorem dX5_fault_48 : decode cX5_fault 48 = .ok (.getfield 36, 3) := by decide +kernel
theorem dX5_fault_51 : decode cX5_fault 51 = .ok (.getfield 227, 3) := by decide +kernel
theorem dX5_fault_54 : decode cX5_fault 54 = .ok (.goto 10, 3) := by decide +kernel
theorem dX5_fault_57 : decode cX5_fault 57 = .ok (.aload_n 0, 1) := by decide +kernel
theorem dX5_fault_58 : decode cX5_fault 58 = .ok (.getfield 36, 3) := by decide +kernel
theorem dX5_fault_61 : decode cX5_fault 61 = .ok (.getfield 233, 3) := by decide +kernel
theorem dX5_fault_64 : decode cX5_fault 64 = .ok (.ireturn, 1) := by decide +kernel
theorem dX5_play_0 : decode cX5_play 0 = .ok (.aload_n 0, 1) := by decide +kernel
theorem dX5_play_1 : decode cX5_play 1 = .ok (.invokevirtual 224, 3) := by decide +kernel
theorem dX5_play_4 : decode cX5_play 4 = .ok (.istore_n 1, 1) := by decide +kernel
theorem dX5_play_5 : decode cX5_play 5 = .ok (.aload_n 0, 1) := by decide +kernel
theorem dX5_play_6 : decode cX5_play 6 = .ok (.getfield 36, 3) := by decide +kernel
theorem dX5_play_9 : decode cX5_play 9 = .ok (.getfield 227, 3) := by decide +kernel
theorem dX5_play_12 : decode cX5_play 12 = .ok (.ifCond .eq 6, 3) := by decide +kernel
theorem dX5_play_15 : decode cX5_play 15 = .ok (.ldc 83, 2) := by decide +kernel
theorem dX5_play_17 : decode cX5_play 17 = .ok (.ireturn, 1) := by decide +kernel
theorem dX5_play_18 : decode cX5_play 18 = .ok (.aload_n 0, 1) := by decide +kernel
theorem dX5_play_19 : decode cX5_play 19 = .ok (.getfield 19, 3) := by decide +kernel
theorem dX5_play_22 : decode cX5_play 22 = .ok (.aload_n 0, 1) := by decide +kernel
theorem dX5_play_23 : decode cX5_play 23 = .ok (.getfield 10, 3) := by decide +kernel
theorem dX5_play_26 : decode cX5_play 26 = .ok (.invokevirtual 40, 3) := by decide +kernel
theorem dX5_play_29 : decode cX5_play 29 = .ok (.aload_n 0, 1) := by decide +kernel
theorem dX5_play_30 : decode cX5_play 30 = .ok (.getfield 10, 3) := by decide +kernel
theorem dX5_play_33 : decode cX5_play 33 = .ok (.aload_n 0, 1) := by decide +kernel
theorem dX5_play_34 : decode cX5_play 34 = .ok (.getfield 16, 3) := by decide +kernel
theorem dX5_play_37 : decode cX5_play 37 = .ok (.invokevirtual 40, 3) := by decide +kernel
theorem dX5_play_40 : decode cX5_play 40 = .ok (.aload_n 0, 1) := by decide +kernel
theorem dX5_play_41 : decode cX5_play 41 = .ok (.iload_n 1, 1) := by decide +kernel
theorem dX5_play_42 : decode cX5_play 42 = .ok (.invokevirtual 48, 3) := by decide +kernel
theorem dX5_play_45 : decode cX5_play 45 = .ok (.ireturn, 1) := by decide +kernel
theorem dX5_changed_0 : decode cX5_changed 0 = .ok (.iload_n 1, 1) := by decide +kernel
theorem dX5_changed_1 : decode cX5_changed 1 = .ok (.invokestatic 236, 3) := by decide +kernel
theorem dX5_changed_4 : decode cX5_changed 4 = .ok (.ifCond .eq 5, 3) := by decide +kernel
theorem dX5_changed_7 : decode cX5_changed 7 = .ok (.iload_n 1, 1) := by decide +kernel
theorem dX5_changed_8 : decode cX5_changed 8 = .ok (.ireturn, 1) := by decide +kernel
theorem dX5_changed_9 : decode cX5_changed 9 = .ok (.aload_n 0, 1) := by decide +kernel
theorem dX5_changed_10 : decode cX5_changed 10 = .ok (.getfield 205, 3) := by decide +kernel
theorem dX5_changed_13 : decode cX5_changed 13 = .ok (.aload_n 0, 1) := by decide +kernel
theorem dX5_changed_14 : decode cX5_changed 14 = .ok (.getfield 22, 3) := by decide +kernel
theorem dX5_changed_17 : decode cX5_changed 17 = .ok (.arraylength, 1) := by decide +kernel
theorem dX5_changed_18 : decode cX5_changed 18 = .ok (.if_icmp .lt 7, 3) := by decide +kernel
theorem dX5_changed_21 : decode cX5_changed 21 = .ok (.aload_n 0, 1) := by decide +kernel
theorem dX5_changed_22 : decode cX5_changed 22 = .ok (.invokevirtual 239, 3) := by decide +kernel
theorem dX5_changed_25 : decode cX5_changed 25 = .ok (.aload_n 0, 1) := by decide +kernel
theorem dX5_changed_26 : decode cX5_changed 26 = .ok (.getfield 205, 3) := by decide +kernel
theorem dX5_changed_29 : decode cX5_changed 29 = .ok (.ifCond .lt 53, 3) := by decide +kernel
theorem dX5_changed_32 : decode cX5_changed 32 = .ok (.aload_n 0, 1) := by decide +kernel
theorem dX5_changed_33 : decode cX5_changed 33 = .ok (.getfield 205, 3) := by decide +kernel
theorem dX5_changed_36 : decode cX5_changed 36 = .ok (.aload_n 0, 1) := by decide +kernel
theorem dX5_changed_37 : decode cX5_changed 37 = .ok (.getfield 22, 3) := by decide +kernel
theorem dX5_changed_40 : decode cX5_changed 40 = .ok (.arraylength, 1) := by decide +kernel
theorem dX5_changed_41 : decode cX5_changed 41 = .ok (.if_icmp .ge 41, 3) := by decide +kernel
theorem dX5_changed_44 : decode cX5_changed 44 = .ok (.aload_n 0, 1) := by decide +kernel
theorem dX5_changed_45 : decode cX5_changed 45 = .ok (.getfield 22, 3) := by decide +kernel
theorem dX5_changed_48 : decode cX5_changed 48 = .ok (.aload_n 0, 1) := by decide +kernel
theorem dX5_changed_49 : decode cX5_changed 49 = .ok (.getfield 205, 3) := by decide +kernel
theorem dX5_changed_52 : decode cX5_changed 52 = .ok (.aaload, 1) := by decide +kernel
theorem dX5_changed_53 : decode cX5_changed 53 = .ok (.astore_n 2, 1) := by decide +kernel
theorem dX5_changed_54 : decode cX5_changed 54 = .ok (.aload_n 0, 1) := by decide +kernel
theorem dX5_changed_55 : decode cX5_changed 55 = .ok (.getfield 22, 3) := by decide +kernel
theorem dX5_changed_58 : decode cX5_changed 58 = .ok (.aload_n 0, 1) := by decide +kernel
theorem dX5_changed_59 : decode cX5_changed 59 = .ok (.getfield 205, 3) := by decide +kernel
theorem dX5_changed_62 : decode cX5_changed 62 = .ok (.aload_n 0, 1) := by decide +kernel
theorem dX5_changed_63 : decode cX5_changed 63 = .ok (.getfield 19, 3) := by decide +kernel
theorem dX5_changed_66 : decode cX5_changed 66 = .ok (.aastore, 1) := by decide +kernel
theorem dX5_changed_67 : decode cX5_changed 67 = .ok (.aload_n 0, 1) := by decide +kernel
theorem dX5_changed_68 : decode cX5_changed 68 = .ok (.aload_n 2, 1) := by decide +kernel
theorem dX5_changed_69 : decode cX5_changed 69 = .ok (.putfield 19, 3) := by decide +kernel
theorem dX5_changed_72 : decode cX5_changed 72 = .ok (.aload_n 0, 1) := by decide +kernel
theorem dX5_changed_73 : decode cX5_changed 73 = .ok (.dup, 1) := by decide +kernel
theorem dX5_changed_74 : decode cX5_changed 74 = .ok (.getfield 205, 3) := by decide +kernel
theorem dX5_changed_77 : decode cX5_changed 77 = .ok (.iconst 1, 1) := by decide +kernel
theorem dX5_changed_78 : decode cX5_changed 78 = .ok (.iadd, 1) := by decide +kernel
theorem dX5_changed_79 : decode cX5_changed 79 = .ok (.putfield 205, 3) := by decide +kernel
theorem dX5_changed_82 : decode cX5_changed 82 = .ok (.iload_n 1, 1) := by decide +kernel
theorem dX5_changed_83 : decode cX5_changed 83 = .ok (.ireturn, 1) := by decide +kernel
theorem dX5_dropOldestState_0 : decode cX5_dropOldestState 0 = .ok (.iconst 1, 1) := by decide +kernel
theorem dX5_dropOldestState_1 : decode cX5_dropOldestState 1 = .ok (.istore_n 1, 1) := by decide +kernel
theorem dX5_dropOldestState_2 : decode cX5_dropOldestState 2 = .ok (.iload_n 1, 1) := by decide +kernel
theorem dX5_dropOldestState_3 : decode cX5_dropOldestState 3 = .ok (.aload_n 0, 1) := by decide +kernel
theorem dX5_dropOldestState_4 : decode cX5_dropOldestState 4 = .ok (.getfield 22, 3) := by decide +kernel
theorem dX5_dropOldestState_7 : decode cX5_dropOldestState 7 = .ok (.arraylength, 1) := by decide +kernel
theorem dX5_dropOldestState_8 : decode cX5_dropOldestState 8 = .ok (.if_icmp .ge 39, 3) := by decide +kernel
theorem dX5_dropOldestState_11 : decode cX5_dropOldestState 11 = .ok (.aload_n 0, 1) := by decide +kernel
theorem dX5_dropOldestState_12 : decode cX5_dropOldestState 12 = .ok (.getfield 22, 3) := by decide +kernel
theorem dX5_dropOldestState_15 : decode cX5_dropOldestState 15 = .ok (.iload_n 1, 1) := by decide +kernel
theorem dX5_dropOldestState_16 : decode cX5_dropOldestState 16 = .ok (.iconst 1, 1) := by decide +kernel
theorem dX5_dropOldestState_17 : decode cX5_dropOldestState 17 = .ok (.isub, 1) := by decide +kernel
theorem dX5_dropOldestState_18 : decode cX5_dropOldestState 18 = .ok (.aaload, 1) := by decide +kernel
theorem dX5_dropOldestState_19 : decode cX5_dropOldestState 19 = .ok (.astore_n 2, 1) := by decide +kernel
theorem dX5_dropOldestState_20 : decode cX5_dropOldestState 20 = .ok (.aload_n 0, 1) := by decide +kernel
theorem dX5_dropOldestState_21 : decode cX5_dropOldestState 21 = .ok (.getfield 22, 3) := by decide +kernel
theorem dX5_dropOldestState_24 : decode cX5_dropOldestState 24 = .ok (.iload_n 1, 1) := by decide +kernel
theorem dX5_dropOldestState_25 : decode cX5_dropOldestState 25 = .ok (.iconst 1, 1) := by decide +kernel
theorem dX5_dropOldestState_26 : decode cX5_dropOldestState 26 = .ok (.isub, 1) := by decide +kernel
theorem dX5_dropOldestState_27 : decode cX5_dropOldestState 27 = .ok (.aload_n 0, 1) := by decide +kernel
theorem dX5_dropOldestState_28 : decode cX5_dropOldestState 28 = .ok (.getfield 22, 3) := by decide +kernel
theorem dX5_dropOldestState_31 : decode cX5_dropOldestState 31 = .ok (.iload_n 1, 1) := by decide +kernel
theorem dX5_dropOldestState_32 : decode cX5_dropOldestState 32 = .ok (.aaload, 1) := by decide +kernel
theorem dX5_dropOldestState_33 : decode cX5_dropOldestState 33 = .ok (.aastore, 1) := by decide +kernel
theorem dX5_dropOldestState_34 : decode cX5_dropOldestState 34 = .ok (.aload_n 0, 1) := by decide +kernel
theorem dX5_dropOldestState_35 : decode cX5_dropOldestState 35 = .ok (.getfield 22, 3) := by decide +kernel
theorem dX5_dropOldestState_38 : decode cX5_dropOldestState 38 = .ok (.iload_n 1, 1) := by decide +kernel
theorem dX5_dropOldestState_39 : decode cX5_dropOldestState 39 = .ok (.aload_n 2, 1) := by decide +kernel
theorem dX5_dropOldestState_40 : decode cX5_dropOldestState 40 = .ok (.aastore, 1) := by decide +kernel
theorem dX5_dropOldestState_41 : decode cX5_dropOldestState 41 = .ok (.iinc 1 1, 3) := by decide +kernel
theorem dX5_dropOldestState_44 : decode cX5_dropOldestState 44 = .ok (.goto (-42), 3) := by decide +kernel
theorem dX5_dropOldestState_47 : decode cX5_dropOldestState 47 = .ok (.aload_n 0, 1) := by decide +kernel
theorem dX5_dropOldestState_48 : decode cX5_dropOldestState 48 = .ok (.aload_n 0, 1) := by decide +kernel
theorem dX5_dropOldestState_49 : decode cX5_dropOldestState 49 = .ok (.getfield 22, 3) := by decide +kernel
theorem dX5_dropOldestState_52 : decode cX5_dropOldestState 52 = .ok (.arraylength, 1) := by decide +kernel
theorem dX5_dropOldestState_53 : decode cX5_dropOldestState 53 = .ok (.iconst 1, 1) := by decide +kernel
theorem dX5_dropOldestState_54 : decode cX5_dropOldestState 54 = .ok (.isub, 1) := by decide +kernel
theorem dX5_dropOldestState_55 : decode cX5_dropOldestState 55 = .ok (.putfield 205, 3) := by decide +kernel
theorem dX5_dropOldestState_58 : decode cX5_dropOldestState 58 = .ok (.return_, 1) := by decide +kernel
theorem dX5_tryOrders_0 : decode cX5_tryOrders 0 = .ok (.aload_n 0, 1) := by decide +kernel
theorem dX5_tryOrders_1 : decode cX5_tryOrders 1 = .ok (.getfield 16, 3) := by decide +kernel
theorem dX5_tryOrders_4 : decode cX5_tryOrders 4 = .ok (.aload_n 0, 1) := by decide +kernel
theorem dX5_tryOrders_5 : decode cX5_tryOrders 5 = .ok (.getfield 10, 3) := by decide +kernel
theorem dX5_tryOrders_8 : decode cX5_tryOrders 8 = .ok (.invokevirtual 40, 3) := by decide +kernel
theorem dX5_tryOrders_11 : decode cX5_tryOrders 11 = .ok (.aload_n 0, 1) := by decide +kernel
theorem dX5_tryOrders_12 : decode cX5_tryOrders 12 = .ok (.getfield 36, 3) := by decide +kernel
theorem dX5_tryOrders_15 : decode cX5_tryOrders 15 = .ok (.invokevirtual 242, 3) := by decide +kernel
theorem dX5_tryOrders_18 : decode cX5_tryOrders 18 = .ok (.iconst 0, 1) := by decide +kernel
theorem dX5_tryOrders_19 : decode cX5_tryOrders 19 = .ok (.istore_n 1, 1) := by decide +kernel
theorem dX5_tryOrders_20 : decode cX5_tryOrders 20 = .ok (.iload_n 1, 1) := by decide +kernel
theorem dX5_tryOrders_21 : decode cX5_tryOrders 21 = .ok (.bipush 60, 2) := by decide +kernel
theorem dX5_tryOrders_23 : decode cX5_tryOrders 23 = .ok (.if_icmp .ge 202, 3) := by decide +kernel
theorem dX5_tryOrders_26 : decode cX5_tryOrders 26 = .ok (.aload_n 0, 1) := by decide +kernel
theorem dX5_tryOrders_27 : decode cX5_tryOrders 27 = .ok (.getfield 36, 3) := by decide +kernel
theorem dX5_tryOrders_30 : decode cX5_tryOrders 30 = .ok (.invokevirtual 245, 3) := by decide +kernel
theorem dX5_tryOrders_33 : decode cX5_tryOrders 33 = .ok (.ifCond .eq 192, 3) := by decide +kernel
theorem dX5_tryOrders_36 : decode cX5_tryOrders 36 = .ok (.aload_n 0, 1) := by decide +kernel
theorem dX5_tryOrders_37 : decode cX5_tryOrders 37 = .ok (.getfield 36, 3) := by decide +kernel
theorem dX5_tryOrders_40 : decode cX5_tryOrders 40 = .ok (.iconst 0, 1) := by decide +kernel
theorem dX5_tryOrders_41 : decode cX5_tryOrders 41 = .ok (.invokevirtual 249, 3) := by decide +kernel
theorem dX5_tryOrders_44 : decode cX5_tryOrders 44 = .ok (.istore_n 2, 1) := by decide +kernel
theorem dX5_tryOrders_45 : decode cX5_tryOrders 45 = .ok (.aload_n 0, 1) := by decide +kernel
theorem dX5_tryOrders_46 : decode cX5_tryOrders 46 = .ok (.getfield 36, 3) := by decide +kernel
theorem dX5_tryOrders_49 : decode cX5_tryOrders 49 = .ok (.iconst 1, 1) := by decide +kernel
theorem dX5_tryOrders_50 : decode cX5_tryOrders 50 = .ok (.invokevirtual 249, 3) := by decide +kernel
theorem dX5_tryOrders_53 : decode cX5_tryOrders 53 = .ok (.istore_n 3, 1) := by decide +kernel
theorem dX5_tryOrders_54 : decode cX5_tryOrders 54 = .ok (.aload_n 0, 1) := by decide +kernel
theorem dX5_tryOrders_55 : decode cX5_tryOrders 55 = .ok (.getfield 36, 3) := by decide +kernel
theorem dX5_tryOrders_58 : decode cX5_tryOrders 58 = .ok (.getfield 252, 3) := by decide +kernel
theorem dX5_tryOrders_61 : decode cX5_tryOrders 61 = .ok (.lookupswitch 127 #[(99, 51), (112, 73), (116, 87), (119, 113), (120, 100)], 51) := by decide +kernel
theorem dX5_tryOrders_112 : decode cX5_tryOrders 112 = .ok (.aload_n 0, 1) := by decide +kernel
theorem dX5_tryOrders_113 : decode cX5_tryOrders 113 = .ok (.getfield 16, 3) := by decide +kernel
theorem dX5_tryOrders_116 : decode cX5_tryOrders 116 = .ok (.iload_n 2, 1) := by decide +kernel
theorem dX5_tryOrders_117 : decode cX5_tryOrders 117 = .ok (.iload_n 3, 1) := by decide +kernel
theorem dX5_tryOrders_118 : decode cX5_tryOrders 118 = .ok (.aload_n 0, 1) := by decide +kernel
theorem dX5_tryOrders_119 : decode cX5_tryOrders 119 = .ok (.getfield 36, 3) := by decide +kernel
theorem dX5_tryOrders_122 : decode cX5_tryOrders 122 = .ok (.iconst 2, 1) := by decide +kernel
theorem dX5_tryOrders_123 : decode cX5_tryOrders 123 = .ok (.invokevirtual 249, 3) := by decide +kernel
theorem dX5_tryOrders_126 : decode cX5_tryOrders 126 = .ok (.invokevirtual 44, 3) := by decide +kernel
theorem dX5_tryOrders_129 : decode cX5_tryOrders 129 = .ok (.istore 4, 2) := by decide +kernel
theorem dX5_tryOrders_131 : decode cX5_tryOrders 131 = .ok (.goto 68, 3) := by decide +kernel
theorem dX5_tryOrders_134 : decode cX5_tryOrders 134 = .ok (.aload_n 0, 1) := by decide +kernel
theorem dX5_tryOrders_135 : decode cX5_tryOrders 135 = .ok (.getfield 16, 3) := by decide +kernel
theorem dX5_tryOrders_138 : decode cX5_tryOrders 138 = .ok (.iload_n 2, 1) := by decide +kernel
theorem dX5_tryOrders_139 : decode cX5_tryOrders 139 = .ok (.iload_n 3, 1) := by decide +kernel
theorem dX5_tryOrders_140 : decode cX5_tryOrders 140 = .ok (.invokevirtual 56, 3) := by decide +kernel
theorem dX5_tryOrders_143 : decode cX5_tryOrders 143 = .ok (.istore 4, 2) := by decide +kernel
theorem dX5_tryOrders_145 : decode cX5_tryOrders 145 = .ok (.goto 54, 3) := by decide +kernel
theorem dX5_tryOrders_148 : decode cX5_tryOrders 148 = .ok (.aload_n 0, 1) := by decide +kernel
theorem dX5_tryOrders_149 : decode cX5_tryOrders 149 = .ok (.getfield 16, 3) := by decide +kernel
theorem dX5_tryOrders_152 : decode cX5_tryOrders 152 = .ok (.iload_n 2, 1) := by decide +kernel
theorem dX5_tryOrders_153 : decode cX5_tryOrders 153 = .ok (.invokevirtual 68, 3) := by decide +kernel
theorem dX5_tryOrders_156 : decode cX5_tryOrders 156 = .ok (.istore 4, 2) := by decide +kernel
theorem dX5_tryOrders_158 : decode cX5_tryOrders 158 = .ok (.goto 41, 3) := by decide +kernel
theorem dX5_tryOrders_161 : decode cX5_tryOrders 161 = .ok (.aload_n 0, 1) := by decide +kernel
theorem dX5_tryOrders_162 : decode cX5_tryOrders 162 = .ok (.getfield 16, 3) := by decide +kernel
theorem dX5_tryOrders_165 : decode cX5_tryOrders 165 = .ok (.iload_n 2, 1) := by decide +kernel
theorem dX5_tryOrders_166 : decode cX5_tryOrders 166 = .ok (.invokevirtual 65, 3) := by decide +kernel
theorem dX5_tryOrders_169 : decode cX5_tryOrders 169 = .ok (.istore 4, 2) := by decide +kernel
theorem dX5_tryOrders_171 : decode cX5_tryOrders 171 = .ok (.goto 28, 3) := by decide +kernel
theorem dX5_tryOrders_174 : decode cX5_tryOrders 174 = .ok (.aload_n 0, 1) := by decide +kernel
theorem dX5_tryOrders_175 : decode cX5_tryOrders 175 = .ok (.getfield 16, 3) := by decide +kernel
theorem dX5_tryOrders_178 : decode cX5_tryOrders 178 = .ok (.iload_n 2, 1) := by decide +kernel
theorem dX5_tryOrders_179 : decode cX5_tryOrders 179 = .ok (.iload_n 3, 1) := by decide +kernel
theorem dX5_tryOrders_180 : decode cX5_tryOrders 180 = .ok (.invokevirtual 59, 3) := by decide +kernel
theorem dX5_tryOrders_183 : decode cX5_tryOrders 183 = .ok (.istore 4, 2) := by decide +kernel
theorem dX5_tryOrders_185 : decode cX5_tryOrders 185 = .ok (.goto 14, 3) := by decide +kernel
theorem dX5_tryOrders_188 : decode cX5_tryOrders 188 = .ok (.aload_n 0, 1) := by decide +kernel
theorem dX5_tryOrders_189 : decode cX5_tryOrders 189 = .ok (.getfield 16, 3) := by decide +kernel
theorem dX5_tryOrders_192 : decode cX5_tryOrders 192 = .ok (.iload_n 2, 1) := by decide +kernel
theorem dX5_tryOrders_193 : decode cX5_tryOrders 193 = .ok (.iload_n 3, 1) := by decide +kernel
theorem dX5_tryOrders_194 : decode cX5_tryOrders 194 = .ok (.invokevirtual 52, 3) := by decide +kernel
theorem dX5_tryOrders_197 : decode cX5_tryOrders 197 = .ok (.istore 4, 2) := by decide +kernel
theorem dX5_tryOrders_199 : decode cX5_tryOrders 199 = .ok (.iload 4, 2) := by decide +kernel
theorem dX5_tryOrders_201 : decode cX5_tryOrders 201 = .ok (.invokestatic 236, 3) := by decide +kernel
theorem dX5_tryOrders_204 : decode cX5_tryOrders 204 = .ok (.ifCond .eq 15, 3) := by decide +kernel
theorem dX5_tryOrders_207 : decode cX5_tryOrders 207 = .ok (.aload_n 0, 1) := by decide +kernel
theorem dX5_tryOrders_208 : decode cX5_tryOrders 208 = .ok (.getfield 36, 3) := by decide +kernel
theorem dX5_tryOrders_211 : decode cX5_tryOrders 211 = .ok (.iconst 2, 1) := by decide +kernel
theorem dX5_tryOrders_212 : decode cX5_tryOrders 212 = .ok (.iload 4, 2) := by decide +kernel
theorem dX5_tryOrders_214 : decode cX5_tryOrders 214 = .ok (.invokevirtual 256, 3) := by decide +kernel
theorem dX5_tryOrders_217 : decode cX5_tryOrders 217 = .ok (.iload_n 1, 1) := by decide +kernel
theorem dX5_tryOrders_218 : decode cX5_tryOrders 218 = .ok (.ireturn, 1) := by decide +kernel
theorem dX5_tryOrders_219 : decode cX5_tryOrders 219 = .ok (.iinc 1 1, 3) := by decide +kernel
theorem dX5_tryOrders_222 : decode cX5_tryOrders 222 = .ok (.goto (-202), 3) := by decide +kernel
theorem dX5_tryOrders_225 : decode cX5_tryOrders 225 = .ok (.iload_n 1, 1) := by decide +kernel
theorem dX5_tryOrders_226 : decode cX5_tryOrders 226 = .ok (.ireturn, 1) := by decide +kernel
theorem dX5_noonErrorWith_0 : decode cX5_noonErrorWith 0 = .ok (.aload_n 0, 1) := by decide +kernel
theorem dX5_noonErrorWith_1 : decode cX5_noonErrorWith 1 = .ok (.getfield 16, 3) := by decide +kernel
theorem dX5_noonErrorWith_4 : decode cX5_noonErrorWith 4 = .ok (.aload_n 0, 1) := by decide +kernel
theorem dX5_noonErrorWith_5 : decode cX5_noonErrorWith 5 = .ok (.getfield 10, 3) := by decide +kernel
theorem dX5_noonErrorWith_8 : decode cX5_noonErrorWith 8 = .ok (.invokevirtual 40, 3) := by decide +kernel
theorem dX5_noonErrorWith_11 : decode cX5_noonErrorWith 11 = .ok (.aload_n 0, 1) := by decide +kernel
theorem dX5_noonErrorWith_12 : decode cX5_noonErrorWith 12 = .ok (.getfield 16, 3) := by decide +kernel
theorem dX5_noonErrorWith_15 : decode cX5_noonErrorWith 15 = .ok (.iload_n 1, 1) := by decide +kernel
theorem dX5_noonErrorWith_16 : decode cX5_noonErrorWith 16 = .ok (.invokevirtual 84, 3) := by decide +kernel
theorem dX5_noonErrorWith_19 : decode cX5_noonErrorWith 19 = .ok (.astore_n 3, 1) := by decide +kernel
theorem dX5_noonErrorWith_20 : decode cX5_noonErrorWith 20 = .ok (.aload_n 3, 1) := by decide +kernel
theorem dX5_noonErrorWith_21 : decode cX5_noonErrorWith 21 = .ok (.ifnonnull 5, 3) := by decide +kernel
theorem dX5_noonErrorWith_24 : decode cX5_noonErrorWith 24 = .ok (.iconst 0, 1) := by decide +kernel
theorem dX5_noonErrorWith_25 : decode cX5_noonErrorWith 25 = .ok (.ireturn, 1) := by decide +kernel
theorem dX5_noonErrorWith_26 : decode cX5_noonErrorWith 26 = .ok (.aload_n 3, 1) := by decide +kernel
theorem dX5_noonErrorWith_27 : decode cX5_noonErrorWith 27 = .ok (.dup, 1) := by decide +kernel
theorem dX5_noonErrorWith_28 : decode cX5_noonErrorWith 28 = .ok (.getfield 163, 3) := by decide +kernel
theorem dX5_noonErrorWith_31 : decode cX5_noonErrorWith 31 = .ok (.iload_n 2, 1) := by decide +kernel
theorem dX5_noonErrorWith_32 : decode cX5_noonErrorWith 32 = .ok (.isub, 1) := by decide +kernel
theorem dX5_noonErrorWith_33 : decode cX5_noonErrorWith 33 = .ok (.putfield 163, 3) := by decide +kernel
theorem dX5_noonErrorWith_36 : decode cX5_noonErrorWith 36 = .ok (.aload_n 0, 1) := by decide +kernel
theorem dX5_noonErrorWith_37 : decode cX5_noonErrorWith 37 = .ok (.getfield 16, 3) := by decide +kernel
theorem dX5_noonErrorWith_40 : decode cX5_noonErrorWith 40 = .ok (.invokevirtual 196, 3) := by decide +kernel
theorem dX5_noonErrorWith_43 : decode cX5_noonErrorWith 43 = .ok (.istore 4, 2) := by decide +kernel
theorem dX5_noonErrorWith_45 : decode cX5_noonErrorWith 45 = .ok (.iconst 0, 1) := by decide +kernel
theorem dX5_noonErrorWith_46 : decode cX5_noonErrorWith 46 = .ok (.istore 5, 2) := by decide +kernel
theorem dX5_noonErrorWith_48 : decode cX5_noonErrorWith 48 = .ok (.iload 5, 2) := by decide +kernel
theorem dX5_noonErrorWith_50 : decode cX5_noonErrorWith 50 = .ok (.iload 4, 2) := by decide +kernel
theorem dX5_noonErrorWith_52 : decode cX5_noonErrorWith 52 = .ok (.if_icmp .ge 23, 3) := by decide +kernel
theorem dX5_noonErrorWith_55 : decode cX5_noonErrorWith 55 = .ok (.aload_n 0, 1) := by decide +kernel
theorem dX5_noonErrorWith_56 : decode cX5_noonErrorWith 56 = .ok (.getfield 16, 3) := by decide +kernel
theorem dX5_noonErrorWith_59 : decode cX5_noonErrorWith 59 = .ok (.iload_n 1, 1) := by decide +kernel
theorem dX5_noonErrorWith_60 : decode cX5_noonErrorWith 60 = .ok (.invokevirtual 157, 3) := by decide +kernel
theorem dX5_noonErrorWith_63 : decode cX5_noonErrorWith 63 = .ok (.ifCond .ne 6, 3) := by decide +kernel
theorem dX5_noonErrorWith_66 : decode cX5_noonErrorWith 66 = .ok (.goto 9, 3) := by decide +kernel
theorem dX5_noonErrorWith_69 : decode cX5_noonErrorWith 69 = .ok (.iinc 5 1, 3) := by decide +kernel
theorem dX5_noonErrorWith_72 : decode cX5_noonErrorWith 72 = .ok (.goto (-24), 3) := by decide +kernel
theorem dX5_noonErrorWith_75 : decode cX5_noonErrorWith 75 = .ok (.aload_n 0, 1) := by decide +kernel
theorem dX5_noonErrorWith_76 : decode cX5_noonErrorWith 76 = .ok (.getfield 16, 3) := by decide +kernel
theorem dX5_noonErrorWith_79 : decode cX5_noonErrorWith 79 = .ok (.dup, 1) := by decide +kernel
theorem dX5_noonErrorWith_80 : decode cX5_noonErrorWith 80 = .ok (.getfield 181, 3) := by decide +kernel
theorem dX5_noonErrorWith_83 : decode cX5_noonErrorWith 83 = .ok (.iload 4, 2) := by decide +kernel
theorem dX5_noonErrorWith_85 : decode cX5_noonErrorWith 85 = .ok (.iadd, 1) := by decide +kernel
theorem dX5_noonErrorWith_86 : decode cX5_noonErrorWith 86 = .ok (.putfield 181, 3) := by decide +kernel
theorem dX5_noonErrorWith_89 : decode cX5_noonErrorWith 89 = .ok (.aload_n 0, 1) := by decide +kernel
theorem dX5_noonErrorWith_90 : decode cX5_noonErrorWith 90 = .ok (.getfield 16, 3) := by decide +kernel
theorem dX5_noonErrorWith_93 : decode cX5_noonErrorWith 93 = .ok (.aload_n 3, 1) := by decide +kernel
theorem dX5_noonErrorWith_94 : decode cX5_noonErrorWith 94 = .ok (.invokevirtual 101, 3) := by decide +kernel
theorem dX5_noonErrorWith_97 : decode cX5_noonErrorWith 97 = .ok (.ireturn, 1) := by decide +kernel
theorem dX5_isErrorCode_0 : decode cX5_isErrorCode 0 = .ok (.iload_n 0, 1) := by decide +kernel
theorem dX5_isErrorCode_1 : decode cX5_isErrorCode 1 = .ok (.ldc 78, 2) := by decide +kernel
theorem dX5_isErrorCode_3 : decode cX5_isErrorCode 3 = .ok (.if_icmp .gt 13, 3) := by decide +kernel
theorem dX5_isErrorCode_6 : decode cX5_isErrorCode 6 = .ok (.iload_n 0, 1) := by decide +kernel
theorem dX5_isErrorCode_7 : decode cX5_isErrorCode 7 = .ok (.ldc 96, 2) := by decide +kernel
theorem dX5_isErrorCode_9 : decode cX5_isErrorCode 9 = .ok (.if_icmp .lt 7, 3) := by decide +kernel
theorem dX5_isErrorCode_12 : decode cX5_isErrorCode 12 = .ok (.iconst 1, 1) := by decide +kernel
theorem dX5_isErrorCode_13 : decode cX5_isErrorCode 13 = .ok (.goto 4, 3) := by decide +kernel
theorem dX5_isErrorCode_16 : decode cX5_isErrorCode 16 = .ok (.iconst 0, 1) := by decide +kernel
theorem dX5_isErrorCode_17 : decode cX5_isErrorCode 17 = .ok (.ireturn, 1) := by decide +kernel
theorem dX5_isImage_0 : decode cX5_isImage 0 = .ok (.iload_n 1, 1) := by decide +kernel
theorem dX5_isImage_1 : decode cX5_isImage 1 = .ok (.ifCond .lt 25, 3) := by decide +kernel
theorem dX5_isImage_4 : decode cX5_isImage 4 = .ok (.iload_n 1, 1) := by decide +kernel
theorem dX5_isImage_5 : decode cX5_isImage 5 = .ok (.aload_n 0, 1) := by decide +kernel
theorem dX5_isImage_6 : decode cX5_isImage 6 = .ok (.getfield 26, 3) := by decide +kernel
theorem dX5_isImage_9 : decode cX5_isImage 9 = .ok (.arraylength, 1) := by decide +kernel
theorem dX5_isImage_10 : decode cX5_isImage 10 = .ok (.if_icmp .ge 16, 3) := by decide +kernel
theorem dX5_isImage_13 : decode cX5_isImage 13 = .ok (.iload_n 1, 1) := by decide +kernel
theorem dX5_isImage_14 : decode cX5_isImage 14 = .ok (.aload_n 0, 1) := by decide +kernel
theorem dX5_isImage_15 : decode cX5_isImage 15 = .ok (.getfield 29, 3) := by decide +kernel
theorem dX5_isImage_18 : decode cX5_isImage 18 = .ok (.arraylength, 1) := by decide +kernel
theorem dX5_isImage_19 : decode cX5_isImage 19 = .ok (.if_icmp .ge 7, 3) := by decide +kernel
theorem dX5_isImage_22 : decode cX5_isImage 22 = .ok (.iconst 1, 1) := by decide +kernel
theorem dX5_isImage_23 : decode cX5_isImage 23 = .ok (.goto 4, 3) := by decide +kernel
theorem dX5_isImage_26 : decode cX5_isImage 26 = .ok (.iconst 0, 1) := by decide +kernel
theorem dX5_isImage_27 : decode cX5_isImage 27 = .ok (.ireturn, 1) := by decide +kernel
theorem dX5_isJug_0 : decode cX5_isJug 0 = .ok (.iload_n 0, 1) := by decide +kernel
theorem dX5_isJug_1 : decode cX5_isJug 1 = .ok (.ifCond .lt 15, 3) := by decide +kernel
theorem dX5_isJug_4 : decode cX5_isJug 4 = .ok (.iload_n 0, 1) := by decide +kernel
theorem dX5_isJug_5 : decode cX5_isJug 5 = .ok (.getstatic 260, 3) := by decide +kernel
theorem dX5_isJug_8 : decode cX5_isJug 8 = .ok (.arraylength, 1) := by decide +kernel
theorem dX5_isJug_9 : decode cX5_isJug 9 = .ok (.if_icmp .ge 7, 3) := by decide +kernel
theorem dX5_isJug_12 : decode cX5_isJug 12 = .ok (.iconst 1, 1) := by decide +kernel
theorem dX5_isJug_13 : decode cX5_isJug 13 = .ok (.goto 4, 3) := by decide +kernel
theorem dX5_isJug_16 : decode cX5_isJug 16 = .ok (.iconst 0, 1) := by decide +kernel
theorem dX5_isJug_17 : decode cX5_isJug 17 = .ok (.ireturn, 1) := by decide +kernel
theorem dX5_element_0 : decode cX5_element 0 = .ok (.iload_n 1, 1) := by decide +kernel
theorem dX5_element_1 : decode cX5_element 1 = .ok (.ifCond .lt 15, 3) := by decide +kernel
theorem dX5_element_4 : decode cX5_element 4 = .ok (.iload_n 1, 1) := by decide +kernel
theorem dX5_element_5 : decode cX5_element 5 = .ok (.aload_n 0, 1) := by decide +kernel
theorem dX5_element_6 : decode cX5_element 6 = .ok (.arraylength, 1) := by decide +kernel
theorem dX5_element_7 : decode cX5_element 7 = .ok (.if_icmp .ge 9, 3) := by decide +kernel
theorem dX5_element_10 : decode cX5_element 10 = .ok (.aload_n 0, 1) := by decide +kernel
theorem dX5_element_11 : decode cX5_element 11 = .ok (.iload_n 1, 1) := by decide +kernel
theorem dX5_element_12 : decode cX5_element 12 = .ok (.iaload, 1) := by decide +kernel
theorem dX5_element_13 : decode cX5_element 13 = .ok (.goto 4, 3) := by decide +kernel
theorem dX5_element_16 : decode cX5_element 16 = .ok (.iconst 0, 1) := by decide +kernel
theorem dX5_element_17 : decode cX5_element 17 = .ok (.ireturn, 1) := by decide +kernel
theorem dX5_put_0 : decode cX5_put 0 = .ok (.iload_n 1, 1) := by decide +kernel
theorem dX5_put_1 : decode cX5_put 1 = .ok (.ifCond .lt 13, 3) := by decide +kernel
theorem dX5_put_4 : decode cX5_put 4 = .ok (.iload_n 1, 1) := by decide +kernel
theorem dX5_put_5 : decode cX5_put 5 = .ok (.aload_n 0, 1) := by decide +kernel
theorem dX5_put_6 : decode cX5_put 6 = .ok (.arraylength, 1) := by decide +kernel
theorem dX5_put_7 : decode cX5_put 7 = .ok (.if_icmp .ge 7, 3) := by decide +kernel
theorem dX5_put_10 : decode cX5_put 10 = .ok (.aload_n 0, 1) := by decide +kernel
theorem dX5_put_11 : decode cX5_put 11 = .ok (.iload_n 1, 1) := by decide +kernel
theorem dX5_put_12 : decode cX5_put 12 = .ok (.iload_n 2, 1) := by decide +kernel
theorem dX5_put_13 : decode cX5_put 13 = .ok (.iastore, 1) := by decide +kernel
theorem dX5_put_14 : decode cX5_put 14 = .ok (.return_, 1) := by decide +kernel
theorem dX5_copy_0 : decode cX5_copy 0 = .ok (.iconst 0, 1) := by decide +kernel
theorem dX5_copy_1 : decode cX5_copy 1 = .ok (.istore_n 2, 1) := by decide +kernel
theorem dX5_copy_2 : decode cX5_copy 2 = .ok (.iload_n 2, 1) := by decide +kernel
theorem dX5_copy_3 : decode cX5_copy 3 = .ok (.aload_n 0, 1) := by decide +kernel
theorem dX5_copy_4 : decode cX5_copy 4 = .ok (.arraylength, 1) := by decide +kernel
theorem dX5_copy_5 : decode cX5_copy 5 = .ok (.if_icmp .ge 21, 3) := by decide +kernel
theorem dX5_copy_8 : decode cX5_copy 8 = .ok (.iload_n 2, 1) := by decide +kernel
theorem dX5_copy_9 : decode cX5_copy 9 = .ok (.aload_n 1, 1) := by decide +kernel
theorem dX5_copy_10 : decode cX5_copy 10 = .ok (.arraylength, 1) := by decide +kernel
theorem dX5_copy_11 : decode cX5_copy 11 = .ok (.if_icmp .ge 15, 3) := by decide +kernel
theorem dX5_copy_14 : decode cX5_copy 14 = .ok (.aload_n 1, 1) := by decide +kernel
theorem dX5_copy_15 : decode cX5_copy 15 = .ok (.iload_n 2, 1) := by decide +kernel
theorem dX5_copy_16 : decode cX5_copy 16 = .ok (.aload_n 0, 1) := by decide +kernel
theorem dX5_copy_17 : decode cX5_copy 17 = .ok (.iload_n 2, 1) := by decide +kernel
theorem dX5_copy_18 : decode cX5_copy 18 = .ok (.iaload, 1) := by decide +kernel
theorem dX5_copy_19 : decode cX5_copy 19 = .ok (.iastore, 1) := by decide +kernel
theorem dX5_copy_20 : decode cX5_copy 20 = .ok (.iinc 2 1, 3) := by decide +kernel
theorem dX5_copy_23 : decode cX5_copy 23 = .ok (.goto (-21), 3) := by decide +kernel
