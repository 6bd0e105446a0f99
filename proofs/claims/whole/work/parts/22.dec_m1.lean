/-! Decode rows, laid by wip/gen/names.py -/
theorem d_M_at_0 : decode b_M_at 0 = .ok (.iload_n 0, 1) := by decide +kernel
theorem d_M_at_1 : decode b_M_at 1 = .ok (.bipush 7, 2) := by decide +kernel
theorem d_M_at_3 : decode b_M_at 3 = .ok (.imul, 1) := by decide +kernel
theorem d_M_at_4 : decode b_M_at 4 = .ok (.iload_n 1, 1) := by decide +kernel
theorem d_M_at_5 : decode b_M_at 5 = .ok (.iadd, 1) := by decide +kernel
theorem d_M_at_6 : decode b_M_at 6 = .ok (.iconst 5, 1) := by decide +kernel
theorem d_M_at_7 : decode b_M_at 7 = .ok (.imul, 1) := by decide +kernel
theorem d_M_at_8 : decode b_M_at 8 = .ok (.iload_n 2, 1) := by decide +kernel
theorem d_M_at_9 : decode b_M_at 9 = .ok (.iadd, 1) := by decide +kernel
theorem d_M_at_10 : decode b_M_at 10 = .ok (.iconst 1, 1) := by decide +kernel
theorem d_M_at_11 : decode b_M_at 11 = .ok (.isub, 1) := by decide +kernel
theorem d_M_at_12 : decode b_M_at 12 = .ok (.ireturn, 1) := by decide +kernel
theorem d_M_ear_0 : decode b_M_ear 0 = .ok (.iload_n 0, 1) := by decide +kernel
theorem d_M_ear_1 : decode b_M_ear 1 = .ok (.iconst 3, 1) := by decide +kernel
theorem d_M_ear_2 : decode b_M_ear 2 = .ok (.imul, 1) := by decide +kernel
theorem d_M_ear_3 : decode b_M_ear 3 = .ok (.iload_n 1, 1) := by decide +kernel
theorem d_M_ear_4 : decode b_M_ear 4 = .ok (.iadd, 1) := by decide +kernel
theorem d_M_ear_5 : decode b_M_ear 5 = .ok (.iconst 1, 1) := by decide +kernel
theorem d_M_ear_6 : decode b_M_ear 6 = .ok (.isub, 1) := by decide +kernel
theorem d_M_ear_7 : decode b_M_ear 7 = .ok (.bipush 35, 2) := by decide +kernel
theorem d_M_ear_9 : decode b_M_ear 9 = .ok (.imul, 1) := by decide +kernel
theorem d_M_ear_10 : decode b_M_ear 10 = .ok (.iload_n 2, 1) := by decide +kernel
theorem d_M_ear_11 : decode b_M_ear 11 = .ok (.iconst 5, 1) := by decide +kernel
theorem d_M_ear_12 : decode b_M_ear 12 = .ok (.imul, 1) := by decide +kernel
theorem d_M_ear_13 : decode b_M_ear 13 = .ok (.iadd, 1) := by decide +kernel
theorem d_M_ear_14 : decode b_M_ear 14 = .ok (.iload_n 3, 1) := by decide +kernel
theorem d_M_ear_15 : decode b_M_ear 15 = .ok (.iadd, 1) := by decide +kernel
theorem d_M_ear_16 : decode b_M_ear 16 = .ok (.iconst 1, 1) := by decide +kernel
theorem d_M_ear_17 : decode b_M_ear 17 = .ok (.isub, 1) := by decide +kernel
theorem d_M_ear_18 : decode b_M_ear 18 = .ok (.bipush 7, 2) := by decide +kernel
theorem d_M_ear_20 : decode b_M_ear 20 = .ok (.imul, 1) := by decide +kernel
theorem d_M_ear_21 : decode b_M_ear 21 = .ok (.iload 4, 2) := by decide +kernel
theorem d_M_ear_23 : decode b_M_ear 23 = .ok (.iadd, 1) := by decide +kernel
theorem d_M_ear_24 : decode b_M_ear 24 = .ok (.ireturn, 1) := by decide +kernel
theorem d_M_correct_0 : decode b_M_correct 0 = .ok (.iload_n 1, 1) := by decide +kernel
theorem d_M_correct_1 : decode b_M_correct 1 = .ok (.ifCond .lt 25, 3) := by decide +kernel
theorem d_M_correct_4 : decode b_M_correct 4 = .ok (.iload_n 1, 1) := by decide +kernel
theorem d_M_correct_5 : decode b_M_correct 5 = .ok (.aload_n 0, 1) := by decide +kernel
theorem d_M_correct_6 : decode b_M_correct 6 = .ok (.getfield 47, 3) := by decide +kernel
theorem d_M_correct_9 : decode b_M_correct 9 = .ok (.if_icmp .ge 17, 3) := by decide +kernel
theorem d_M_correct_12 : decode b_M_correct 12 = .ok (.aload_n 0, 1) := by decide +kernel
theorem d_M_correct_13 : decode b_M_correct 13 = .ok (.getfield 7, 3) := by decide +kernel
theorem d_M_correct_16 : decode b_M_correct 16 = .ok (.iload_n 1, 1) := by decide +kernel
theorem d_M_correct_17 : decode b_M_correct 17 = .ok (.iaload, 1) := by decide +kernel
theorem d_M_correct_18 : decode b_M_correct 18 = .ok (.iconst 2, 1) := by decide +kernel
theorem d_M_correct_19 : decode b_M_correct 19 = .ok (.if_icmp .eq 7, 3) := by decide +kernel
theorem d_M_correct_22 : decode b_M_correct 22 = .ok (.iconst 1, 1) := by decide +kernel
theorem d_M_correct_23 : decode b_M_correct 23 = .ok (.goto 4, 3) := by decide +kernel
theorem d_M_correct_26 : decode b_M_correct 26 = .ok (.iconst 0, 1) := by decide +kernel
theorem d_M_correct_27 : decode b_M_correct 27 = .ok (.ireturn, 1) := by decide +kernel
theorem d_M_up_0 : decode b_M_up 0 = .ok (.iload_n 1, 1) := by decide +kernel
theorem d_M_up_1 : decode b_M_up 1 = .ok (.ifCond .lt 24, 3) := by decide +kernel
theorem d_M_up_4 : decode b_M_up 4 = .ok (.iload_n 1, 1) := by decide +kernel
theorem d_M_up_5 : decode b_M_up 5 = .ok (.aload_n 0, 1) := by decide +kernel
theorem d_M_up_6 : decode b_M_up 6 = .ok (.getfield 47, 3) := by decide +kernel
theorem d_M_up_9 : decode b_M_up 9 = .ok (.if_icmp .ge 16, 3) := by decide +kernel
theorem d_M_up_12 : decode b_M_up 12 = .ok (.aload_n 0, 1) := by decide +kernel
theorem d_M_up_13 : decode b_M_up 13 = .ok (.getfield 7, 3) := by decide +kernel
theorem d_M_up_16 : decode b_M_up 16 = .ok (.iload_n 1, 1) := by decide +kernel
theorem d_M_up_17 : decode b_M_up 17 = .ok (.iaload, 1) := by decide +kernel
theorem d_M_up_18 : decode b_M_up 18 = .ok (.ifCond .ne 7, 3) := by decide +kernel
theorem d_M_up_21 : decode b_M_up 21 = .ok (.iconst 1, 1) := by decide +kernel
theorem d_M_up_22 : decode b_M_up 22 = .ok (.goto 4, 3) := by decide +kernel
theorem d_M_up_25 : decode b_M_up 25 = .ok (.iconst 0, 1) := by decide +kernel
theorem d_M_up_26 : decode b_M_up 26 = .ok (.ireturn, 1) := by decide +kernel
theorem d_M_isInstance_0 : decode b_M_isInstance 0 = .ok (.iload_n 1, 1) := by decide +kernel
theorem d_M_isInstance_1 : decode b_M_isInstance 1 = .ok (.ifCond .lt 25, 3) := by decide +kernel
theorem d_M_isInstance_4 : decode b_M_isInstance 4 = .ok (.iload_n 1, 1) := by decide +kernel
theorem d_M_isInstance_5 : decode b_M_isInstance 5 = .ok (.aload_n 0, 1) := by decide +kernel
theorem d_M_isInstance_6 : decode b_M_isInstance 6 = .ok (.getfield 47, 3) := by decide +kernel
theorem d_M_isInstance_9 : decode b_M_isInstance 9 = .ok (.if_icmp .ge 17, 3) := by decide +kernel
theorem d_M_isInstance_12 : decode b_M_isInstance 12 = .ok (.iload_n 2, 1) := by decide +kernel
theorem d_M_isInstance_13 : decode b_M_isInstance 13 = .ok (.iconst 1, 1) := by decide +kernel
theorem d_M_isInstance_14 : decode b_M_isInstance 14 = .ok (.if_icmp .lt 12, 3) := by decide +kernel
theorem d_M_isInstance_17 : decode b_M_isInstance 17 = .ok (.iload_n 2, 1) := by decide +kernel
theorem d_M_isInstance_18 : decode b_M_isInstance 18 = .ok (.iconst 5, 1) := by decide +kernel
theorem d_M_isInstance_19 : decode b_M_isInstance 19 = .ok (.if_icmp .gt 7, 3) := by decide +kernel
theorem d_M_isInstance_22 : decode b_M_isInstance 22 = .ok (.iconst 1, 1) := by decide +kernel
theorem d_M_isInstance_23 : decode b_M_isInstance 23 = .ok (.goto 4, 3) := by decide +kernel
theorem d_M_isInstance_26 : decode b_M_isInstance 26 = .ok (.iconst 0, 1) := by decide +kernel
theorem d_M_isInstance_27 : decode b_M_isInstance 27 = .ok (.ireturn, 1) := by decide +kernel
theorem d_M_payeeOf_0 : decode b_M_payeeOf 0 = .ok (.lload_n 0, 1) := by decide +kernel
theorem d_M_payeeOf_1 : decode b_M_payeeOf 1 = .ok (.ldc2_w 60, 3) := by decide +kernel
theorem d_M_payeeOf_4 : decode b_M_payeeOf 4 = .ok (.land, 1) := by decide +kernel
theorem d_M_payeeOf_5 : decode b_M_payeeOf 5 = .ok (.l2i, 1) := by decide +kernel
theorem d_M_payeeOf_6 : decode b_M_payeeOf 6 = .ok (.ireturn, 1) := by decide +kernel
theorem d_M_amountOf_0 : decode b_M_amountOf 0 = .ok (.lload_n 0, 1) := by decide +kernel
theorem d_M_amountOf_1 : decode b_M_amountOf 1 = .ok (.iconst 3, 1) := by decide +kernel
theorem d_M_amountOf_2 : decode b_M_amountOf 2 = .ok (.lshr, 1) := by decide +kernel
theorem d_M_amountOf_3 : decode b_M_amountOf 3 = .ok (.ldc2_w 62, 3) := by decide +kernel
theorem d_M_amountOf_6 : decode b_M_amountOf 6 = .ok (.land, 1) := by decide +kernel
theorem d_M_amountOf_7 : decode b_M_amountOf 7 = .ok (.l2i, 1) := by decide +kernel
theorem d_M_amountOf_8 : decode b_M_amountOf 8 = .ok (.ireturn, 1) := by decide +kernel
theorem d_M_needOf_0 : decode b_M_needOf 0 = .ok (.lload_n 0, 1) := by decide +kernel
theorem d_M_needOf_1 : decode b_M_needOf 1 = .ok (.bipush 13, 2) := by decide +kernel
theorem d_M_needOf_3 : decode b_M_needOf 3 = .ok (.iconst 3, 1) := by decide +kernel
theorem d_M_needOf_4 : decode b_M_needOf 4 = .ok (.iload_n 2, 1) := by decide +kernel
theorem d_M_needOf_5 : decode b_M_needOf 5 = .ok (.imul, 1) := by decide +kernel
theorem d_M_needOf_6 : decode b_M_needOf 6 = .ok (.iadd, 1) := by decide +kernel
theorem d_M_needOf_7 : decode b_M_needOf 7 = .ok (.lshr, 1) := by decide +kernel
theorem d_M_needOf_8 : decode b_M_needOf 8 = .ok (.ldc2_w 60, 3) := by decide +kernel
theorem d_M_needOf_11 : decode b_M_needOf 11 = .ok (.land, 1) := by decide +kernel
theorem d_M_needOf_12 : decode b_M_needOf 12 = .ok (.l2i, 1) := by decide +kernel
theorem d_M_needOf_13 : decode b_M_needOf 13 = .ok (.ireturn, 1) := by decide +kernel
theorem d_M_wellFormed_0 : decode b_M_wellFormed 0 = .ok (.aload_n 0, 1) := by decide +kernel
theorem d_M_wellFormed_1 : decode b_M_wellFormed 1 = .ok (.iload_n 3, 1) := by decide +kernel
theorem d_M_wellFormed_2 : decode b_M_wellFormed 2 = .ok (.iload 4, 2) := by decide +kernel
theorem d_M_wellFormed_4 : decode b_M_wellFormed 4 = .ok (.invokevirtual 64, 3) := by decide +kernel
theorem d_M_wellFormed_7 : decode b_M_wellFormed 7 = .ok (.ifCond .eq 17, 3) := by decide +kernel
theorem d_M_wellFormed_10 : decode b_M_wellFormed 10 = .ok (.lload_n 1, 1) := by decide +kernel
theorem d_M_wellFormed_11 : decode b_M_wellFormed 11 = .ok (.lconst 0, 1) := by decide +kernel
theorem d_M_wellFormed_12 : decode b_M_wellFormed 12 = .ok (.lcmp, 1) := by decide +kernel
theorem d_M_wellFormed_13 : decode b_M_wellFormed 13 = .ok (.ifCond .lt 11, 3) := by decide +kernel
theorem d_M_wellFormed_16 : decode b_M_wellFormed 16 = .ok (.lload_n 1, 1) := by decide +kernel
theorem d_M_wellFormed_17 : decode b_M_wellFormed 17 = .ok (.ldc2_w 68, 3) := by decide +kernel
theorem d_M_wellFormed_20 : decode b_M_wellFormed 20 = .ok (.lcmp, 1) := by decide +kernel
theorem d_M_wellFormed_21 : decode b_M_wellFormed 21 = .ok (.ifCond .lt 5, 3) := by decide +kernel
theorem d_M_wellFormed_24 : decode b_M_wellFormed 24 = .ok (.iconst 0, 1) := by decide +kernel
theorem d_M_wellFormed_25 : decode b_M_wellFormed 25 = .ok (.ireturn, 1) := by decide +kernel
theorem d_M_wellFormed_26 : decode b_M_wellFormed 26 = .ok (.lload_n 1, 1) := by decide +kernel
theorem d_M_wellFormed_27 : decode b_M_wellFormed 27 = .ok (.invokestatic 70, 3) := by decide +kernel
theorem d_M_wellFormed_30 : decode b_M_wellFormed 30 = .ok (.aload_n 0, 1) := by decide +kernel
theorem d_M_wellFormed_31 : decode b_M_wellFormed 31 = .ok (.getfield 47, 3) := by decide +kernel
theorem d_M_wellFormed_34 : decode b_M_wellFormed 34 = .ok (.if_icmp .ge 18, 3) := by decide +kernel
theorem d_M_wellFormed_37 : decode b_M_wellFormed 37 = .ok (.lload_n 1, 1) := by decide +kernel
theorem d_M_wellFormed_38 : decode b_M_wellFormed 38 = .ok (.invokestatic 70, 3) := by decide +kernel
theorem d_M_wellFormed_41 : decode b_M_wellFormed 41 = .ok (.iload_n 3, 1) := by decide +kernel
theorem d_M_wellFormed_42 : decode b_M_wellFormed 42 = .ok (.if_icmp .eq 10, 3) := by decide +kernel
theorem d_M_wellFormed_45 : decode b_M_wellFormed 45 = .ok (.lload_n 1, 1) := by decide +kernel
theorem d_M_wellFormed_46 : decode b_M_wellFormed 46 = .ok (.invokestatic 74, 3) := by decide +kernel
theorem d_M_wellFormed_49 : decode b_M_wellFormed 49 = .ok (.ifCond .ne 5, 3) := by decide +kernel
theorem d_M_wellFormed_52 : decode b_M_wellFormed 52 = .ok (.iconst 0, 1) := by decide +kernel
theorem d_M_wellFormed_53 : decode b_M_wellFormed 53 = .ok (.ireturn, 1) := by decide +kernel
theorem d_M_wellFormed_54 : decode b_M_wellFormed 54 = .ok (.iconst 0, 1) := by decide +kernel
theorem d_M_wellFormed_55 : decode b_M_wellFormed 55 = .ok (.istore 5, 2) := by decide +kernel
theorem d_M_wellFormed_57 : decode b_M_wellFormed 57 = .ok (.iload 5, 2) := by decide +kernel
theorem d_M_wellFormed_59 : decode b_M_wellFormed 59 = .ok (.bipush 7, 2) := by decide +kernel
theorem d_M_wellFormed_61 : decode b_M_wellFormed 61 = .ok (.if_icmp .ge 45, 3) := by decide +kernel
theorem d_M_wellFormed_64 : decode b_M_wellFormed 64 = .ok (.lload_n 1, 1) := by decide +kernel
theorem d_M_wellFormed_65 : decode b_M_wellFormed 65 = .ok (.iload 5, 2) := by decide +kernel
theorem d_M_wellFormed_67 : decode b_M_wellFormed 67 = .ok (.invokestatic 77, 3) := by decide +kernel
theorem d_M_wellFormed_70 : decode b_M_wellFormed 70 = .ok (.istore 6, 2) := by decide +kernel
theorem d_M_wellFormed_72 : decode b_M_wellFormed 72 = .ok (.iload 6, 2) := by decide +kernel
theorem d_M_wellFormed_74 : decode b_M_wellFormed 74 = .ok (.iconst 5, 1) := by decide +kernel
theorem d_M_wellFormed_75 : decode b_M_wellFormed 75 = .ok (.if_icmp .gt 23, 3) := by decide +kernel
theorem d_M_wellFormed_78 : decode b_M_wellFormed 78 = .ok (.iload 6, 2) := by decide +kernel
theorem d_M_wellFormed_80 : decode b_M_wellFormed 80 = .ok (.ifCond .le 20, 3) := by decide +kernel
theorem d_M_wellFormed_83 : decode b_M_wellFormed 83 = .ok (.iload 5, 2) := by decide +kernel
theorem d_M_wellFormed_85 : decode b_M_wellFormed 85 = .ok (.iload_n 3, 1) := by decide +kernel
theorem d_M_wellFormed_86 : decode b_M_wellFormed 86 = .ok (.if_icmp .eq 12, 3) := by decide +kernel
theorem d_M_wellFormed_89 : decode b_M_wellFormed 89 = .ok (.iload 5, 2) := by decide +kernel
theorem d_M_wellFormed_91 : decode b_M_wellFormed 91 = .ok (.aload_n 0, 1) := by decide +kernel
theorem d_M_wellFormed_92 : decode b_M_wellFormed 92 = .ok (.getfield 47, 3) := by decide +kernel
theorem d_M_wellFormed_95 : decode b_M_wellFormed 95 = .ok (.if_icmp .lt 5, 3) := by decide +kernel
theorem d_M_wellFormed_98 : decode b_M_wellFormed 98 = .ok (.iconst 0, 1) := by decide +kernel
theorem d_M_wellFormed_99 : decode b_M_wellFormed 99 = .ok (.ireturn, 1) := by decide +kernel
theorem d_M_wellFormed_100 : decode b_M_wellFormed 100 = .ok (.iinc 5 1, 3) := by decide +kernel
theorem d_M_wellFormed_103 : decode b_M_wellFormed 103 = .ok (.goto (-46), 3) := by decide +kernel
theorem d_M_wellFormed_106 : decode b_M_wellFormed 106 = .ok (.iconst 1, 1) := by decide +kernel
theorem d_M_wellFormed_107 : decode b_M_wellFormed 107 = .ok (.ireturn, 1) := by decide +kernel
theorem d_M_isMark_0 : decode b_M_isMark 0 = .ok (.lload_n 1, 1) := by decide +kernel
theorem d_M_isMark_1 : decode b_M_isMark 1 = .ok (.lconst 0, 1) := by decide +kernel
theorem d_M_isMark_2 : decode b_M_isMark 2 = .ok (.lcmp, 1) := by decide +kernel
theorem d_M_isMark_3 : decode b_M_isMark 3 = .ok (.ifCond .lt 16, 3) := by decide +kernel
theorem d_M_isMark_6 : decode b_M_isMark 6 = .ok (.lload_n 1, 1) := by decide +kernel
theorem d_M_isMark_7 : decode b_M_isMark 7 = .ok (.lconst 1, 1) := by decide +kernel
theorem d_M_isMark_8 : decode b_M_isMark 8 = .ok (.iconst 3, 1) := by decide +kernel
theorem d_M_isMark_9 : decode b_M_isMark 9 = .ok (.aload_n 0, 1) := by decide +kernel
theorem d_M_isMark_10 : decode b_M_isMark 10 = .ok (.getfield 47, 3) := by decide +kernel
theorem d_M_isMark_13 : decode b_M_isMark 13 = .ok (.imul, 1) := by decide +kernel
theorem d_M_isMark_14 : decode b_M_isMark 14 = .ok (.lshl, 1) := by decide +kernel
theorem d_M_isMark_15 : decode b_M_isMark 15 = .ok (.lcmp, 1) := by decide +kernel
theorem d_M_isMark_16 : decode b_M_isMark 16 = .ok (.ifCond .lt 5, 3) := by decide +kernel
theorem d_M_isMark_19 : decode b_M_isMark 19 = .ok (.iconst 0, 1) := by decide +kernel
theorem d_M_isMark_20 : decode b_M_isMark 20 = .ok (.ireturn, 1) := by decide +kernel
theorem d_M_isMark_21 : decode b_M_isMark 21 = .ok (.iconst 0, 1) := by decide +kernel
theorem d_M_isMark_22 : decode b_M_isMark 22 = .ok (.istore_n 3, 1) := by decide +kernel
theorem d_M_isMark_23 : decode b_M_isMark 23 = .ok (.iload_n 3, 1) := by decide +kernel
theorem d_M_isMark_24 : decode b_M_isMark 24 = .ok (.aload_n 0, 1) := by decide +kernel
theorem d_M_isMark_25 : decode b_M_isMark 25 = .ok (.getfield 47, 3) := by decide +kernel
theorem d_M_isMark_28 : decode b_M_isMark 28 = .ok (.if_icmp .ge 27, 3) := by decide +kernel
theorem d_M_isMark_31 : decode b_M_isMark 31 = .ok (.lload_n 1, 1) := by decide +kernel
theorem d_M_isMark_32 : decode b_M_isMark 32 = .ok (.iconst 3, 1) := by decide +kernel
theorem d_M_isMark_33 : decode b_M_isMark 33 = .ok (.iload_n 3, 1) := by decide +kernel
theorem d_M_isMark_34 : decode b_M_isMark 34 = .ok (.imul, 1) := by decide +kernel
theorem d_M_isMark_35 : decode b_M_isMark 35 = .ok (.lshr, 1) := by decide +kernel
theorem d_M_isMark_36 : decode b_M_isMark 36 = .ok (.ldc2_w 60, 3) := by decide +kernel
theorem d_M_isMark_39 : decode b_M_isMark 39 = .ok (.land, 1) := by decide +kernel
theorem d_M_isMark_40 : decode b_M_isMark 40 = .ok (.ldc2_w 81, 3) := by decide +kernel
theorem d_M_isMark_43 : decode b_M_isMark 43 = .ok (.lcmp, 1) := by decide +kernel
theorem d_M_isMark_44 : decode b_M_isMark 44 = .ok (.ifCond .le 5, 3) := by decide +kernel
theorem d_M_isMark_47 : decode b_M_isMark 47 = .ok (.iconst 0, 1) := by decide +kernel
theorem d_M_isMark_48 : decode b_M_isMark 48 = .ok (.ireturn, 1) := by decide +kernel
theorem d_M_isMark_49 : decode b_M_isMark 49 = .ok (.iinc 3 1, 3) := by decide +kernel
theorem d_M_isMark_52 : decode b_M_isMark 52 = .ok (.goto (-29), 3) := by decide +kernel
theorem d_M_isMark_55 : decode b_M_isMark 55 = .ok (.iconst 1, 1) := by decide +kernel
theorem d_M_isMark_56 : decode b_M_isMark 56 = .ok (.ireturn, 1) := by decide +kernel
theorem d_M_count_0 : decode b_M_count 0 = .ok (.iconst 0, 1) := by decide +kernel
theorem d_M_count_1 : decode b_M_count 1 = .ok (.istore_n 3, 1) := by decide +kernel
theorem d_M_count_2 : decode b_M_count 2 = .ok (.iconst 1, 1) := by decide +kernel
theorem d_M_count_3 : decode b_M_count 3 = .ok (.istore 4, 2) := by decide +kernel
theorem d_M_count_5 : decode b_M_count 5 = .ok (.iload 4, 2) := by decide +kernel
theorem d_M_count_7 : decode b_M_count 7 = .ok (.iconst 5, 1) := by decide +kernel
theorem d_M_count_8 : decode b_M_count 8 = .ok (.if_icmp .gt 29, 3) := by decide +kernel
theorem d_M_count_11 : decode b_M_count 11 = .ok (.aload_n 0, 1) := by decide +kernel
theorem d_M_count_12 : decode b_M_count 12 = .ok (.getfield 29, 3) := by decide +kernel
theorem d_M_count_15 : decode b_M_count 15 = .ok (.iload_n 1, 1) := by decide +kernel
theorem d_M_count_16 : decode b_M_count 16 = .ok (.iload_n 2, 1) := by decide +kernel
theorem d_M_count_17 : decode b_M_count 17 = .ok (.iload 4, 2) := by decide +kernel
theorem d_M_count_19 : decode b_M_count 19 = .ok (.invokestatic 83, 3) := by decide +kernel
theorem d_M_count_22 : decode b_M_count 22 = .ok (.laload, 1) := by decide +kernel
theorem d_M_count_23 : decode b_M_count 23 = .ok (.lconst 0, 1) := by decide +kernel
theorem d_M_count_24 : decode b_M_count 24 = .ok (.lcmp, 1) := by decide +kernel
theorem d_M_count_25 : decode b_M_count 25 = .ok (.ifCond .eq 6, 3) := by decide +kernel
theorem d_M_count_28 : decode b_M_count 28 = .ok (.iinc 3 1, 3) := by decide +kernel
theorem d_M_count_31 : decode b_M_count 31 = .ok (.iinc 4 1, 3) := by decide +kernel
theorem d_M_count_34 : decode b_M_count 34 = .ok (.goto (-29), 3) := by decide +kernel
theorem d_M_count_37 : decode b_M_count 37 = .ok (.iload_n 3, 1) := by decide +kernel
theorem d_M_count_38 : decode b_M_count 38 = .ok (.ireturn, 1) := by decide +kernel
theorem d_M_worth_0 : decode b_M_worth 0 = .ok (.aload_n 0, 1) := by decide +kernel
theorem d_M_worth_1 : decode b_M_worth 1 = .ok (.getfield 56, 3) := by decide +kernel
theorem d_M_worth_4 : decode b_M_worth 4 = .ok (.lstore_n 3, 1) := by decide +kernel
theorem d_M_worth_5 : decode b_M_worth 5 = .ok (.iconst 0, 1) := by decide +kernel
theorem d_M_worth_6 : decode b_M_worth 6 = .ok (.istore 5, 2) := by decide +kernel
theorem d_M_worth_8 : decode b_M_worth 8 = .ok (.iload 5, 2) := by decide +kernel
theorem d_M_worth_10 : decode b_M_worth 10 = .ok (.aload_n 0, 1) := by decide +kernel
theorem d_M_worth_11 : decode b_M_worth 11 = .ok (.getfield 47, 3) := by decide +kernel
theorem d_M_worth_14 : decode b_M_worth 14 = .ok (.if_icmp .ge 86, 3) := by decide +kernel
theorem d_M_worth_17 : decode b_M_worth 17 = .ok (.iconst 1, 1) := by decide +kernel
theorem d_M_worth_18 : decode b_M_worth 18 = .ok (.istore 6, 2) := by decide +kernel
theorem d_M_worth_20 : decode b_M_worth 20 = .ok (.iload 6, 2) := by decide +kernel
theorem d_M_worth_22 : decode b_M_worth 22 = .ok (.iconst 5, 1) := by decide +kernel
theorem d_M_worth_23 : decode b_M_worth 23 = .ok (.if_icmp .gt 71, 3) := by decide +kernel
theorem d_M_worth_26 : decode b_M_worth 26 = .ok (.aload_n 0, 1) := by decide +kernel
theorem d_M_worth_27 : decode b_M_worth 27 = .ok (.getfield 29, 3) := by decide +kernel
theorem d_M_worth_30 : decode b_M_worth 30 = .ok (.iload_n 1, 1) := by decide +kernel
theorem d_M_worth_31 : decode b_M_worth 31 = .ok (.iload 5, 2) := by decide +kernel
theorem d_M_worth_33 : decode b_M_worth 33 = .ok (.iload 6, 2) := by decide +kernel
theorem d_M_worth_35 : decode b_M_worth 35 = .ok (.invokestatic 83, 3) := by decide +kernel
theorem d_M_worth_38 : decode b_M_worth 38 = .ok (.laload, 1) := by decide +kernel
theorem d_M_worth_39 : decode b_M_worth 39 = .ok (.lstore 7, 2) := by decide +kernel
theorem d_M_worth_41 : decode b_M_worth 41 = .ok (.lload 7, 2) := by decide +kernel
theorem d_M_worth_43 : decode b_M_worth 43 = .ok (.lconst 0, 1) := by decide +kernel
theorem d_M_worth_44 : decode b_M_worth 44 = .ok (.lcmp, 1) := by decide +kernel
theorem d_M_worth_45 : decode b_M_worth 45 = .ok (.ifCond .eq 18, 3) := by decide +kernel
theorem d_M_worth_48 : decode b_M_worth 48 = .ok (.iload 5, 2) := by decide +kernel
theorem d_M_worth_50 : decode b_M_worth 50 = .ok (.iload_n 2, 1) := by decide +kernel
theorem d_M_worth_51 : decode b_M_worth 51 = .ok (.if_icmp .ne 12, 3) := by decide +kernel
theorem d_M_worth_54 : decode b_M_worth 54 = .ok (.lload_n 3, 1) := by decide +kernel
theorem d_M_worth_55 : decode b_M_worth 55 = .ok (.lload 7, 2) := by decide +kernel
theorem d_M_worth_57 : decode b_M_worth 57 = .ok (.invokestatic 74, 3) := by decide +kernel
theorem d_M_worth_60 : decode b_M_worth 60 = .ok (.i2l, 1) := by decide +kernel
theorem d_M_worth_61 : decode b_M_worth 61 = .ok (.lsub, 1) := by decide +kernel
theorem d_M_worth_62 : decode b_M_worth 62 = .ok (.lstore_n 3, 1) := by decide +kernel
theorem d_M_worth_63 : decode b_M_worth 63 = .ok (.lload 7, 2) := by decide +kernel
theorem d_M_worth_65 : decode b_M_worth 65 = .ok (.lconst 0, 1) := by decide +kernel
theorem d_M_worth_66 : decode b_M_worth 66 = .ok (.lcmp, 1) := by decide +kernel
theorem d_M_worth_67 : decode b_M_worth 67 = .ok (.ifCond .eq 21, 3) := by decide +kernel
theorem d_M_worth_70 : decode b_M_worth 70 = .ok (.lload 7, 2) := by decide +kernel
theorem d_M_worth_72 : decode b_M_worth 72 = .ok (.invokestatic 70, 3) := by decide +kernel
theorem d_M_worth_75 : decode b_M_worth 75 = .ok (.iload_n 2, 1) := by decide +kernel
theorem d_M_worth_76 : decode b_M_worth 76 = .ok (.if_icmp .ne 12, 3) := by decide +kernel
theorem d_M_worth_79 : decode b_M_worth 79 = .ok (.lload_n 3, 1) := by decide +kernel
theorem d_M_worth_80 : decode b_M_worth 80 = .ok (.lload 7, 2) := by decide +kernel
theorem d_M_worth_82 : decode b_M_worth 82 = .ok (.invokestatic 74, 3) := by decide +kernel
theorem d_M_worth_85 : decode b_M_worth 85 = .ok (.i2l, 1) := by decide +kernel
theorem d_M_worth_86 : decode b_M_worth 86 = .ok (.ladd, 1) := by decide +kernel
theorem d_M_worth_87 : decode b_M_worth 87 = .ok (.lstore_n 3, 1) := by decide +kernel
theorem d_M_worth_88 : decode b_M_worth 88 = .ok (.iinc 6 1, 3) := by decide +kernel
theorem d_M_worth_91 : decode b_M_worth 91 = .ok (.goto (-71), 3) := by decide +kernel
theorem d_M_worth_94 : decode b_M_worth 94 = .ok (.iinc 5 1, 3) := by decide +kernel
theorem d_M_worth_97 : decode b_M_worth 97 = .ok (.goto (-89), 3) := by decide +kernel
theorem d_M_worth_100 : decode b_M_worth 100 = .ok (.lload_n 3, 1) := by decide +kernel
theorem d_M_worth_101 : decode b_M_worth 101 = .ok (.lreturn, 1) := by decide +kernel
theorem d_M_valid_0 : decode b_M_valid 0 = .ok (.iconst 0, 1) := by decide +kernel
theorem d_M_valid_1 : decode b_M_valid 1 = .ok (.istore 5, 2) := by decide +kernel
theorem d_M_valid_3 : decode b_M_valid 3 = .ok (.iload 5, 2) := by decide +kernel
theorem d_M_valid_5 : decode b_M_valid 5 = .ok (.aload_n 0, 1) := by decide +kernel
theorem d_M_valid_6 : decode b_M_valid 6 = .ok (.getfield 47, 3) := by decide +kernel
theorem d_M_valid_9 : decode b_M_valid 9 = .ok (.if_icmp .ge 27, 3) := by decide +kernel
theorem d_M_valid_12 : decode b_M_valid 12 = .ok (.lload_n 3, 1) := by decide +kernel
theorem d_M_valid_13 : decode b_M_valid 13 = .ok (.iload 5, 2) := by decide +kernel
theorem d_M_valid_15 : decode b_M_valid 15 = .ok (.invokestatic 77, 3) := by decide +kernel
theorem d_M_valid_18 : decode b_M_valid 18 = .ok (.aload_n 0, 1) := by decide +kernel
theorem d_M_valid_19 : decode b_M_valid 19 = .ok (.iload_n 1, 1) := by decide +kernel
theorem d_M_valid_20 : decode b_M_valid 20 = .ok (.iload 5, 2) := by decide +kernel
theorem d_M_valid_22 : decode b_M_valid 22 = .ok (.invokevirtual 87, 3) := by decide +kernel
theorem d_M_valid_25 : decode b_M_valid 25 = .ok (.if_icmp .le 5, 3) := by decide +kernel
theorem d_M_valid_28 : decode b_M_valid 28 = .ok (.iconst 0, 1) := by decide +kernel
theorem d_M_valid_29 : decode b_M_valid 29 = .ok (.ireturn, 1) := by decide +kernel
theorem d_M_valid_30 : decode b_M_valid 30 = .ok (.iinc 5 1, 3) := by decide +kernel
theorem d_M_valid_33 : decode b_M_valid 33 = .ok (.goto (-30), 3) := by decide +kernel
theorem d_M_valid_36 : decode b_M_valid 36 = .ok (.aload_n 0, 1) := by decide +kernel
theorem d_M_valid_37 : decode b_M_valid 37 = .ok (.iload_n 1, 1) := by decide +kernel
theorem d_M_valid_38 : decode b_M_valid 38 = .ok (.iload_n 2, 1) := by decide +kernel
theorem d_M_valid_39 : decode b_M_valid 39 = .ok (.invokevirtual 91, 3) := by decide +kernel
theorem d_M_valid_42 : decode b_M_valid 42 = .ok (.lload_n 3, 1) := by decide +kernel
theorem d_M_valid_43 : decode b_M_valid 43 = .ok (.invokestatic 74, 3) := by decide +kernel
theorem d_M_valid_46 : decode b_M_valid 46 = .ok (.i2l, 1) := by decide +kernel
theorem d_M_valid_47 : decode b_M_valid 47 = .ok (.lcmp, 1) := by decide +kernel
theorem d_M_valid_48 : decode b_M_valid 48 = .ok (.ifCond .lt 7, 3) := by decide +kernel
theorem d_M_valid_51 : decode b_M_valid 51 = .ok (.iconst 1, 1) := by decide +kernel
theorem d_M_valid_52 : decode b_M_valid 52 = .ok (.goto 4, 3) := by decide +kernel
theorem d_M_valid_55 : decode b_M_valid 55 = .ok (.iconst 0, 1) := by decide +kernel
theorem d_M_valid_56 : decode b_M_valid 56 = .ok (.ireturn, 1) := by decide +kernel
theorem d_M_fall_0 : decode b_M_fall 0 = .ok (.aload_n 0, 1) := by decide +kernel
theorem d_M_fall_1 : decode b_M_fall 1 = .ok (.getfield 7, 3) := by decide +kernel
theorem d_M_fall_4 : decode b_M_fall 4 = .ok (.iload_n 1, 1) := by decide +kernel
theorem d_M_fall_5 : decode b_M_fall 5 = .ok (.iconst 1, 1) := by decide +kernel
theorem d_M_fall_6 : decode b_M_fall 6 = .ok (.iastore, 1) := by decide +kernel
theorem d_M_fall_7 : decode b_M_fall 7 = .ok (.aload_n 0, 1) := by decide +kernel
theorem d_M_fall_8 : decode b_M_fall 8 = .ok (.getfield 13, 3) := by decide +kernel
theorem d_M_fall_11 : decode b_M_fall 11 = .ok (.iload_n 1, 1) := by decide +kernel
theorem d_M_fall_12 : decode b_M_fall 12 = .ok (.iconst 0, 1) := by decide +kernel
theorem d_M_fall_13 : decode b_M_fall 13 = .ok (.iastore, 1) := by decide +kernel
theorem d_M_fall_14 : decode b_M_fall 14 = .ok (.sipush 735, 3) := by decide +kernel
theorem d_M_fall_17 : decode b_M_fall 17 = .ok (.iload_n 1, 1) := by decide +kernel
theorem d_M_fall_18 : decode b_M_fall 18 = .ok (.imul, 1) := by decide +kernel
theorem d_M_fall_19 : decode b_M_fall 19 = .ok (.istore_n 2, 1) := by decide +kernel
theorem d_M_fall_20 : decode b_M_fall 20 = .ok (.iload_n 2, 1) := by decide +kernel
theorem d_M_fall_21 : decode b_M_fall 21 = .ok (.sipush 735, 3) := by decide +kernel
theorem d_M_fall_24 : decode b_M_fall 24 = .ok (.iload_n 1, 1) := by decide +kernel
theorem d_M_fall_25 : decode b_M_fall 25 = .ok (.imul, 1) := by decide +kernel
theorem d_M_fall_26 : decode b_M_fall 26 = .ok (.sipush 735, 3) := by decide +kernel
theorem d_M_fall_29 : decode b_M_fall 29 = .ok (.iadd, 1) := by decide +kernel
theorem d_M_fall_30 : decode b_M_fall 30 = .ok (.if_icmp .ge 16, 3) := by decide +kernel
theorem d_M_fall_33 : decode b_M_fall 33 = .ok (.aload_n 0, 1) := by decide +kernel
theorem d_M_fall_34 : decode b_M_fall 34 = .ok (.getfield 38, 3) := by decide +kernel
theorem d_M_fall_37 : decode b_M_fall 37 = .ok (.iload_n 2, 1) := by decide +kernel
theorem d_M_fall_38 : decode b_M_fall 38 = .ok (.lconst 0, 1) := by decide +kernel
theorem d_M_fall_39 : decode b_M_fall 39 = .ok (.lastore, 1) := by decide +kernel
theorem d_M_fall_40 : decode b_M_fall 40 = .ok (.iinc 2 1, 3) := by decide +kernel
theorem d_M_fall_43 : decode b_M_fall 43 = .ok (.goto (-23), 3) := by decide +kernel
theorem d_M_fall_46 : decode b_M_fall 46 = .ok (.bipush 7, 2) := by decide +kernel
theorem d_M_fall_48 : decode b_M_fall 48 = .ok (.iload_n 1, 1) := by decide +kernel
theorem d_M_fall_49 : decode b_M_fall 49 = .ok (.imul, 1) := by decide +kernel
theorem d_M_fall_50 : decode b_M_fall 50 = .ok (.istore_n 2, 1) := by decide +kernel
theorem d_M_fall_51 : decode b_M_fall 51 = .ok (.iload_n 2, 1) := by decide +kernel
theorem d_M_fall_52 : decode b_M_fall 52 = .ok (.bipush 7, 2) := by decide +kernel
theorem d_M_fall_54 : decode b_M_fall 54 = .ok (.iload_n 1, 1) := by decide +kernel
theorem d_M_fall_55 : decode b_M_fall 55 = .ok (.imul, 1) := by decide +kernel
theorem d_M_fall_56 : decode b_M_fall 56 = .ok (.bipush 7, 2) := by decide +kernel
theorem d_M_fall_58 : decode b_M_fall 58 = .ok (.iadd, 1) := by decide +kernel
theorem d_M_fall_59 : decode b_M_fall 59 = .ok (.if_icmp .ge 16, 3) := by decide +kernel
theorem d_M_fall_62 : decode b_M_fall 62 = .ok (.aload_n 0, 1) := by decide +kernel
theorem d_M_fall_63 : decode b_M_fall 63 = .ok (.getfield 41, 3) := by decide +kernel
theorem d_M_fall_66 : decode b_M_fall 66 = .ok (.iload_n 2, 1) := by decide +kernel
theorem d_M_fall_67 : decode b_M_fall 67 = .ok (.iconst 0, 1) := by decide +kernel
theorem d_M_fall_68 : decode b_M_fall 68 = .ok (.iastore, 1) := by decide +kernel
theorem d_M_fall_69 : decode b_M_fall 69 = .ok (.iinc 2 1, 3) := by decide +kernel
theorem d_M_fall_72 : decode b_M_fall 72 = .ok (.goto (-21), 3) := by decide +kernel
theorem d_M_fall_75 : decode b_M_fall 75 = .ok (.bipush 35, 2) := by decide +kernel
theorem d_M_fall_77 : decode b_M_fall 77 = .ok (.iload_n 1, 1) := by decide +kernel
theorem d_M_fall_78 : decode b_M_fall 78 = .ok (.imul, 1) := by decide +kernel
theorem d_M_fall_79 : decode b_M_fall 79 = .ok (.istore_n 2, 1) := by decide +kernel
theorem d_M_fall_80 : decode b_M_fall 80 = .ok (.iload_n 2, 1) := by decide +kernel
theorem d_M_fall_81 : decode b_M_fall 81 = .ok (.bipush 35, 2) := by decide +kernel
theorem d_M_fall_83 : decode b_M_fall 83 = .ok (.iload_n 1, 1) := by decide +kernel
theorem d_M_fall_84 : decode b_M_fall 84 = .ok (.imul, 1) := by decide +kernel
theorem d_M_fall_85 : decode b_M_fall 85 = .ok (.bipush 35, 2) := by decide +kernel
theorem d_M_fall_87 : decode b_M_fall 87 = .ok (.iadd, 1) := by decide +kernel
theorem d_M_fall_88 : decode b_M_fall 88 = .ok (.if_icmp .ge 16, 3) := by decide +kernel
theorem d_M_fall_91 : decode b_M_fall 91 = .ok (.aload_n 0, 1) := by decide +kernel
theorem d_M_fall_92 : decode b_M_fall 92 = .ok (.getfield 44, 3) := by decide +kernel
theorem d_M_fall_95 : decode b_M_fall 95 = .ok (.iload_n 2, 1) := by decide +kernel
theorem d_M_fall_96 : decode b_M_fall 96 = .ok (.lconst 0, 1) := by decide +kernel
theorem d_M_fall_97 : decode b_M_fall 97 = .ok (.lastore, 1) := by decide +kernel
theorem d_M_fall_98 : decode b_M_fall 98 = .ok (.iinc 2 1, 3) := by decide +kernel
theorem d_M_fall_101 : decode b_M_fall 101 = .ok (.goto (-21), 3) := by decide +kernel
theorem d_M_fall_104 : decode b_M_fall 104 = .ok (.return_, 1) := by decide +kernel
theorem d_M_burns_0 : decode b_M_burns 0 = .ok (.aload_n 0, 1) := by decide +kernel
theorem d_M_burns_1 : decode b_M_burns 1 = .ok (.getfield 13, 3) := by decide +kernel
theorem d_M_burns_4 : decode b_M_burns 4 = .ok (.iload_n 1, 1) := by decide +kernel
theorem d_M_burns_5 : decode b_M_burns 5 = .ok (.iaload, 1) := by decide +kernel
theorem d_M_burns_6 : decode b_M_burns 6 = .ok (.ifCond .ne 5, 3) := by decide +kernel
theorem d_M_burns_9 : decode b_M_burns 9 = .ok (.iconst 0, 1) := by decide +kernel
theorem d_M_burns_10 : decode b_M_burns 10 = .ok (.ireturn, 1) := by decide +kernel
theorem d_M_burns_11 : decode b_M_burns 11 = .ok (.aload_n 0, 1) := by decide +kernel
theorem d_M_burns_12 : decode b_M_burns 12 = .ok (.getfield 13, 3) := by decide +kernel
theorem d_M_burns_15 : decode b_M_burns 15 = .ok (.iload_n 1, 1) := by decide +kernel
theorem d_M_burns_16 : decode b_M_burns 16 = .ok (.dup2, 1) := by decide +kernel
theorem d_M_burns_17 : decode b_M_burns 17 = .ok (.iaload, 1) := by decide +kernel
theorem d_M_burns_18 : decode b_M_burns 18 = .ok (.iconst 1, 1) := by decide +kernel
theorem d_M_burns_19 : decode b_M_burns 19 = .ok (.isub, 1) := by decide +kernel
theorem d_M_burns_20 : decode b_M_burns 20 = .ok (.iastore, 1) := by decide +kernel
theorem d_M_burns_21 : decode b_M_burns 21 = .ok (.aload_n 0, 1) := by decide +kernel
theorem d_M_burns_22 : decode b_M_burns 22 = .ok (.getfield 13, 3) := by decide +kernel
theorem d_M_burns_25 : decode b_M_burns 25 = .ok (.iload_n 1, 1) := by decide +kernel
theorem d_M_burns_26 : decode b_M_burns 26 = .ok (.iaload, 1) := by decide +kernel
theorem d_M_burns_27 : decode b_M_burns 27 = .ok (.ifCond .le 5, 3) := by decide +kernel
theorem d_M_burns_30 : decode b_M_burns 30 = .ok (.iconst 0, 1) := by decide +kernel
theorem d_M_burns_31 : decode b_M_burns 31 = .ok (.ireturn, 1) := by decide +kernel
theorem d_M_burns_32 : decode b_M_burns 32 = .ok (.aload_n 0, 1) := by decide +kernel
theorem d_M_burns_33 : decode b_M_burns 33 = .ok (.iload_n 1, 1) := by decide +kernel
theorem d_M_burns_34 : decode b_M_burns 34 = .ok (.invokevirtual 95, 3) := by decide +kernel
theorem d_M_burns_37 : decode b_M_burns 37 = .ok (.iconst 1, 1) := by decide +kernel
theorem d_M_burns_38 : decode b_M_burns 38 = .ok (.ireturn, 1) := by decide +kernel
theorem d_M_said_0 : decode b_M_said 0 = .ok (.iload_n 2, 1) := by decide +kernel
theorem d_M_said_1 : decode b_M_said 1 = .ok (.iconst 4, 1) := by decide +kernel
theorem d_M_said_2 : decode b_M_said 2 = .ok (.if_icmp .ne 28, 3) := by decide +kernel
theorem d_M_said_5 : decode b_M_said 5 = .ok (.iload_n 3, 1) := by decide +kernel
theorem d_M_said_6 : decode b_M_said 6 = .ok (.ifCond .ne 20, 3) := by decide +kernel
theorem d_M_said_9 : decode b_M_said 9 = .ok (.iload 4, 2) := by decide +kernel
theorem d_M_said_11 : decode b_M_said 11 = .ok (.ifCond .ne 15, 3) := by decide +kernel
theorem d_M_said_14 : decode b_M_said 14 = .ok (.aload_n 0, 1) := by decide +kernel
theorem d_M_said_15 : decode b_M_said 15 = .ok (.getfield 35, 3) := by decide +kernel
theorem d_M_said_18 : decode b_M_said 18 = .ok (.iload_n 1, 1) := by decide +kernel
theorem d_M_said_19 : decode b_M_said 19 = .ok (.iaload, 1) := by decide +kernel
theorem d_M_said_20 : decode b_M_said 20 = .ok (.i2l, 1) := by decide +kernel
theorem d_M_said_21 : decode b_M_said 21 = .ok (.lconst 1, 1) := by decide +kernel
theorem d_M_said_22 : decode b_M_said 22 = .ok (.lsub, 1) := by decide +kernel
theorem d_M_said_23 : decode b_M_said 23 = .ok (.goto 6, 3) := by decide +kernel
theorem d_M_said_26 : decode b_M_said 26 = .ok (.ldc2_w 99, 3) := by decide +kernel
theorem d_M_said_29 : decode b_M_said 29 = .ok (.lreturn, 1) := by decide +kernel
theorem d_M_said_30 : decode b_M_said 30 = .ok (.iload_n 2, 1) := by decide +kernel
theorem d_M_said_31 : decode b_M_said 31 = .ok (.ifCond .lt 18, 3) := by decide +kernel
theorem d_M_said_34 : decode b_M_said 34 = .ok (.iload_n 2, 1) := by decide +kernel
theorem d_M_said_35 : decode b_M_said 35 = .ok (.iconst 4, 1) := by decide +kernel
theorem d_M_said_36 : decode b_M_said 36 = .ok (.if_icmp .gt 13, 3) := by decide +kernel
theorem d_M_said_39 : decode b_M_said 39 = .ok (.aload_n 0, 1) := by decide +kernel
theorem d_M_said_40 : decode b_M_said 40 = .ok (.iload_n 3, 1) := by decide +kernel
theorem d_M_said_41 : decode b_M_said 41 = .ok (.iload 4, 2) := by decide +kernel
theorem d_M_said_43 : decode b_M_said 43 = .ok (.invokevirtual 64, 3) := by decide +kernel
theorem d_M_said_46 : decode b_M_said 46 = .ok (.ifCond .ne 7, 3) := by decide +kernel
theorem d_M_said_49 : decode b_M_said 49 = .ok (.ldc2_w 99, 3) := by decide +kernel
theorem d_M_said_52 : decode b_M_said 52 = .ok (.lreturn, 1) := by decide +kernel
theorem d_M_said_53 : decode b_M_said 53 = .ok (.lconst 0, 1) := by decide +kernel
theorem d_M_said_54 : decode b_M_said 54 = .ok (.lstore 5, 2) := by decide +kernel
theorem d_M_said_56 : decode b_M_said 56 = .ok (.iload_n 2, 1) := by decide +kernel
theorem d_M_said_57 : decode b_M_said 57 = .ok (.iconst 3, 1) := by decide +kernel
theorem d_M_said_58 : decode b_M_said 58 = .ok (.if_icmp .ne 20, 3) := by decide +kernel
theorem d_M_said_61 : decode b_M_said 61 = .ok (.aload_n 0, 1) := by decide +kernel
theorem d_M_said_62 : decode b_M_said 62 = .ok (.getfield 29, 3) := by decide +kernel
theorem d_M_said_65 : decode b_M_said 65 = .ok (.iload_n 1, 1) := by decide +kernel
theorem d_M_said_66 : decode b_M_said 66 = .ok (.iload_n 3, 1) := by decide +kernel
theorem d_M_said_67 : decode b_M_said 67 = .ok (.iload 4, 2) := by decide +kernel
theorem d_M_said_69 : decode b_M_said 69 = .ok (.invokestatic 83, 3) := by decide +kernel
theorem d_M_said_72 : decode b_M_said 72 = .ok (.laload, 1) := by decide +kernel
theorem d_M_said_73 : decode b_M_said 73 = .ok (.lstore 5, 2) := by decide +kernel
theorem d_M_said_75 : decode b_M_said 75 = .ok (.goto 94, 3) := by decide +kernel
theorem d_M_said_78 : decode b_M_said 78 = .ok (.iload 4, 2) := by decide +kernel
theorem d_M_said_80 : decode b_M_said 80 = .ok (.aload_n 0, 1) := by decide +kernel
theorem d_M_said_81 : decode b_M_said 81 = .ok (.getfield 32, 3) := by decide +kernel
theorem d_M_said_84 : decode b_M_said 84 = .ok (.bipush 7, 2) := by decide +kernel
theorem d_M_said_86 : decode b_M_said 86 = .ok (.iload_n 1, 1) := by decide +kernel
theorem d_M_said_87 : decode b_M_said 87 = .ok (.imul, 1) := by decide +kernel
theorem d_M_said_88 : decode b_M_said 88 = .ok (.iload_n 3, 1) := by decide +kernel
theorem d_M_said_89 : decode b_M_said 89 = .ok (.iadd, 1) := by decide +kernel
theorem d_M_said_90 : decode b_M_said 90 = .ok (.iaload, 1) := by decide +kernel
theorem d_M_said_91 : decode b_M_said 91 = .ok (.if_icmp .le 78, 3) := by decide +kernel
theorem d_M_said_94 : decode b_M_said 94 = .ok (.iload_n 2, 1) := by decide +kernel
theorem d_M_said_95 : decode b_M_said 95 = .ok (.iconst 1, 1) := by decide +kernel
theorem d_M_said_96 : decode b_M_said 96 = .ok (.if_icmp .ne 20, 3) := by decide +kernel
theorem d_M_said_99 : decode b_M_said 99 = .ok (.aload_n 0, 1) := by decide +kernel
theorem d_M_said_100 : decode b_M_said 100 = .ok (.getfield 23, 3) := by decide +kernel
theorem d_M_said_103 : decode b_M_said 103 = .ok (.iload_n 1, 1) := by decide +kernel
theorem d_M_said_104 : decode b_M_said 104 = .ok (.iload_n 3, 1) := by decide +kernel
theorem d_M_said_105 : decode b_M_said 105 = .ok (.iload 4, 2) := by decide +kernel
theorem d_M_said_107 : decode b_M_said 107 = .ok (.invokestatic 83, 3) := by decide +kernel
theorem d_M_said_110 : decode b_M_said 110 = .ok (.laload, 1) := by decide +kernel
theorem d_M_said_111 : decode b_M_said 111 = .ok (.lstore 5, 2) := by decide +kernel
theorem d_M_said_113 : decode b_M_said 113 = .ok (.goto 56, 3) := by decide +kernel
theorem d_M_said_116 : decode b_M_said 116 = .ok (.iload_n 2, 1) := by decide +kernel
theorem d_M_said_117 : decode b_M_said 117 = .ok (.iconst 2, 1) := by decide +kernel
theorem d_M_said_118 : decode b_M_said 118 = .ok (.if_icmp .ne 20, 3) := by decide +kernel
theorem d_M_said_121 : decode b_M_said 121 = .ok (.aload_n 0, 1) := by decide +kernel
theorem d_M_said_122 : decode b_M_said 122 = .ok (.getfield 26, 3) := by decide +kernel
theorem d_M_said_125 : decode b_M_said 125 = .ok (.iload_n 1, 1) := by decide +kernel
theorem d_M_said_126 : decode b_M_said 126 = .ok (.iload_n 3, 1) := by decide +kernel
theorem d_M_said_127 : decode b_M_said 127 = .ok (.iload 4, 2) := by decide +kernel
theorem d_M_said_129 : decode b_M_said 129 = .ok (.invokestatic 83, 3) := by decide +kernel
theorem d_M_said_132 : decode b_M_said 132 = .ok (.laload, 1) := by decide +kernel
theorem d_M_said_133 : decode b_M_said 133 = .ok (.lstore 5, 2) := by decide +kernel
theorem d_M_said_135 : decode b_M_said 135 = .ok (.goto 34, 3) := by decide +kernel
theorem d_M_said_138 : decode b_M_said 138 = .ok (.iload_n 1, 1) := by decide +kernel
theorem d_M_said_139 : decode b_M_said 139 = .ok (.iload_n 3, 1) := by decide +kernel
theorem d_M_said_140 : decode b_M_said 140 = .ok (.if_icmp .ne 29, 3) := by decide +kernel
theorem d_M_said_143 : decode b_M_said 143 = .ok (.iload 4, 2) := by decide +kernel
theorem d_M_said_145 : decode b_M_said 145 = .ok (.aload_n 0, 1) := by decide +kernel
theorem d_M_said_146 : decode b_M_said 146 = .ok (.getfield 16, 3) := by decide +kernel
theorem d_M_said_149 : decode b_M_said 149 = .ok (.iload_n 1, 1) := by decide +kernel
theorem d_M_said_150 : decode b_M_said 150 = .ok (.iaload, 1) := by decide +kernel
theorem d_M_said_151 : decode b_M_said 151 = .ok (.if_icmp .gt 18, 3) := by decide +kernel
theorem d_M_said_154 : decode b_M_said 154 = .ok (.aload_n 0, 1) := by decide +kernel
theorem d_M_said_155 : decode b_M_said 155 = .ok (.getfield 19, 3) := by decide +kernel
theorem d_M_said_158 : decode b_M_said 158 = .ok (.iconst 5, 1) := by decide +kernel
theorem d_M_said_159 : decode b_M_said 159 = .ok (.iload_n 1, 1) := by decide +kernel
theorem d_M_said_160 : decode b_M_said 160 = .ok (.imul, 1) := by decide +kernel
theorem d_M_said_161 : decode b_M_said 161 = .ok (.iload 4, 2) := by decide +kernel
theorem d_M_said_163 : decode b_M_said 163 = .ok (.iadd, 1) := by decide +kernel
theorem d_M_said_164 : decode b_M_said 164 = .ok (.iconst 1, 1) := by decide +kernel
theorem d_M_said_165 : decode b_M_said 165 = .ok (.isub, 1) := by decide +kernel
theorem d_M_said_166 : decode b_M_said 166 = .ok (.laload, 1) := by decide +kernel
theorem d_M_said_167 : decode b_M_said 167 = .ok (.lstore 5, 2) := by decide +kernel
theorem d_M_said_169 : decode b_M_said 169 = .ok (.lload 5, 2) := by decide +kernel
theorem d_M_said_171 : decode b_M_said 171 = .ok (.lconst 0, 1) := by decide +kernel
theorem d_M_said_172 : decode b_M_said 172 = .ok (.lcmp, 1) := by decide +kernel
theorem d_M_said_173 : decode b_M_said 173 = .ok (.ifCond .ne 9, 3) := by decide +kernel
theorem d_M_said_176 : decode b_M_said 176 = .ok (.ldc2_w 99, 3) := by decide +kernel
theorem d_M_said_179 : decode b_M_said 179 = .ok (.goto 5, 3) := by decide +kernel
theorem d_M_said_182 : decode b_M_said 182 = .ok (.lload 5, 2) := by decide +kernel
theorem d_M_said_184 : decode b_M_said 184 = .ok (.lreturn, 1) := by decide +kernel
theorem d_M_objection_0 : decode b_M_objection 0 = .ok (.iload_n 3, 1) := by decide +kernel
theorem d_M_objection_1 : decode b_M_objection 1 = .ok (.ifCond .lt 8, 3) := by decide +kernel
theorem d_M_objection_4 : decode b_M_objection 4 = .ok (.iload_n 3, 1) := by decide +kernel
theorem d_M_objection_5 : decode b_M_objection 5 = .ok (.iconst 4, 1) := by decide +kernel
theorem d_M_objection_6 : decode b_M_objection 6 = .ok (.if_icmp .le 6, 3) := by decide +kernel
theorem d_M_objection_9 : decode b_M_objection 9 = .ok (.bipush (-3), 2) := by decide +kernel
theorem d_M_objection_11 : decode b_M_objection 11 = .ok (.ireturn, 1) := by decide +kernel
theorem d_M_objection_12 : decode b_M_objection 12 = .ok (.iload_n 3, 1) := by decide +kernel
theorem d_M_objection_13 : decode b_M_objection 13 = .ok (.iconst 4, 1) := by decide +kernel
theorem d_M_objection_14 : decode b_M_objection 14 = .ok (.if_icmp .ne 52, 3) := by decide +kernel
theorem d_M_objection_17 : decode b_M_objection 17 = .ok (.iload 4, 2) := by decide +kernel
theorem d_M_objection_19 : decode b_M_objection 19 = .ok (.ifCond .ne 17, 3) := by decide +kernel
theorem d_M_objection_22 : decode b_M_objection 22 = .ok (.iload 5, 2) := by decide +kernel
theorem d_M_objection_24 : decode b_M_objection 24 = .ok (.ifCond .ne 12, 3) := by decide +kernel
theorem d_M_objection_27 : decode b_M_objection 27 = .ok (.aload_n 0, 1) := by decide +kernel
theorem d_M_objection_28 : decode b_M_objection 28 = .ok (.lload 6, 2) := by decide +kernel
theorem d_M_objection_30 : decode b_M_objection 30 = .ok (.invokevirtual 101, 3) := by decide +kernel
theorem d_M_objection_33 : decode b_M_objection 33 = .ok (.ifCond .ne 6, 3) := by decide +kernel
theorem d_M_objection_36 : decode b_M_objection 36 = .ok (.bipush (-3), 2) := by decide +kernel
theorem d_M_objection_38 : decode b_M_objection 38 = .ok (.ireturn, 1) := by decide +kernel
theorem d_M_objection_39 : decode b_M_objection 39 = .ok (.aload_n 0, 1) := by decide +kernel
theorem d_M_objection_40 : decode b_M_objection 40 = .ok (.getfield 41, 3) := by decide +kernel
theorem d_M_objection_43 : decode b_M_objection 43 = .ok (.bipush 7, 2) := by decide +kernel
theorem d_M_objection_45 : decode b_M_objection 45 = .ok (.iload_n 1, 1) := by decide +kernel
theorem d_M_objection_46 : decode b_M_objection 46 = .ok (.imul, 1) := by decide +kernel
theorem d_M_objection_47 : decode b_M_objection 47 = .ok (.iload_n 2, 1) := by decide +kernel
theorem d_M_objection_48 : decode b_M_objection 48 = .ok (.iadd, 1) := by decide +kernel
theorem d_M_objection_49 : decode b_M_objection 49 = .ok (.iaload, 1) := by decide +kernel
theorem d_M_objection_50 : decode b_M_objection 50 = .ok (.i2l, 1) := by decide +kernel
theorem d_M_objection_51 : decode b_M_objection 51 = .ok (.lload 6, 2) := by decide +kernel
theorem d_M_objection_53 : decode b_M_objection 53 = .ok (.lconst 1, 1) := by decide +kernel
theorem d_M_objection_54 : decode b_M_objection 54 = .ok (.ladd, 1) := by decide +kernel
theorem d_M_objection_55 : decode b_M_objection 55 = .ok (.lcmp, 1) := by decide +kernel
theorem d_M_objection_56 : decode b_M_objection 56 = .ok (.ifCond .ne 8, 3) := by decide +kernel
theorem d_M_objection_59 : decode b_M_objection 59 = .ok (.bipush (-6), 2) := by decide +kernel
theorem d_M_objection_61 : decode b_M_objection 61 = .ok (.goto 4, 3) := by decide +kernel
theorem d_M_objection_64 : decode b_M_objection 64 = .ok (.iconst 0, 1) := by decide +kernel
theorem d_M_objection_65 : decode b_M_objection 65 = .ok (.ireturn, 1) := by decide +kernel
theorem d_M_objection_66 : decode b_M_objection 66 = .ok (.aload_n 0, 1) := by decide +kernel
theorem d_M_objection_67 : decode b_M_objection 67 = .ok (.lload 6, 2) := by decide +kernel
theorem d_M_objection_69 : decode b_M_objection 69 = .ok (.iload 4, 2) := by decide +kernel
theorem d_M_objection_71 : decode b_M_objection 71 = .ok (.iload 5, 2) := by decide +kernel
theorem d_M_objection_73 : decode b_M_objection 73 = .ok (.invokevirtual 105, 3) := by decide +kernel
theorem d_M_objection_76 : decode b_M_objection 76 = .ok (.ifCond .ne 6, 3) := by decide +kernel
theorem d_M_objection_79 : decode b_M_objection 79 = .ok (.bipush (-3), 2) := by decide +kernel
theorem d_M_objection_81 : decode b_M_objection 81 = .ok (.ireturn, 1) := by decide +kernel
theorem d_M_objection_82 : decode b_M_objection 82 = .ok (.iload_n 3, 1) := by decide +kernel
theorem d_M_objection_83 : decode b_M_objection 83 = .ok (.ifCond .ne 12, 3) := by decide +kernel
theorem d_M_objection_86 : decode b_M_objection 86 = .ok (.iload_n 2, 1) := by decide +kernel
theorem d_M_objection_87 : decode b_M_objection 87 = .ok (.iload 4, 2) := by decide +kernel
theorem d_M_objection_89 : decode b_M_objection 89 = .ok (.if_icmp .eq 6, 3) := by decide +kernel
theorem d_M_objection_92 : decode b_M_objection 92 = .ok (.bipush (-4), 2) := by decide +kernel
theorem d_M_objection_94 : decode b_M_objection 94 = .ok (.ireturn, 1) := by decide +kernel
theorem d_M_objection_95 : decode b_M_objection 95 = .ok (.iload 5, 2) := by decide +kernel
theorem d_M_objection_97 : decode b_M_objection 97 = .ok (.aload_n 0, 1) := by decide +kernel
theorem d_M_objection_98 : decode b_M_objection 98 = .ok (.getfield 32, 3) := by decide +kernel
theorem d_M_objection_101 : decode b_M_objection 101 = .ok (.bipush 7, 2) := by decide +kernel
theorem d_M_objection_103 : decode b_M_objection 103 = .ok (.iload_n 1, 1) := by decide +kernel
theorem d_M_objection_104 : decode b_M_objection 104 = .ok (.imul, 1) := by decide +kernel
theorem d_M_objection_105 : decode b_M_objection 105 = .ok (.iload 4, 2) := by decide +kernel
theorem d_M_objection_107 : decode b_M_objection 107 = .ok (.iadd, 1) := by decide +kernel
theorem d_M_objection_108 : decode b_M_objection 108 = .ok (.iaload, 1) := by decide +kernel
theorem d_M_objection_109 : decode b_M_objection 109 = .ok (.if_icmp .gt 6, 3) := by decide +kernel
theorem d_M_objection_112 : decode b_M_objection 112 = .ok (.bipush (-5), 2) := by decide +kernel
theorem d_M_objection_114 : decode b_M_objection 114 = .ok (.ireturn, 1) := by decide +kernel
theorem d_M_objection_115 : decode b_M_objection 115 = .ok (.iload_n 3, 1) := by decide +kernel
theorem d_M_objection_116 : decode b_M_objection 116 = .ok (.ifCond .ne 19, 3) := by decide +kernel
theorem d_M_objection_119 : decode b_M_objection 119 = .ok (.aload_n 0, 1) := by decide +kernel
theorem d_M_objection_120 : decode b_M_objection 120 = .ok (.getfield 23, 3) := by decide +kernel
theorem d_M_objection_123 : decode b_M_objection 123 = .ok (.iload_n 1, 1) := by decide +kernel
theorem d_M_objection_124 : decode b_M_objection 124 = .ok (.iload 4, 2) := by decide +kernel
theorem d_M_objection_126 : decode b_M_objection 126 = .ok (.iload 5, 2) := by decide +kernel
theorem d_M_objection_128 : decode b_M_objection 128 = .ok (.invokestatic 83, 3) := by decide +kernel
theorem d_M_objection_131 : decode b_M_objection 131 = .ok (.laload, 1) := by decide +kernel
theorem d_M_objection_132 : decode b_M_objection 132 = .ok (.goto 18, 3) := by decide +kernel
theorem d_M_objection_135 : decode b_M_objection 135 = .ok (.aload_n 0, 1) := by decide +kernel
theorem d_M_objection_136 : decode b_M_objection 136 = .ok (.getfield 38, 3) := by decide +kernel
theorem d_M_objection_139 : decode b_M_objection 139 = .ok (.iload_n 1, 1) := by decide +kernel
theorem d_M_objection_140 : decode b_M_objection 140 = .ok (.iload_n 3, 1) := by decide +kernel
theorem d_M_objection_141 : decode b_M_objection 141 = .ok (.iload 4, 2) := by decide +kernel
theorem d_M_objection_143 : decode b_M_objection 143 = .ok (.iload 5, 2) := by decide +kernel
theorem d_M_objection_145 : decode b_M_objection 145 = .ok (.iload_n 2, 1) := by decide +kernel
theorem d_M_objection_146 : decode b_M_objection 146 = .ok (.invokestatic 109, 3) := by decide +kernel
theorem d_M_objection_149 : decode b_M_objection 149 = .ok (.laload, 1) := by decide +kernel
theorem d_M_objection_150 : decode b_M_objection 150 = .ok (.lstore 8, 2) := by decide +kernel
theorem d_M_objection_152 : decode b_M_objection 152 = .ok (.lload 8, 2) := by decide +kernel
theorem d_M_objection_154 : decode b_M_objection 154 = .ok (.lconst 0, 1) := by decide +kernel
theorem d_M_objection_155 : decode b_M_objection 155 = .ok (.lcmp, 1) := by decide +kernel
theorem d_M_objection_156 : decode b_M_objection 156 = .ok (.ifCond .eq 8, 3) := by decide +kernel
theorem d_M_objection_159 : decode b_M_objection 159 = .ok (.bipush (-6), 2) := by decide +kernel
theorem d_M_objection_161 : decode b_M_objection 161 = .ok (.goto 4, 3) := by decide +kernel
theorem d_M_objection_164 : decode b_M_objection 164 = .ok (.iconst 0, 1) := by decide +kernel
theorem d_M_objection_165 : decode b_M_objection 165 = .ok (.ireturn, 1) := by decide +kernel
theorem d_M_many_0 : decode b_M_many 0 = .ok (.iconst 0, 1) := by decide +kernel
theorem d_M_many_1 : decode b_M_many 1 = .ok (.istore 7, 2) := by decide +kernel
theorem d_M_many_3 : decode b_M_many 3 = .ok (.iconst 0, 1) := by decide +kernel
theorem d_M_many_4 : decode b_M_many 4 = .ok (.istore 8, 2) := by decide +kernel
theorem d_M_many_6 : decode b_M_many 6 = .ok (.iload 8, 2) := by decide +kernel
theorem d_M_many_8 : decode b_M_many 8 = .ok (.aload_n 0, 1) := by decide +kernel
theorem d_M_many_9 : decode b_M_many 9 = .ok (.getfield 47, 3) := by decide +kernel
theorem d_M_many_12 : decode b_M_many 12 = .ok (.if_icmp .ge 33, 3) := by decide +kernel
theorem d_M_many_15 : decode b_M_many 15 = .ok (.aload_n 0, 1) := by decide +kernel
theorem d_M_many_16 : decode b_M_many 16 = .ok (.getfield 38, 3) := by decide +kernel
theorem d_M_many_19 : decode b_M_many 19 = .ok (.iload_n 1, 1) := by decide +kernel
theorem d_M_many_20 : decode b_M_many 20 = .ok (.iload_n 2, 1) := by decide +kernel
theorem d_M_many_21 : decode b_M_many 21 = .ok (.iload_n 3, 1) := by decide +kernel
theorem d_M_many_22 : decode b_M_many 22 = .ok (.iload 4, 2) := by decide +kernel
theorem d_M_many_24 : decode b_M_many 24 = .ok (.iload 8, 2) := by decide +kernel
theorem d_M_many_26 : decode b_M_many 26 = .ok (.invokestatic 109, 3) := by decide +kernel
theorem d_M_many_29 : decode b_M_many 29 = .ok (.laload, 1) := by decide +kernel
theorem d_M_many_30 : decode b_M_many 30 = .ok (.lload 5, 2) := by decide +kernel
theorem d_M_many_32 : decode b_M_many 32 = .ok (.lcmp, 1) := by decide +kernel
theorem d_M_many_33 : decode b_M_many 33 = .ok (.ifCond .ne 6, 3) := by decide +kernel
theorem d_M_many_36 : decode b_M_many 36 = .ok (.iinc 7 1, 3) := by decide +kernel
theorem d_M_many_39 : decode b_M_many 39 = .ok (.iinc 8 1, 3) := by decide +kernel
theorem d_M_many_42 : decode b_M_many 42 = .ok (.goto (-36), 3) := by decide +kernel
theorem d_M_many_45 : decode b_M_many 45 = .ok (.iload 7, 2) := by decide +kernel
theorem d_M_many_47 : decode b_M_many 47 = .ok (.ireturn, 1) := by decide +kernel
