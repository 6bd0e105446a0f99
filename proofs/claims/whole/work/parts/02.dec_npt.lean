/-! Decode rows, laid by wip/gen/names.py -/
theorem d_T_of_0 : decode b_T_of 0 = .ok (.iload_n 0, 1) := by decide +kernel
theorem d_T_of_1 : decode b_T_of 1 = .ok (.bipush 7, 2) := by decide +kernel
theorem d_T_of_3 : decode b_T_of 3 = .ok (.imul, 1) := by decide +kernel
theorem d_T_of_4 : decode b_T_of 4 = .ok (.iload_n 1, 1) := by decide +kernel
theorem d_T_of_5 : decode b_T_of 5 = .ok (.iadd, 1) := by decide +kernel
theorem d_T_of_6 : decode b_T_of 6 = .ok (.iconst 5, 1) := by decide +kernel
theorem d_T_of_7 : decode b_T_of 7 = .ok (.imul, 1) := by decide +kernel
theorem d_T_of_8 : decode b_T_of 8 = .ok (.iload_n 2, 1) := by decide +kernel
theorem d_T_of_9 : decode b_T_of 9 = .ok (.iadd, 1) := by decide +kernel
theorem d_T_of_10 : decode b_T_of 10 = .ok (.iconst 1, 1) := by decide +kernel
theorem d_T_of_11 : decode b_T_of 11 = .ok (.isub, 1) := by decide +kernel
theorem d_T_of_12 : decode b_T_of 12 = .ok (.ireturn, 1) := by decide +kernel
theorem d_T_at_0 : decode b_T_at 0 = .ok (.iload_n 0, 1) := by decide +kernel
theorem d_T_at_1 : decode b_T_at 1 = .ok (.bipush 35, 2) := by decide +kernel
theorem d_T_at_3 : decode b_T_at 3 = .ok (.imul, 1) := by decide +kernel
theorem d_T_at_4 : decode b_T_at 4 = .ok (.iload_n 1, 1) := by decide +kernel
theorem d_T_at_5 : decode b_T_at 5 = .ok (.iadd, 1) := by decide +kernel
theorem d_T_at_6 : decode b_T_at 6 = .ok (.ireturn, 1) := by decide +kernel
theorem d_T_kind_0 : decode b_T_kind 0 = .ok (.iload_n 0, 1) := by decide +kernel
theorem d_T_kind_1 : decode b_T_kind 1 = .ok (.bipush 35, 2) := by decide +kernel
theorem d_T_kind_3 : decode b_T_kind 3 = .ok (.idiv, 1) := by decide +kernel
theorem d_T_kind_4 : decode b_T_kind 4 = .ok (.ireturn, 1) := by decide +kernel
theorem d_T_instance_0 : decode b_T_instance 0 = .ok (.iload_n 0, 1) := by decide +kernel
theorem d_T_instance_1 : decode b_T_instance 1 = .ok (.bipush 35, 2) := by decide +kernel
theorem d_T_instance_3 : decode b_T_instance 3 = .ok (.irem, 1) := by decide +kernel
theorem d_T_instance_4 : decode b_T_instance 4 = .ok (.ireturn, 1) := by decide +kernel
theorem d_T_account_0 : decode b_T_account 0 = .ok (.iload_n 0, 1) := by decide +kernel
theorem d_T_account_1 : decode b_T_account 1 = .ok (.bipush 35, 2) := by decide +kernel
theorem d_T_account_3 : decode b_T_account 3 = .ok (.irem, 1) := by decide +kernel
theorem d_T_account_4 : decode b_T_account 4 = .ok (.iconst 5, 1) := by decide +kernel
theorem d_T_account_5 : decode b_T_account 5 = .ok (.idiv, 1) := by decide +kernel
theorem d_T_account_6 : decode b_T_account 6 = .ok (.ireturn, 1) := by decide +kernel
theorem d_T_seq_0 : decode b_T_seq 0 = .ok (.iload_n 0, 1) := by decide +kernel
theorem d_T_seq_1 : decode b_T_seq 1 = .ok (.iconst 5, 1) := by decide +kernel
theorem d_T_seq_2 : decode b_T_seq 2 = .ok (.irem, 1) := by decide +kernel
theorem d_T_seq_3 : decode b_T_seq 3 = .ok (.iconst 1, 1) := by decide +kernel
theorem d_T_seq_4 : decode b_T_seq 4 = .ok (.iadd, 1) := by decide +kernel
theorem d_T_seq_5 : decode b_T_seq 5 = .ok (.ireturn, 1) := by decide +kernel
theorem d_P_payee_0 : decode b_P_payee 0 = .ok (.lload_n 0, 1) := by decide +kernel
theorem d_P_payee_1 : decode b_P_payee 1 = .ok (.ldc2_w 9, 3) := by decide +kernel
theorem d_P_payee_4 : decode b_P_payee 4 = .ok (.land, 1) := by decide +kernel
theorem d_P_payee_5 : decode b_P_payee 5 = .ok (.l2i, 1) := by decide +kernel
theorem d_P_payee_6 : decode b_P_payee 6 = .ok (.ireturn, 1) := by decide +kernel
theorem d_P_amount_0 : decode b_P_amount 0 = .ok (.lload_n 0, 1) := by decide +kernel
theorem d_P_amount_1 : decode b_P_amount 1 = .ok (.iconst 3, 1) := by decide +kernel
theorem d_P_amount_2 : decode b_P_amount 2 = .ok (.lshr, 1) := by decide +kernel
theorem d_P_amount_3 : decode b_P_amount 3 = .ok (.ldc2_w 11, 3) := by decide +kernel
theorem d_P_amount_6 : decode b_P_amount 6 = .ok (.land, 1) := by decide +kernel
theorem d_P_amount_7 : decode b_P_amount 7 = .ok (.l2i, 1) := by decide +kernel
theorem d_P_amount_8 : decode b_P_amount 8 = .ok (.ireturn, 1) := by decide +kernel
theorem d_P_need_0 : decode b_P_need 0 = .ok (.lload_n 0, 1) := by decide +kernel
theorem d_P_need_1 : decode b_P_need 1 = .ok (.bipush 13, 2) := by decide +kernel
theorem d_P_need_3 : decode b_P_need 3 = .ok (.iconst 3, 1) := by decide +kernel
theorem d_P_need_4 : decode b_P_need 4 = .ok (.iload_n 2, 1) := by decide +kernel
theorem d_P_need_5 : decode b_P_need 5 = .ok (.imul, 1) := by decide +kernel
theorem d_P_need_6 : decode b_P_need 6 = .ok (.iadd, 1) := by decide +kernel
theorem d_P_need_7 : decode b_P_need 7 = .ok (.lshr, 1) := by decide +kernel
theorem d_P_need_8 : decode b_P_need 8 = .ok (.ldc2_w 9, 3) := by decide +kernel
theorem d_P_need_11 : decode b_P_need 11 = .ok (.land, 1) := by decide +kernel
theorem d_P_need_12 : decode b_P_need 12 = .ok (.l2i, 1) := by decide +kernel
theorem d_P_need_13 : decode b_P_need 13 = .ok (.ireturn, 1) := by decide +kernel
theorem d_P_make_0 : decode b_P_make 0 = .ok (.iload_n 0, 1) := by decide +kernel
theorem d_P_make_1 : decode b_P_make 1 = .ok (.i2l, 1) := by decide +kernel
theorem d_P_make_2 : decode b_P_make 2 = .ok (.iload_n 1, 1) := by decide +kernel
theorem d_P_make_3 : decode b_P_make 3 = .ok (.i2l, 1) := by decide +kernel
theorem d_P_make_4 : decode b_P_make 4 = .ok (.iconst 3, 1) := by decide +kernel
theorem d_P_make_5 : decode b_P_make 5 = .ok (.lshl, 1) := by decide +kernel
theorem d_P_make_6 : decode b_P_make 6 = .ok (.lor, 1) := by decide +kernel
theorem d_P_make_7 : decode b_P_make 7 = .ok (.lload_n 2, 1) := by decide +kernel
theorem d_P_make_8 : decode b_P_make 8 = .ok (.bipush 13, 2) := by decide +kernel
theorem d_P_make_10 : decode b_P_make 10 = .ok (.lshl, 1) := by decide +kernel
theorem d_P_make_11 : decode b_P_make 11 = .ok (.lor, 1) := by decide +kernel
theorem d_P_make_12 : decode b_P_make 12 = .ok (.lreturn, 1) := by decide +kernel
theorem d_P_digit_0 : decode b_P_digit 0 = .ok (.lload_n 0, 1) := by decide +kernel
theorem d_P_digit_1 : decode b_P_digit 1 = .ok (.iconst 3, 1) := by decide +kernel
theorem d_P_digit_2 : decode b_P_digit 2 = .ok (.iload_n 2, 1) := by decide +kernel
theorem d_P_digit_3 : decode b_P_digit 3 = .ok (.imul, 1) := by decide +kernel
theorem d_P_digit_4 : decode b_P_digit 4 = .ok (.lshr, 1) := by decide +kernel
theorem d_P_digit_5 : decode b_P_digit 5 = .ok (.ldc2_w 9, 3) := by decide +kernel
theorem d_P_digit_8 : decode b_P_digit 8 = .ok (.land, 1) := by decide +kernel
theorem d_P_digit_9 : decode b_P_digit 9 = .ok (.l2i, 1) := by decide +kernel
theorem d_P_digit_10 : decode b_P_digit 10 = .ok (.ireturn, 1) := by decide +kernel
theorem d_P_isWellFormed_0 : decode b_P_isWellFormed 0 = .ok (.lload_n 0, 1) := by decide +kernel
theorem d_P_isWellFormed_1 : decode b_P_isWellFormed 1 = .ok (.invokestatic 15, 3) := by decide +kernel
theorem d_P_isWellFormed_4 : decode b_P_isWellFormed 4 = .ok (.iload_n 3, 1) := by decide +kernel
theorem d_P_isWellFormed_5 : decode b_P_isWellFormed 5 = .ok (.if_icmp .ge 18, 3) := by decide +kernel
theorem d_P_isWellFormed_8 : decode b_P_isWellFormed 8 = .ok (.lload_n 0, 1) := by decide +kernel
theorem d_P_isWellFormed_9 : decode b_P_isWellFormed 9 = .ok (.invokestatic 15, 3) := by decide +kernel
theorem d_P_isWellFormed_12 : decode b_P_isWellFormed 12 = .ok (.iload_n 2, 1) := by decide +kernel
theorem d_P_isWellFormed_13 : decode b_P_isWellFormed 13 = .ok (.if_icmp .eq 10, 3) := by decide +kernel
theorem d_P_isWellFormed_16 : decode b_P_isWellFormed 16 = .ok (.lload_n 0, 1) := by decide +kernel
theorem d_P_isWellFormed_17 : decode b_P_isWellFormed 17 = .ok (.invokestatic 19, 3) := by decide +kernel
theorem d_P_isWellFormed_20 : decode b_P_isWellFormed 20 = .ok (.ifCond .ne 5, 3) := by decide +kernel
theorem d_P_isWellFormed_23 : decode b_P_isWellFormed 23 = .ok (.iconst 0, 1) := by decide +kernel
theorem d_P_isWellFormed_24 : decode b_P_isWellFormed 24 = .ok (.ireturn, 1) := by decide +kernel
theorem d_P_isWellFormed_25 : decode b_P_isWellFormed 25 = .ok (.lload_n 0, 1) := by decide +kernel
theorem d_P_isWellFormed_26 : decode b_P_isWellFormed 26 = .ok (.iload_n 2, 1) := by decide +kernel
theorem d_P_isWellFormed_27 : decode b_P_isWellFormed 27 = .ok (.invokestatic 22, 3) := by decide +kernel
theorem d_P_isWellFormed_30 : decode b_P_isWellFormed 30 = .ok (.ifCond .ne 18, 3) := by decide +kernel
theorem d_P_isWellFormed_33 : decode b_P_isWellFormed 33 = .ok (.lload_n 0, 1) := by decide +kernel
theorem d_P_isWellFormed_34 : decode b_P_isWellFormed 34 = .ok (.bipush 13, 2) := by decide +kernel
theorem d_P_isWellFormed_36 : decode b_P_isWellFormed 36 = .ok (.lshr, 1) := by decide +kernel
theorem d_P_isWellFormed_37 : decode b_P_isWellFormed 37 = .ok (.iload_n 3, 1) := by decide +kernel
theorem d_P_isWellFormed_38 : decode b_P_isWellFormed 38 = .ok (.invokestatic 26, 3) := by decide +kernel
theorem d_P_isWellFormed_41 : decode b_P_isWellFormed 41 = .ok (.ifCond .eq 7, 3) := by decide +kernel
theorem d_P_isWellFormed_44 : decode b_P_isWellFormed 44 = .ok (.iconst 1, 1) := by decide +kernel
theorem d_P_isWellFormed_45 : decode b_P_isWellFormed 45 = .ok (.goto 4, 3) := by decide +kernel
theorem d_P_isWellFormed_48 : decode b_P_isWellFormed 48 = .ok (.iconst 0, 1) := by decide +kernel
theorem d_P_isWellFormed_49 : decode b_P_isWellFormed 49 = .ok (.ireturn, 1) := by decide +kernel
theorem d_P_isMark_0 : decode b_P_isMark 0 = .ok (.lload_n 0, 1) := by decide +kernel
theorem d_P_isMark_1 : decode b_P_isMark 1 = .ok (.lconst 0, 1) := by decide +kernel
theorem d_P_isMark_2 : decode b_P_isMark 2 = .ok (.lcmp, 1) := by decide +kernel
theorem d_P_isMark_3 : decode b_P_isMark 3 = .ok (.ifCond .lt 13, 3) := by decide +kernel
theorem d_P_isMark_6 : decode b_P_isMark 6 = .ok (.lload_n 0, 1) := by decide +kernel
theorem d_P_isMark_7 : decode b_P_isMark 7 = .ok (.lconst 1, 1) := by decide +kernel
theorem d_P_isMark_8 : decode b_P_isMark 8 = .ok (.iconst 3, 1) := by decide +kernel
theorem d_P_isMark_9 : decode b_P_isMark 9 = .ok (.iload_n 2, 1) := by decide +kernel
theorem d_P_isMark_10 : decode b_P_isMark 10 = .ok (.imul, 1) := by decide +kernel
theorem d_P_isMark_11 : decode b_P_isMark 11 = .ok (.lshl, 1) := by decide +kernel
theorem d_P_isMark_12 : decode b_P_isMark 12 = .ok (.lcmp, 1) := by decide +kernel
theorem d_P_isMark_13 : decode b_P_isMark 13 = .ok (.ifCond .lt 5, 3) := by decide +kernel
theorem d_P_isMark_16 : decode b_P_isMark 16 = .ok (.iconst 0, 1) := by decide +kernel
theorem d_P_isMark_17 : decode b_P_isMark 17 = .ok (.ireturn, 1) := by decide +kernel
theorem d_P_isMark_18 : decode b_P_isMark 18 = .ok (.iconst 0, 1) := by decide +kernel
theorem d_P_isMark_19 : decode b_P_isMark 19 = .ok (.istore_n 3, 1) := by decide +kernel
theorem d_P_isMark_20 : decode b_P_isMark 20 = .ok (.iload_n 3, 1) := by decide +kernel
theorem d_P_isMark_21 : decode b_P_isMark 21 = .ok (.iload_n 2, 1) := by decide +kernel
theorem d_P_isMark_22 : decode b_P_isMark 22 = .ok (.if_icmp .ge 20, 3) := by decide +kernel
theorem d_P_isMark_25 : decode b_P_isMark 25 = .ok (.lload_n 0, 1) := by decide +kernel
theorem d_P_isMark_26 : decode b_P_isMark 26 = .ok (.iload_n 3, 1) := by decide +kernel
theorem d_P_isMark_27 : decode b_P_isMark 27 = .ok (.invokestatic 30, 3) := by decide +kernel
theorem d_P_isMark_30 : decode b_P_isMark 30 = .ok (.iconst 5, 1) := by decide +kernel
theorem d_P_isMark_31 : decode b_P_isMark 31 = .ok (.if_icmp .le 5, 3) := by decide +kernel
theorem d_P_isMark_34 : decode b_P_isMark 34 = .ok (.iconst 0, 1) := by decide +kernel
theorem d_P_isMark_35 : decode b_P_isMark 35 = .ok (.ireturn, 1) := by decide +kernel
theorem d_P_isMark_36 : decode b_P_isMark 36 = .ok (.iinc 3 1, 3) := by decide +kernel
theorem d_P_isMark_39 : decode b_P_isMark 39 = .ok (.goto (-19), 3) := by decide +kernel
theorem d_P_isMark_42 : decode b_P_isMark 42 = .ok (.iconst 1, 1) := by decide +kernel
theorem d_P_isMark_43 : decode b_P_isMark 43 = .ok (.ireturn, 1) := by decide +kernel
theorem d_N_init_0 : decode b_N_init 0 = .ok (.aload_n 0, 1) := by decide +kernel
theorem d_N_init_1 : decode b_N_init 1 = .ok (.invokespecial 3, 3) := by decide +kernel
theorem d_N_init_4 : decode b_N_init 4 = .ok (.aload_n 0, 1) := by decide +kernel
theorem d_N_init_5 : decode b_N_init 5 = .ok (.iconst 0, 1) := by decide +kernel
theorem d_N_init_6 : decode b_N_init 6 = .ok (.putfield 9, 3) := by decide +kernel
theorem d_N_init_9 : decode b_N_init 9 = .ok (.aload_n 0, 1) := by decide +kernel
theorem d_N_init_10 : decode b_N_init 10 = .ok (.sipush 141, 3) := by decide +kernel
theorem d_N_init_13 : decode b_N_init 13 = .ok (.newarray .long, 2) := by decide +kernel
theorem d_N_init_15 : decode b_N_init 15 = .ok (.putfield 15, 3) := by decide +kernel
theorem d_N_init_18 : decode b_N_init 18 = .ok (.aload_n 0, 1) := by decide +kernel
theorem d_N_init_19 : decode b_N_init 19 = .ok (.bipush 7, 2) := by decide +kernel
theorem d_N_init_21 : decode b_N_init 21 = .ok (.newarray .int, 2) := by decide +kernel
theorem d_N_init_23 : decode b_N_init 23 = .ok (.putfield 19, 3) := by decide +kernel
theorem d_N_init_26 : decode b_N_init 26 = .ok (.aload_n 0, 1) := by decide +kernel
theorem d_N_init_27 : decode b_N_init 27 = .ok (.bipush 7, 2) := by decide +kernel
theorem d_N_init_29 : decode b_N_init 29 = .ok (.newarray .int, 2) := by decide +kernel
theorem d_N_init_31 : decode b_N_init 31 = .ok (.putfield 23, 3) := by decide +kernel
theorem d_N_init_34 : decode b_N_init 34 = .ok (.aload_n 0, 1) := by decide +kernel
theorem d_N_init_35 : decode b_N_init 35 = .ok (.bipush 7, 2) := by decide +kernel
theorem d_N_init_37 : decode b_N_init 37 = .ok (.newarray .long, 2) := by decide +kernel
theorem d_N_init_39 : decode b_N_init 39 = .ok (.putfield 26, 3) := by decide +kernel
theorem d_N_init_42 : decode b_N_init 42 = .ok (.aload_n 0, 1) := by decide +kernel
theorem d_N_init_43 : decode b_N_init 43 = .ok (.sipush 987, 3) := by decide +kernel
theorem d_N_init_46 : decode b_N_init 46 = .ok (.newarray .long, 2) := by decide +kernel
theorem d_N_init_48 : decode b_N_init 48 = .ok (.putfield 29, 3) := by decide +kernel
theorem d_N_init_51 : decode b_N_init 51 = .ok (.aload_n 0, 1) := by decide +kernel
theorem d_N_init_52 : decode b_N_init 52 = .ok (.bipush 35, 2) := by decide +kernel
theorem d_N_init_54 : decode b_N_init 54 = .ok (.newarray .long, 2) := by decide +kernel
theorem d_N_init_56 : decode b_N_init 56 = .ok (.putfield 32, 3) := by decide +kernel
theorem d_N_init_59 : decode b_N_init 59 = .ok (.aload_n 0, 1) := by decide +kernel
theorem d_N_init_60 : decode b_N_init 60 = .ok (.iload_n 1, 1) := by decide +kernel
theorem d_N_init_61 : decode b_N_init 61 = .ok (.putfield 35, 3) := by decide +kernel
theorem d_N_init_64 : decode b_N_init 64 = .ok (.aload_n 0, 1) := by decide +kernel
theorem d_N_init_65 : decode b_N_init 65 = .ok (.iload_n 2, 1) := by decide +kernel
theorem d_N_init_66 : decode b_N_init 66 = .ok (.putfield 38, 3) := by decide +kernel
theorem d_N_init_69 : decode b_N_init 69 = .ok (.aload_n 0, 1) := by decide +kernel
theorem d_N_init_70 : decode b_N_init 70 = .ok (.iload_n 3, 1) := by decide +kernel
theorem d_N_init_71 : decode b_N_init 71 = .ok (.putfield 41, 3) := by decide +kernel
theorem d_N_init_74 : decode b_N_init 74 = .ok (.aload_n 0, 1) := by decide +kernel
theorem d_N_init_75 : decode b_N_init 75 = .ok (.getfield 15, 3) := by decide +kernel
theorem d_N_init_78 : decode b_N_init 78 = .ok (.ldc2_w 44, 3) := by decide +kernel
theorem d_N_init_81 : decode b_N_init 81 = .ok (.invokestatic 46, 3) := by decide +kernel
theorem d_N_init_84 : decode b_N_init 84 = .ok (.aload_n 0, 1) := by decide +kernel
theorem d_N_init_85 : decode b_N_init 85 = .ok (.getfield 29, 3) := by decide +kernel
theorem d_N_init_88 : decode b_N_init 88 = .ok (.ldc2_w 44, 3) := by decide +kernel
theorem d_N_init_91 : decode b_N_init 91 = .ok (.invokestatic 46, 3) := by decide +kernel
theorem d_N_init_94 : decode b_N_init 94 = .ok (.aload_n 0, 1) := by decide +kernel
theorem d_N_init_95 : decode b_N_init 95 = .ok (.getfield 32, 3) := by decide +kernel
theorem d_N_init_98 : decode b_N_init 98 = .ok (.ldc2_w 44, 3) := by decide +kernel
theorem d_N_init_101 : decode b_N_init 101 = .ok (.invokestatic 46, 3) := by decide +kernel
theorem d_N_init_104 : decode b_N_init 104 = .ok (.aload_n 0, 1) := by decide +kernel
theorem d_N_init_105 : decode b_N_init 105 = .ok (.getfield 26, 3) := by decide +kernel
theorem d_N_init_108 : decode b_N_init 108 = .ok (.lload 4, 2) := by decide +kernel
theorem d_N_init_110 : decode b_N_init 110 = .ok (.invokestatic 46, 3) := by decide +kernel
theorem d_N_init_113 : decode b_N_init 113 = .ok (.return_, 1) := by decide +kernel
theorem d_N_condition_0 : decode b_N_condition 0 = .ok (.aload_n 0, 1) := by decide +kernel
theorem d_N_condition_1 : decode b_N_condition 1 = .ok (.getfield 9, 3) := by decide +kernel
theorem d_N_condition_4 : decode b_N_condition 4 = .ok (.ireturn, 1) := by decide +kernel
theorem d_N_said_0 : decode b_N_said 0 = .ok (.aload_n 0, 1) := by decide +kernel
theorem d_N_said_1 : decode b_N_said 1 = .ok (.getfield 15, 3) := by decide +kernel
theorem d_N_said_4 : decode b_N_said 4 = .ok (.iload_n 1, 1) := by decide +kernel
theorem d_N_said_5 : decode b_N_said 5 = .ok (.laload, 1) := by decide +kernel
theorem d_N_said_6 : decode b_N_said 6 = .ok (.lreturn, 1) := by decide +kernel
theorem d_N_acceptedFor_0 : decode b_N_acceptedFor 0 = .ok (.aload_n 0, 1) := by decide +kernel
theorem d_N_acceptedFor_1 : decode b_N_acceptedFor 1 = .ok (.getfield 32, 3) := by decide +kernel
theorem d_N_acceptedFor_4 : decode b_N_acceptedFor 4 = .ok (.iload_n 1, 1) := by decide +kernel
theorem d_N_acceptedFor_5 : decode b_N_acceptedFor 5 = .ok (.laload, 1) := by decide +kernel
theorem d_N_acceptedFor_6 : decode b_N_acceptedFor 6 = .ok (.lreturn, 1) := by decide +kernel
theorem d_N_appliedOf_0 : decode b_N_appliedOf 0 = .ok (.aload_n 0, 1) := by decide +kernel
theorem d_N_appliedOf_1 : decode b_N_appliedOf 1 = .ok (.getfield 19, 3) := by decide +kernel
theorem d_N_appliedOf_4 : decode b_N_appliedOf 4 = .ok (.iload_n 1, 1) := by decide +kernel
theorem d_N_appliedOf_5 : decode b_N_appliedOf 5 = .ok (.iaload, 1) := by decide +kernel
theorem d_N_appliedOf_6 : decode b_N_appliedOf 6 = .ok (.ireturn, 1) := by decide +kernel
theorem d_N_balanceOf_0 : decode b_N_balanceOf 0 = .ok (.aload_n 0, 1) := by decide +kernel
theorem d_N_balanceOf_1 : decode b_N_balanceOf 1 = .ok (.getfield 26, 3) := by decide +kernel
theorem d_N_balanceOf_4 : decode b_N_balanceOf 4 = .ok (.iload_n 1, 1) := by decide +kernel
theorem d_N_balanceOf_5 : decode b_N_balanceOf 5 = .ok (.laload, 1) := by decide +kernel
theorem d_N_balanceOf_6 : decode b_N_balanceOf 6 = .ok (.lreturn, 1) := by decide +kernel
theorem d_N_freedOf_0 : decode b_N_freedOf 0 = .ok (.aload_n 0, 1) := by decide +kernel
theorem d_N_freedOf_1 : decode b_N_freedOf 1 = .ok (.getfield 23, 3) := by decide +kernel
theorem d_N_freedOf_4 : decode b_N_freedOf 4 = .ok (.iload_n 1, 1) := by decide +kernel
theorem d_N_freedOf_5 : decode b_N_freedOf 5 = .ok (.iaload, 1) := by decide +kernel
theorem d_N_freedOf_6 : decode b_N_freedOf 6 = .ok (.ireturn, 1) := by decide +kernel
theorem d_N_turnFaulty_0 : decode b_N_turnFaulty 0 = .ok (.aload_n 0, 1) := by decide +kernel
theorem d_N_turnFaulty_1 : decode b_N_turnFaulty 1 = .ok (.iconst 2, 1) := by decide +kernel
theorem d_N_turnFaulty_2 : decode b_N_turnFaulty 2 = .ok (.putfield 9, 3) := by decide +kernel
theorem d_N_turnFaulty_5 : decode b_N_turnFaulty 5 = .ok (.return_, 1) := by decide +kernel
theorem d_N_comeUp_0 : decode b_N_comeUp 0 = .ok (.aload_n 0, 1) := by decide +kernel
theorem d_N_comeUp_1 : decode b_N_comeUp 1 = .ok (.iconst 0, 1) := by decide +kernel
theorem d_N_comeUp_2 : decode b_N_comeUp 2 = .ok (.putfield 9, 3) := by decide +kernel
theorem d_N_comeUp_5 : decode b_N_comeUp 5 = .ok (.return_, 1) := by decide +kernel
theorem d_N_setFuse_0 : decode b_N_setFuse 0 = .ok (.aload_n 0, 1) := by decide +kernel
theorem d_N_setFuse_1 : decode b_N_setFuse 1 = .ok (.iload_n 1, 1) := by decide +kernel
theorem d_N_setFuse_2 : decode b_N_setFuse 2 = .ok (.putfield 52, 3) := by decide +kernel
theorem d_N_setFuse_5 : decode b_N_setFuse 5 = .ok (.return_, 1) := by decide +kernel
theorem d_N_goDown_0 : decode b_N_goDown 0 = .ok (.aload_n 0, 1) := by decide +kernel
theorem d_N_goDown_1 : decode b_N_goDown 1 = .ok (.iconst 1, 1) := by decide +kernel
theorem d_N_goDown_2 : decode b_N_goDown 2 = .ok (.putfield 9, 3) := by decide +kernel
theorem d_N_goDown_5 : decode b_N_goDown 5 = .ok (.aload_n 0, 1) := by decide +kernel
theorem d_N_goDown_6 : decode b_N_goDown 6 = .ok (.iconst 0, 1) := by decide +kernel
theorem d_N_goDown_7 : decode b_N_goDown 7 = .ok (.putfield 52, 3) := by decide +kernel
theorem d_N_goDown_10 : decode b_N_goDown 10 = .ok (.aload_n 0, 1) := by decide +kernel
theorem d_N_goDown_11 : decode b_N_goDown 11 = .ok (.getfield 29, 3) := by decide +kernel
theorem d_N_goDown_14 : decode b_N_goDown 14 = .ok (.ldc2_w 44, 3) := by decide +kernel
theorem d_N_goDown_17 : decode b_N_goDown 17 = .ok (.invokestatic 46, 3) := by decide +kernel
theorem d_N_goDown_20 : decode b_N_goDown 20 = .ok (.aload_n 0, 1) := by decide +kernel
theorem d_N_goDown_21 : decode b_N_goDown 21 = .ok (.getfield 32, 3) := by decide +kernel
theorem d_N_goDown_24 : decode b_N_goDown 24 = .ok (.ldc2_w 44, 3) := by decide +kernel
theorem d_N_goDown_27 : decode b_N_goDown 27 = .ok (.invokestatic 46, 3) := by decide +kernel
theorem d_N_goDown_30 : decode b_N_goDown 30 = .ok (.return_, 1) := by decide +kernel
theorem d_N_writeSubmission_0 : decode b_N_writeSubmission 0 = .ok (.aload_n 0, 1) := by decide +kernel
theorem d_N_writeSubmission_1 : decode b_N_writeSubmission 1 = .ok (.getfield 55, 3) := by decide +kernel
theorem d_N_writeSubmission_4 : decode b_N_writeSubmission 4 = .ok (.iconst 5, 1) := by decide +kernel
theorem d_N_writeSubmission_5 : decode b_N_writeSubmission 5 = .ok (.if_icmp .lt 6, 3) := by decide +kernel
theorem d_N_writeSubmission_8 : decode b_N_writeSubmission 8 = .ok (.bipush (-8), 2) := by decide +kernel
theorem d_N_writeSubmission_10 : decode b_N_writeSubmission 10 = .ok (.ireturn, 1) := by decide +kernel
theorem d_N_writeSubmission_11 : decode b_N_writeSubmission 11 = .ok (.aload_n 0, 1) := by decide +kernel
theorem d_N_writeSubmission_12 : decode b_N_writeSubmission 12 = .ok (.invokevirtual 58, 3) := by decide +kernel
theorem d_N_writeSubmission_15 : decode b_N_writeSubmission 15 = .ok (.iload_n 2, 1) := by decide +kernel
theorem d_N_writeSubmission_16 : decode b_N_writeSubmission 16 = .ok (.i2l, 1) := by decide +kernel
theorem d_N_writeSubmission_17 : decode b_N_writeSubmission 17 = .ok (.lcmp, 1) := by decide +kernel
theorem d_N_writeSubmission_18 : decode b_N_writeSubmission 18 = .ok (.ifCond .ge 6, 3) := by decide +kernel
theorem d_N_writeSubmission_21 : decode b_N_writeSubmission 21 = .ok (.bipush (-9), 2) := by decide +kernel
theorem d_N_writeSubmission_23 : decode b_N_writeSubmission 23 = .ok (.ireturn, 1) := by decide +kernel
theorem d_N_writeSubmission_24 : decode b_N_writeSubmission 24 = .ok (.aload_n 0, 1) := by decide +kernel
theorem d_N_writeSubmission_25 : decode b_N_writeSubmission 25 = .ok (.iconst 0, 1) := by decide +kernel
theorem d_N_writeSubmission_26 : decode b_N_writeSubmission 26 = .ok (.aload_n 0, 1) := by decide +kernel
theorem d_N_writeSubmission_27 : decode b_N_writeSubmission 27 = .ok (.getfield 35, 3) := by decide +kernel
theorem d_N_writeSubmission_30 : decode b_N_writeSubmission 30 = .ok (.aload_n 0, 1) := by decide +kernel
theorem d_N_writeSubmission_31 : decode b_N_writeSubmission 31 = .ok (.getfield 55, 3) := by decide +kernel
theorem d_N_writeSubmission_34 : decode b_N_writeSubmission 34 = .ok (.iconst 1, 1) := by decide +kernel
theorem d_N_writeSubmission_35 : decode b_N_writeSubmission 35 = .ok (.iadd, 1) := by decide +kernel
theorem d_N_writeSubmission_36 : decode b_N_writeSubmission 36 = .ok (.invokestatic 62, 3) := by decide +kernel
theorem d_N_writeSubmission_39 : decode b_N_writeSubmission 39 = .ok (.iload_n 1, 1) := by decide +kernel
theorem d_N_writeSubmission_40 : decode b_N_writeSubmission 40 = .ok (.iload_n 2, 1) := by decide +kernel
theorem d_N_writeSubmission_41 : decode b_N_writeSubmission 41 = .ok (.aload_n 0, 1) := by decide +kernel
theorem d_N_writeSubmission_42 : decode b_N_writeSubmission 42 = .ok (.invokevirtual 68, 3) := by decide +kernel
theorem d_N_writeSubmission_45 : decode b_N_writeSubmission 45 = .ok (.invokestatic 71, 3) := by decide +kernel
theorem d_N_writeSubmission_48 : decode b_N_writeSubmission 48 = .ok (.invokevirtual 77, 3) := by decide +kernel
theorem d_N_writeSubmission_51 : decode b_N_writeSubmission 51 = .ok (.ifCond .ne 6, 3) := by decide +kernel
theorem d_N_writeSubmission_54 : decode b_N_writeSubmission 54 = .ok (.bipush (-7), 2) := by decide +kernel
theorem d_N_writeSubmission_56 : decode b_N_writeSubmission 56 = .ok (.ireturn, 1) := by decide +kernel
theorem d_N_writeSubmission_57 : decode b_N_writeSubmission 57 = .ok (.aload_n 0, 1) := by decide +kernel
theorem d_N_writeSubmission_58 : decode b_N_writeSubmission 58 = .ok (.dup, 1) := by decide +kernel
theorem d_N_writeSubmission_59 : decode b_N_writeSubmission 59 = .ok (.getfield 55, 3) := by decide +kernel
theorem d_N_writeSubmission_62 : decode b_N_writeSubmission 62 = .ok (.iconst 1, 1) := by decide +kernel
theorem d_N_writeSubmission_63 : decode b_N_writeSubmission 63 = .ok (.iadd, 1) := by decide +kernel
theorem d_N_writeSubmission_64 : decode b_N_writeSubmission 64 = .ok (.putfield 55, 3) := by decide +kernel
theorem d_N_writeSubmission_67 : decode b_N_writeSubmission 67 = .ok (.aload_n 0, 1) := by decide +kernel
theorem d_N_writeSubmission_68 : decode b_N_writeSubmission 68 = .ok (.getfield 55, 3) := by decide +kernel
theorem d_N_writeSubmission_71 : decode b_N_writeSubmission 71 = .ok (.ireturn, 1) := by decide +kernel
theorem d_N_writeMark_0 : decode b_N_writeMark 0 = .ok (.lconst 0, 1) := by decide +kernel
theorem d_N_writeMark_1 : decode b_N_writeMark 1 = .ok (.lstore_n 1, 1) := by decide +kernel
theorem d_N_writeMark_2 : decode b_N_writeMark 2 = .ok (.iconst 0, 1) := by decide +kernel
theorem d_N_writeMark_3 : decode b_N_writeMark 3 = .ok (.istore_n 3, 1) := by decide +kernel
theorem d_N_writeMark_4 : decode b_N_writeMark 4 = .ok (.iload_n 3, 1) := by decide +kernel
theorem d_N_writeMark_5 : decode b_N_writeMark 5 = .ok (.aload_n 0, 1) := by decide +kernel
theorem d_N_writeMark_6 : decode b_N_writeMark 6 = .ok (.getfield 38, 3) := by decide +kernel
theorem d_N_writeMark_9 : decode b_N_writeMark 9 = .ok (.if_icmp .ge 23, 3) := by decide +kernel
theorem d_N_writeMark_12 : decode b_N_writeMark 12 = .ok (.lload_n 1, 1) := by decide +kernel
theorem d_N_writeMark_13 : decode b_N_writeMark 13 = .ok (.aload_n 0, 1) := by decide +kernel
theorem d_N_writeMark_14 : decode b_N_writeMark 14 = .ok (.getfield 19, 3) := by decide +kernel
theorem d_N_writeMark_17 : decode b_N_writeMark 17 = .ok (.iload_n 3, 1) := by decide +kernel
theorem d_N_writeMark_18 : decode b_N_writeMark 18 = .ok (.iaload, 1) := by decide +kernel
theorem d_N_writeMark_19 : decode b_N_writeMark 19 = .ok (.i2l, 1) := by decide +kernel
theorem d_N_writeMark_20 : decode b_N_writeMark 20 = .ok (.iconst 3, 1) := by decide +kernel
theorem d_N_writeMark_21 : decode b_N_writeMark 21 = .ok (.iload_n 3, 1) := by decide +kernel
theorem d_N_writeMark_22 : decode b_N_writeMark 22 = .ok (.imul, 1) := by decide +kernel
theorem d_N_writeMark_23 : decode b_N_writeMark 23 = .ok (.lshl, 1) := by decide +kernel
theorem d_N_writeMark_24 : decode b_N_writeMark 24 = .ok (.lor, 1) := by decide +kernel
theorem d_N_writeMark_25 : decode b_N_writeMark 25 = .ok (.lstore_n 1, 1) := by decide +kernel
theorem d_N_writeMark_26 : decode b_N_writeMark 26 = .ok (.iinc 3 1, 3) := by decide +kernel
theorem d_N_writeMark_29 : decode b_N_writeMark 29 = .ok (.goto (-25), 3) := by decide +kernel
theorem d_N_writeMark_32 : decode b_N_writeMark 32 = .ok (.aload_n 0, 1) := by decide +kernel
theorem d_N_writeMark_33 : decode b_N_writeMark 33 = .ok (.sipush 140, 3) := by decide +kernel
theorem d_N_writeMark_36 : decode b_N_writeMark 36 = .ok (.lload_n 1, 1) := by decide +kernel
theorem d_N_writeMark_37 : decode b_N_writeMark 37 = .ok (.invokevirtual 77, 3) := by decide +kernel
theorem d_N_writeMark_40 : decode b_N_writeMark 40 = .ok (.ifCond .eq 8, 3) := by decide +kernel
theorem d_N_writeMark_43 : decode b_N_writeMark 43 = .ok (.lload_n 1, 1) := by decide +kernel
theorem d_N_writeMark_44 : decode b_N_writeMark 44 = .ok (.l2i, 1) := by decide +kernel
theorem d_N_writeMark_45 : decode b_N_writeMark 45 = .ok (.goto 5, 3) := by decide +kernel
theorem d_N_writeMark_48 : decode b_N_writeMark 48 = .ok (.bipush (-7), 2) := by decide +kernel
theorem d_N_writeMark_50 : decode b_N_writeMark 50 = .ok (.ireturn, 1) := by decide +kernel
theorem d_N_receive_0 : decode b_N_receive 0 = .ok (.aload_n 0, 1) := by decide +kernel
theorem d_N_receive_1 : decode b_N_receive 1 = .ok (.iload_n 1, 1) := by decide +kernel
theorem d_N_receive_2 : decode b_N_receive 2 = .ok (.lload_n 3, 1) := by decide +kernel
theorem d_N_receive_3 : decode b_N_receive 3 = .ok (.invokevirtual 81, 3) := by decide +kernel
theorem d_N_receive_6 : decode b_N_receive 6 = .ok (.ifCond .ne 6, 3) := by decide +kernel
theorem d_N_receive_9 : decode b_N_receive 9 = .ok (.bipush (-3), 2) := by decide +kernel
theorem d_N_receive_11 : decode b_N_receive 11 = .ok (.ireturn, 1) := by decide +kernel
theorem d_N_receive_12 : decode b_N_receive 12 = .ok (.aload_n 0, 1) := by decide +kernel
theorem d_N_receive_13 : decode b_N_receive 13 = .ok (.iload_n 1, 1) := by decide +kernel
theorem d_N_receive_14 : decode b_N_receive 14 = .ok (.iload_n 2, 1) := by decide +kernel
theorem d_N_receive_15 : decode b_N_receive 15 = .ok (.lload_n 3, 1) := by decide +kernel
theorem d_N_receive_16 : decode b_N_receive 16 = .ok (.invokevirtual 84, 3) := by decide +kernel
theorem d_N_receive_19 : decode b_N_receive 19 = .ok (.istore 5, 2) := by decide +kernel
theorem d_N_receive_21 : decode b_N_receive 21 = .ok (.iload 5, 2) := by decide +kernel
theorem d_N_receive_23 : decode b_N_receive 23 = .ok (.ifCond .ne 13, 3) := by decide +kernel
theorem d_N_receive_26 : decode b_N_receive 26 = .ok (.aload_n 0, 1) := by decide +kernel
theorem d_N_receive_27 : decode b_N_receive 27 = .ok (.iload_n 1, 1) := by decide +kernel
theorem d_N_receive_28 : decode b_N_receive 28 = .ok (.iload_n 2, 1) := by decide +kernel
theorem d_N_receive_29 : decode b_N_receive 29 = .ok (.lload_n 3, 1) := by decide +kernel
theorem d_N_receive_30 : decode b_N_receive 30 = .ok (.invokevirtual 88, 3) := by decide +kernel
theorem d_N_receive_33 : decode b_N_receive 33 = .ok (.goto 5, 3) := by decide +kernel
theorem d_N_receive_36 : decode b_N_receive 36 = .ok (.iload 5, 2) := by decide +kernel
theorem d_N_receive_38 : decode b_N_receive 38 = .ok (.ireturn, 1) := by decide +kernel
theorem d_N_wouldTake_0 : decode b_N_wouldTake 0 = .ok (.aload_n 0, 1) := by decide +kernel
theorem d_N_wouldTake_1 : decode b_N_wouldTake 1 = .ok (.getfield 9, 3) := by decide +kernel
theorem d_N_wouldTake_4 : decode b_N_wouldTake 4 = .ok (.ifCond .ne 33, 3) := by decide +kernel
theorem d_N_wouldTake_7 : decode b_N_wouldTake 7 = .ok (.aload_n 0, 1) := by decide +kernel
theorem d_N_wouldTake_8 : decode b_N_wouldTake 8 = .ok (.getfield 29, 3) := by decide +kernel
theorem d_N_wouldTake_11 : decode b_N_wouldTake 11 = .ok (.iload_n 1, 1) := by decide +kernel
theorem d_N_wouldTake_12 : decode b_N_wouldTake 12 = .ok (.bipush 7, 2) := by decide +kernel
theorem d_N_wouldTake_14 : decode b_N_wouldTake 14 = .ok (.imul, 1) := by decide +kernel
theorem d_N_wouldTake_15 : decode b_N_wouldTake 15 = .ok (.iload_n 2, 1) := by decide +kernel
theorem d_N_wouldTake_16 : decode b_N_wouldTake 16 = .ok (.iadd, 1) := by decide +kernel
theorem d_N_wouldTake_17 : decode b_N_wouldTake 17 = .ok (.laload, 1) := by decide +kernel
theorem d_N_wouldTake_18 : decode b_N_wouldTake 18 = .ok (.lload_n 3, 1) := by decide +kernel
theorem d_N_wouldTake_19 : decode b_N_wouldTake 19 = .ok (.lcmp, 1) := by decide +kernel
theorem d_N_wouldTake_20 : decode b_N_wouldTake 20 = .ok (.ifCond .eq 17, 3) := by decide +kernel
theorem d_N_wouldTake_23 : decode b_N_wouldTake 23 = .ok (.aload_n 0, 1) := by decide +kernel
theorem d_N_wouldTake_24 : decode b_N_wouldTake 24 = .ok (.iload_n 1, 1) := by decide +kernel
theorem d_N_wouldTake_25 : decode b_N_wouldTake 25 = .ok (.iload_n 2, 1) := by decide +kernel
theorem d_N_wouldTake_26 : decode b_N_wouldTake 26 = .ok (.lload_n 3, 1) := by decide +kernel
theorem d_N_wouldTake_27 : decode b_N_wouldTake 27 = .ok (.invokevirtual 84, 3) := by decide +kernel
theorem d_N_wouldTake_30 : decode b_N_wouldTake 30 = .ok (.ifCond .ne 7, 3) := by decide +kernel
theorem d_N_wouldTake_33 : decode b_N_wouldTake 33 = .ok (.iconst 1, 1) := by decide +kernel
theorem d_N_wouldTake_34 : decode b_N_wouldTake 34 = .ok (.goto 4, 3) := by decide +kernel
theorem d_N_wouldTake_37 : decode b_N_wouldTake 37 = .ok (.iconst 0, 1) := by decide +kernel
theorem d_N_wouldTake_38 : decode b_N_wouldTake 38 = .ok (.ireturn, 1) := by decide +kernel
theorem d_N_objection_0 : decode b_N_objection 0 = .ok (.iload_n 1, 1) := by decide +kernel
theorem d_N_objection_1 : decode b_N_objection 1 = .ok (.invokestatic 91, 3) := by decide +kernel
theorem d_N_objection_4 : decode b_N_objection 4 = .ok (.istore 5, 2) := by decide +kernel
theorem d_N_objection_6 : decode b_N_objection 6 = .ok (.aload_n 0, 1) := by decide +kernel
theorem d_N_objection_7 : decode b_N_objection 7 = .ok (.getfield 29, 3) := by decide +kernel
theorem d_N_objection_10 : decode b_N_objection 10 = .ok (.iload_n 1, 1) := by decide +kernel
theorem d_N_objection_11 : decode b_N_objection 11 = .ok (.bipush 7, 2) := by decide +kernel
theorem d_N_objection_13 : decode b_N_objection 13 = .ok (.imul, 1) := by decide +kernel
theorem d_N_objection_14 : decode b_N_objection 14 = .ok (.iload_n 2, 1) := by decide +kernel
theorem d_N_objection_15 : decode b_N_objection 15 = .ok (.iadd, 1) := by decide +kernel
theorem d_N_objection_16 : decode b_N_objection 16 = .ok (.laload, 1) := by decide +kernel
theorem d_N_objection_17 : decode b_N_objection 17 = .ok (.lstore 6, 2) := by decide +kernel
theorem d_N_objection_19 : decode b_N_objection 19 = .ok (.iload 5, 2) := by decide +kernel
theorem d_N_objection_21 : decode b_N_objection 21 = .ok (.iconst 4, 1) := by decide +kernel
theorem d_N_objection_22 : decode b_N_objection 22 = .ok (.if_icmp .ne 17, 3) := by decide +kernel
theorem d_N_objection_25 : decode b_N_objection 25 = .ok (.lload 6, 2) := by decide +kernel
theorem d_N_objection_27 : decode b_N_objection 27 = .ok (.lload_n 3, 1) := by decide +kernel
theorem d_N_objection_28 : decode b_N_objection 28 = .ok (.lcmp, 1) := by decide +kernel
theorem d_N_objection_29 : decode b_N_objection 29 = .ok (.ifCond .ne 8, 3) := by decide +kernel
theorem d_N_objection_32 : decode b_N_objection 32 = .ok (.bipush (-6), 2) := by decide +kernel
theorem d_N_objection_34 : decode b_N_objection 34 = .ok (.goto 4, 3) := by decide +kernel
theorem d_N_objection_37 : decode b_N_objection 37 = .ok (.iconst 0, 1) := by decide +kernel
theorem d_N_objection_38 : decode b_N_objection 38 = .ok (.ireturn, 1) := by decide +kernel
theorem d_N_objection_39 : decode b_N_objection 39 = .ok (.iload_n 1, 1) := by decide +kernel
theorem d_N_objection_40 : decode b_N_objection 40 = .ok (.invokestatic 95, 3) := by decide +kernel
theorem d_N_objection_43 : decode b_N_objection 43 = .ok (.istore 8, 2) := by decide +kernel
theorem d_N_objection_45 : decode b_N_objection 45 = .ok (.iload 5, 2) := by decide +kernel
theorem d_N_objection_47 : decode b_N_objection 47 = .ok (.ifCond .ne 12, 3) := by decide +kernel
theorem d_N_objection_50 : decode b_N_objection 50 = .ok (.iload_n 2, 1) := by decide +kernel
theorem d_N_objection_51 : decode b_N_objection 51 = .ok (.iload 8, 2) := by decide +kernel
theorem d_N_objection_53 : decode b_N_objection 53 = .ok (.if_icmp .eq 6, 3) := by decide +kernel
theorem d_N_objection_56 : decode b_N_objection 56 = .ok (.bipush (-4), 2) := by decide +kernel
theorem d_N_objection_58 : decode b_N_objection 58 = .ok (.ireturn, 1) := by decide +kernel
theorem d_N_objection_59 : decode b_N_objection 59 = .ok (.iload_n 1, 1) := by decide +kernel
theorem d_N_objection_60 : decode b_N_objection 60 = .ok (.invokestatic 98, 3) := by decide +kernel
theorem d_N_objection_63 : decode b_N_objection 63 = .ok (.aload_n 0, 1) := by decide +kernel
theorem d_N_objection_64 : decode b_N_objection 64 = .ok (.getfield 23, 3) := by decide +kernel
theorem d_N_objection_67 : decode b_N_objection 67 = .ok (.iload 8, 2) := by decide +kernel
theorem d_N_objection_69 : decode b_N_objection 69 = .ok (.iaload, 1) := by decide +kernel
theorem d_N_objection_70 : decode b_N_objection 70 = .ok (.if_icmp .gt 6, 3) := by decide +kernel
theorem d_N_objection_73 : decode b_N_objection 73 = .ok (.bipush (-5), 2) := by decide +kernel
theorem d_N_objection_75 : decode b_N_objection 75 = .ok (.ireturn, 1) := by decide +kernel
theorem d_N_objection_76 : decode b_N_objection 76 = .ok (.iload 5, 2) := by decide +kernel
theorem d_N_objection_78 : decode b_N_objection 78 = .ok (.ifCond .ne 18, 3) := by decide +kernel
theorem d_N_objection_81 : decode b_N_objection 81 = .ok (.aload_n 0, 1) := by decide +kernel
theorem d_N_objection_82 : decode b_N_objection 82 = .ok (.getfield 15, 3) := by decide +kernel
theorem d_N_objection_85 : decode b_N_objection 85 = .ok (.iconst 1, 1) := by decide +kernel
theorem d_N_objection_86 : decode b_N_objection 86 = .ok (.iload_n 1, 1) := by decide +kernel
theorem d_N_objection_87 : decode b_N_objection 87 = .ok (.invokestatic 101, 3) := by decide +kernel
theorem d_N_objection_90 : decode b_N_objection 90 = .ok (.invokestatic 104, 3) := by decide +kernel
theorem d_N_objection_93 : decode b_N_objection 93 = .ok (.laload, 1) := by decide +kernel
theorem d_N_objection_94 : decode b_N_objection 94 = .ok (.lstore 6, 2) := by decide +kernel
theorem d_N_objection_96 : decode b_N_objection 96 = .ok (.lload 6, 2) := by decide +kernel
theorem d_N_objection_98 : decode b_N_objection 98 = .ok (.ldc2_w 44, 3) := by decide +kernel
theorem d_N_objection_101 : decode b_N_objection 101 = .ok (.lcmp, 1) := by decide +kernel
theorem d_N_objection_102 : decode b_N_objection 102 = .ok (.ifCond .ne 7, 3) := by decide +kernel
theorem d_N_objection_105 : decode b_N_objection 105 = .ok (.iconst 0, 1) := by decide +kernel
theorem d_N_objection_106 : decode b_N_objection 106 = .ok (.goto 5, 3) := by decide +kernel
theorem d_N_objection_109 : decode b_N_objection 109 = .ok (.bipush (-6), 2) := by decide +kernel
theorem d_N_objection_111 : decode b_N_objection 111 = .ok (.ireturn, 1) := by decide +kernel
theorem d_N_countTellers_0 : decode b_N_countTellers 0 = .ok (.iconst 0, 1) := by decide +kernel
theorem d_N_countTellers_1 : decode b_N_countTellers 1 = .ok (.istore_n 2, 1) := by decide +kernel
theorem d_N_countTellers_2 : decode b_N_countTellers 2 = .ok (.iconst 0, 1) := by decide +kernel
theorem d_N_countTellers_3 : decode b_N_countTellers 3 = .ok (.istore_n 3, 1) := by decide +kernel
theorem d_N_countTellers_4 : decode b_N_countTellers 4 = .ok (.iload_n 3, 1) := by decide +kernel
theorem d_N_countTellers_5 : decode b_N_countTellers 5 = .ok (.aload_n 0, 1) := by decide +kernel
theorem d_N_countTellers_6 : decode b_N_countTellers 6 = .ok (.getfield 38, 3) := by decide +kernel
theorem d_N_countTellers_9 : decode b_N_countTellers 9 = .ok (.if_icmp .ge 30, 3) := by decide +kernel
theorem d_N_countTellers_12 : decode b_N_countTellers 12 = .ok (.aload_n 0, 1) := by decide +kernel
theorem d_N_countTellers_13 : decode b_N_countTellers 13 = .ok (.getfield 29, 3) := by decide +kernel
theorem d_N_countTellers_16 : decode b_N_countTellers 16 = .ok (.iload_n 1, 1) := by decide +kernel
theorem d_N_countTellers_17 : decode b_N_countTellers 17 = .ok (.bipush 7, 2) := by decide +kernel
theorem d_N_countTellers_19 : decode b_N_countTellers 19 = .ok (.imul, 1) := by decide +kernel
theorem d_N_countTellers_20 : decode b_N_countTellers 20 = .ok (.iload_n 3, 1) := by decide +kernel
theorem d_N_countTellers_21 : decode b_N_countTellers 21 = .ok (.iadd, 1) := by decide +kernel
theorem d_N_countTellers_22 : decode b_N_countTellers 22 = .ok (.laload, 1) := by decide +kernel
theorem d_N_countTellers_23 : decode b_N_countTellers 23 = .ok (.ldc2_w 44, 3) := by decide +kernel
theorem d_N_countTellers_26 : decode b_N_countTellers 26 = .ok (.lcmp, 1) := by decide +kernel
theorem d_N_countTellers_27 : decode b_N_countTellers 27 = .ok (.ifCond .eq 6, 3) := by decide +kernel
theorem d_N_countTellers_30 : decode b_N_countTellers 30 = .ok (.iinc 2 1, 3) := by decide +kernel
theorem d_N_countTellers_33 : decode b_N_countTellers 33 = .ok (.iinc 3 1, 3) := by decide +kernel
theorem d_N_countTellers_36 : decode b_N_countTellers 36 = .ok (.goto (-32), 3) := by decide +kernel
theorem d_N_countTellers_39 : decode b_N_countTellers 39 = .ok (.iload_n 2, 1) := by decide +kernel
theorem d_N_countTellers_40 : decode b_N_countTellers 40 = .ok (.ireturn, 1) := by decide +kernel
theorem d_N_countKept_0 : decode b_N_countKept 0 = .ok (.iconst 0, 1) := by decide +kernel
theorem d_N_countKept_1 : decode b_N_countKept 1 = .ok (.istore_n 1, 1) := by decide +kernel
theorem d_N_countKept_2 : decode b_N_countKept 2 = .ok (.iconst 0, 1) := by decide +kernel
theorem d_N_countKept_3 : decode b_N_countKept 3 = .ok (.istore_n 2, 1) := by decide +kernel
theorem d_N_countKept_4 : decode b_N_countKept 4 = .ok (.iload_n 2, 1) := by decide +kernel
theorem d_N_countKept_5 : decode b_N_countKept 5 = .ok (.bipush 35, 2) := by decide +kernel
theorem d_N_countKept_7 : decode b_N_countKept 7 = .ok (.if_icmp .ge 20, 3) := by decide +kernel
theorem d_N_countKept_10 : decode b_N_countKept 10 = .ok (.aload_n 0, 1) := by decide +kernel
theorem d_N_countKept_11 : decode b_N_countKept 11 = .ok (.iload_n 2, 1) := by decide +kernel
theorem d_N_countKept_12 : decode b_N_countKept 12 = .ok (.invokevirtual 108, 3) := by decide +kernel
theorem d_N_countKept_15 : decode b_N_countKept 15 = .ok (.ifCond .eq 6, 3) := by decide +kernel
theorem d_N_countKept_18 : decode b_N_countKept 18 = .ok (.iinc 1 1, 3) := by decide +kernel
theorem d_N_countKept_21 : decode b_N_countKept 21 = .ok (.iinc 2 1, 3) := by decide +kernel
theorem d_N_countKept_24 : decode b_N_countKept 24 = .ok (.goto (-20), 3) := by decide +kernel
theorem d_N_countKept_27 : decode b_N_countKept 27 = .ok (.iload_n 1, 1) := by decide +kernel
theorem d_N_countKept_28 : decode b_N_countKept 28 = .ok (.ireturn, 1) := by decide +kernel
theorem d_N_keeps_0 : decode b_N_keeps 0 = .ok (.aload_n 0, 1) := by decide +kernel
theorem d_N_keeps_1 : decode b_N_keeps 1 = .ok (.getfield 15, 3) := by decide +kernel
theorem d_N_keeps_4 : decode b_N_keeps 4 = .ok (.iconst 1, 1) := by decide +kernel
theorem d_N_keeps_5 : decode b_N_keeps 5 = .ok (.iload_n 1, 1) := by decide +kernel
theorem d_N_keeps_6 : decode b_N_keeps 6 = .ok (.invokestatic 104, 3) := by decide +kernel
theorem d_N_keeps_9 : decode b_N_keeps 9 = .ok (.laload, 1) := by decide +kernel
theorem d_N_keeps_10 : decode b_N_keeps 10 = .ok (.ldc2_w 44, 3) := by decide +kernel
theorem d_N_keeps_13 : decode b_N_keeps 13 = .ok (.lcmp, 1) := by decide +kernel
theorem d_N_keeps_14 : decode b_N_keeps 14 = .ok (.ifCond .ne 20, 3) := by decide +kernel
theorem d_N_keeps_17 : decode b_N_keeps 17 = .ok (.aload_n 0, 1) := by decide +kernel
theorem d_N_keeps_18 : decode b_N_keeps 18 = .ok (.getfield 15, 3) := by decide +kernel
theorem d_N_keeps_21 : decode b_N_keeps 21 = .ok (.iconst 2, 1) := by decide +kernel
theorem d_N_keeps_22 : decode b_N_keeps 22 = .ok (.iload_n 1, 1) := by decide +kernel
theorem d_N_keeps_23 : decode b_N_keeps 23 = .ok (.invokestatic 104, 3) := by decide +kernel
theorem d_N_keeps_26 : decode b_N_keeps 26 = .ok (.laload, 1) := by decide +kernel
theorem d_N_keeps_27 : decode b_N_keeps 27 = .ok (.ldc2_w 44, 3) := by decide +kernel
theorem d_N_keeps_30 : decode b_N_keeps 30 = .ok (.lcmp, 1) := by decide +kernel
theorem d_N_keeps_31 : decode b_N_keeps 31 = .ok (.ifCond .eq 5, 3) := by decide +kernel
theorem d_N_keeps_34 : decode b_N_keeps 34 = .ok (.iconst 1, 1) := by decide +kernel
theorem d_N_keeps_35 : decode b_N_keeps 35 = .ok (.ireturn, 1) := by decide +kernel
theorem d_N_keeps_36 : decode b_N_keeps 36 = .ok (.aload_n 0, 1) := by decide +kernel
theorem d_N_keeps_37 : decode b_N_keeps 37 = .ok (.iconst 1, 1) := by decide +kernel
theorem d_N_keeps_38 : decode b_N_keeps 38 = .ok (.iload_n 1, 1) := by decide +kernel
theorem d_N_keeps_39 : decode b_N_keeps 39 = .ok (.invokestatic 104, 3) := by decide +kernel
theorem d_N_keeps_42 : decode b_N_keeps 42 = .ok (.invokevirtual 112, 3) := by decide +kernel
theorem d_N_keeps_45 : decode b_N_keeps 45 = .ok (.ifCond .gt 27, 3) := by decide +kernel
theorem d_N_keeps_48 : decode b_N_keeps 48 = .ok (.aload_n 0, 1) := by decide +kernel
theorem d_N_keeps_49 : decode b_N_keeps 49 = .ok (.iconst 2, 1) := by decide +kernel
theorem d_N_keeps_50 : decode b_N_keeps 50 = .ok (.iload_n 1, 1) := by decide +kernel
theorem d_N_keeps_51 : decode b_N_keeps 51 = .ok (.invokestatic 104, 3) := by decide +kernel
theorem d_N_keeps_54 : decode b_N_keeps 54 = .ok (.invokevirtual 112, 3) := by decide +kernel
theorem d_N_keeps_57 : decode b_N_keeps 57 = .ok (.ifCond .gt 15, 3) := by decide +kernel
theorem d_N_keeps_60 : decode b_N_keeps 60 = .ok (.aload_n 0, 1) := by decide +kernel
theorem d_N_keeps_61 : decode b_N_keeps 61 = .ok (.iconst 3, 1) := by decide +kernel
theorem d_N_keeps_62 : decode b_N_keeps 62 = .ok (.iload_n 1, 1) := by decide +kernel
theorem d_N_keeps_63 : decode b_N_keeps 63 = .ok (.invokestatic 104, 3) := by decide +kernel
theorem d_N_keeps_66 : decode b_N_keeps 66 = .ok (.invokevirtual 112, 3) := by decide +kernel
theorem d_N_keeps_69 : decode b_N_keeps 69 = .ok (.ifCond .le 7, 3) := by decide +kernel
theorem d_N_keeps_72 : decode b_N_keeps 72 = .ok (.iconst 1, 1) := by decide +kernel
theorem d_N_keeps_73 : decode b_N_keeps 73 = .ok (.goto 4, 3) := by decide +kernel
theorem d_N_keeps_76 : decode b_N_keeps 76 = .ok (.iconst 0, 1) := by decide +kernel
theorem d_N_keeps_77 : decode b_N_keeps 77 = .ok (.ireturn, 1) := by decide +kernel
theorem d_N_isWellFormed_0 : decode b_N_isWellFormed 0 = .ok (.iload_n 1, 1) := by decide +kernel
theorem d_N_isWellFormed_1 : decode b_N_isWellFormed 1 = .ok (.sipush 140, 3) := by decide +kernel
theorem d_N_isWellFormed_4 : decode b_N_isWellFormed 4 = .ok (.if_icmp .ne 12, 3) := by decide +kernel
theorem d_N_isWellFormed_7 : decode b_N_isWellFormed 7 = .ok (.lload_n 2, 1) := by decide +kernel
theorem d_N_isWellFormed_8 : decode b_N_isWellFormed 8 = .ok (.aload_n 0, 1) := by decide +kernel
theorem d_N_isWellFormed_9 : decode b_N_isWellFormed 9 = .ok (.getfield 38, 3) := by decide +kernel
theorem d_N_isWellFormed_12 : decode b_N_isWellFormed 12 = .ok (.invokestatic 115, 3) := by decide +kernel
theorem d_N_isWellFormed_15 : decode b_N_isWellFormed 15 = .ok (.ireturn, 1) := by decide +kernel
theorem d_N_isWellFormed_16 : decode b_N_isWellFormed 16 = .ok (.lload_n 2, 1) := by decide +kernel
theorem d_N_isWellFormed_17 : decode b_N_isWellFormed 17 = .ok (.iload_n 1, 1) := by decide +kernel
theorem d_N_isWellFormed_18 : decode b_N_isWellFormed 18 = .ok (.invokestatic 95, 3) := by decide +kernel
theorem d_N_isWellFormed_21 : decode b_N_isWellFormed 21 = .ok (.aload_n 0, 1) := by decide +kernel
theorem d_N_isWellFormed_22 : decode b_N_isWellFormed 22 = .ok (.getfield 38, 3) := by decide +kernel
theorem d_N_isWellFormed_25 : decode b_N_isWellFormed 25 = .ok (.invokestatic 119, 3) := by decide +kernel
theorem d_N_isWellFormed_28 : decode b_N_isWellFormed 28 = .ok (.ireturn, 1) := by decide +kernel
theorem d_N_take_0 : decode b_N_take 0 = .ok (.iload_n 1, 1) := by decide +kernel
theorem d_N_take_1 : decode b_N_take 1 = .ok (.invokestatic 91, 3) := by decide +kernel
theorem d_N_take_4 : decode b_N_take 4 = .ok (.istore 5, 2) := by decide +kernel
theorem d_N_take_6 : decode b_N_take 6 = .ok (.iload_n 1, 1) := by decide +kernel
theorem d_N_take_7 : decode b_N_take 7 = .ok (.invokestatic 101, 3) := by decide +kernel
theorem d_N_take_10 : decode b_N_take 10 = .ok (.istore 6, 2) := by decide +kernel
theorem d_N_take_12 : decode b_N_take 12 = .ok (.iload 5, 2) := by decide +kernel
theorem d_N_take_14 : decode b_N_take 14 = .ok (.ifCond .ne 24, 3) := by decide +kernel
theorem d_N_take_17 : decode b_N_take 17 = .ok (.aload_n 0, 1) := by decide +kernel
theorem d_N_take_18 : decode b_N_take 18 = .ok (.iconst 1, 1) := by decide +kernel
theorem d_N_take_19 : decode b_N_take 19 = .ok (.iload 6, 2) := by decide +kernel
theorem d_N_take_21 : decode b_N_take 21 = .ok (.invokestatic 104, 3) := by decide +kernel
theorem d_N_take_24 : decode b_N_take 24 = .ok (.lload_n 3, 1) := by decide +kernel
theorem d_N_take_25 : decode b_N_take 25 = .ok (.invokevirtual 77, 3) := by decide +kernel
theorem d_N_take_28 : decode b_N_take 28 = .ok (.ifCond .eq 7, 3) := by decide +kernel
theorem d_N_take_31 : decode b_N_take 31 = .ok (.iconst 0, 1) := by decide +kernel
theorem d_N_take_32 : decode b_N_take 32 = .ok (.goto 5, 3) := by decide +kernel
theorem d_N_take_35 : decode b_N_take 35 = .ok (.bipush (-7), 2) := by decide +kernel
theorem d_N_take_37 : decode b_N_take 37 = .ok (.ireturn, 1) := by decide +kernel
theorem d_N_take_38 : decode b_N_take 38 = .ok (.aload_n 0, 1) := by decide +kernel
theorem d_N_take_39 : decode b_N_take 39 = .ok (.getfield 29, 3) := by decide +kernel
theorem d_N_take_42 : decode b_N_take 42 = .ok (.iload_n 1, 1) := by decide +kernel
theorem d_N_take_43 : decode b_N_take 43 = .ok (.bipush 7, 2) := by decide +kernel
theorem d_N_take_45 : decode b_N_take 45 = .ok (.imul, 1) := by decide +kernel
theorem d_N_take_46 : decode b_N_take 46 = .ok (.iload_n 2, 1) := by decide +kernel
theorem d_N_take_47 : decode b_N_take 47 = .ok (.iadd, 1) := by decide +kernel
theorem d_N_take_48 : decode b_N_take 48 = .ok (.lload_n 3, 1) := by decide +kernel
theorem d_N_take_49 : decode b_N_take 49 = .ok (.lastore, 1) := by decide +kernel
theorem d_N_take_50 : decode b_N_take 50 = .ok (.iload 5, 2) := by decide +kernel
theorem d_N_take_52 : decode b_N_take 52 = .ok (.iconst 4, 1) := by decide +kernel
theorem d_N_take_53 : decode b_N_take 53 = .ok (.if_icmp .ne 9, 3) := by decide +kernel
theorem d_N_take_56 : decode b_N_take 56 = .ok (.aload_n 0, 1) := by decide +kernel
theorem d_N_take_57 : decode b_N_take 57 = .ok (.invokevirtual 122, 3) := by decide +kernel
theorem d_N_take_60 : decode b_N_take 60 = .ok (.iconst 0, 1) := by decide +kernel
theorem d_N_take_61 : decode b_N_take 61 = .ok (.ireturn, 1) := by decide +kernel
theorem d_N_take_62 : decode b_N_take 62 = .ok (.aload_n 0, 1) := by decide +kernel
theorem d_N_take_63 : decode b_N_take 63 = .ok (.iload 5, 2) := by decide +kernel
theorem d_N_take_65 : decode b_N_take 65 = .ok (.iload 6, 2) := by decide +kernel
theorem d_N_take_67 : decode b_N_take 67 = .ok (.lload_n 3, 1) := by decide +kernel
theorem d_N_take_68 : decode b_N_take 68 = .ok (.invokevirtual 125, 3) := by decide +kernel
theorem d_N_take_71 : decode b_N_take 71 = .ok (.ifCond .eq 20, 3) := by decide +kernel
theorem d_N_take_74 : decode b_N_take 74 = .ok (.aload_n 0, 1) := by decide +kernel
theorem d_N_take_75 : decode b_N_take 75 = .ok (.iconst 2, 1) := by decide +kernel
theorem d_N_take_76 : decode b_N_take 76 = .ok (.iload 6, 2) := by decide +kernel
theorem d_N_take_78 : decode b_N_take 78 = .ok (.invokestatic 104, 3) := by decide +kernel
theorem d_N_take_81 : decode b_N_take 81 = .ok (.lload_n 3, 1) := by decide +kernel
theorem d_N_take_82 : decode b_N_take 82 = .ok (.invokevirtual 77, 3) := by decide +kernel
theorem d_N_take_85 : decode b_N_take 85 = .ok (.ifCond .ne 6, 3) := by decide +kernel
theorem d_N_take_88 : decode b_N_take 88 = .ok (.bipush (-7), 2) := by decide +kernel
theorem d_N_take_90 : decode b_N_take 90 = .ok (.ireturn, 1) := by decide +kernel
theorem d_N_take_91 : decode b_N_take 91 = .ok (.aload_n 0, 1) := by decide +kernel
theorem d_N_take_92 : decode b_N_take 92 = .ok (.iload 6, 2) := by decide +kernel
theorem d_N_take_94 : decode b_N_take 94 = .ok (.lload_n 3, 1) := by decide +kernel
theorem d_N_take_95 : decode b_N_take 95 = .ok (.invokevirtual 129, 3) := by decide +kernel
theorem d_N_take_98 : decode b_N_take 98 = .ok (.ifCond .eq 11, 3) := by decide +kernel
theorem d_N_take_101 : decode b_N_take 101 = .ok (.aload_n 0, 1) := by decide +kernel
theorem d_N_take_102 : decode b_N_take 102 = .ok (.getfield 32, 3) := by decide +kernel
theorem d_N_take_105 : decode b_N_take 105 = .ok (.iload 6, 2) := by decide +kernel
theorem d_N_take_107 : decode b_N_take 107 = .ok (.lload_n 3, 1) := by decide +kernel
theorem d_N_take_108 : decode b_N_take 108 = .ok (.lastore, 1) := by decide +kernel
theorem d_N_take_109 : decode b_N_take 109 = .ok (.aload_n 0, 1) := by decide +kernel
theorem d_N_take_110 : decode b_N_take 110 = .ok (.invokevirtual 132, 3) := by decide +kernel
theorem d_N_take_113 : decode b_N_take 113 = .ok (.ireturn, 1) := by decide +kernel
theorem d_N_callsForReady_0 : decode b_N_callsForReady 0 = .ok (.aload_n 0, 1) := by decide +kernel
theorem d_N_callsForReady_1 : decode b_N_callsForReady 1 = .ok (.getfield 15, 3) := by decide +kernel
theorem d_N_callsForReady_4 : decode b_N_callsForReady 4 = .ok (.iconst 2, 1) := by decide +kernel
theorem d_N_callsForReady_5 : decode b_N_callsForReady 5 = .ok (.iload_n 2, 1) := by decide +kernel
theorem d_N_callsForReady_6 : decode b_N_callsForReady 6 = .ok (.invokestatic 104, 3) := by decide +kernel
theorem d_N_callsForReady_9 : decode b_N_callsForReady 9 = .ok (.laload, 1) := by decide +kernel
theorem d_N_callsForReady_10 : decode b_N_callsForReady 10 = .ok (.ldc2_w 44, 3) := by decide +kernel
theorem d_N_callsForReady_13 : decode b_N_callsForReady 13 = .ok (.lcmp, 1) := by decide +kernel
theorem d_N_callsForReady_14 : decode b_N_callsForReady 14 = .ok (.ifCond .eq 5, 3) := by decide +kernel
theorem d_N_callsForReady_17 : decode b_N_callsForReady 17 = .ok (.iconst 0, 1) := by decide +kernel
theorem d_N_callsForReady_18 : decode b_N_callsForReady 18 = .ok (.ireturn, 1) := by decide +kernel
theorem d_N_callsForReady_19 : decode b_N_callsForReady 19 = .ok (.iload_n 1, 1) := by decide +kernel
theorem d_N_callsForReady_20 : decode b_N_callsForReady 20 = .ok (.iconst 1, 1) := by decide +kernel
theorem d_N_callsForReady_21 : decode b_N_callsForReady 21 = .ok (.if_icmp .ne 35, 3) := by decide +kernel
theorem d_N_callsForReady_24 : decode b_N_callsForReady 24 = .ok (.aload_n 0, 1) := by decide +kernel
theorem d_N_callsForReady_25 : decode b_N_callsForReady 25 = .ok (.iconst 1, 1) := by decide +kernel
theorem d_N_callsForReady_26 : decode b_N_callsForReady 26 = .ok (.iload_n 2, 1) := by decide +kernel
theorem d_N_callsForReady_27 : decode b_N_callsForReady 27 = .ok (.invokestatic 104, 3) := by decide +kernel
theorem d_N_callsForReady_30 : decode b_N_callsForReady 30 = .ok (.lload_n 3, 1) := by decide +kernel
theorem d_N_callsForReady_31 : decode b_N_callsForReady 31 = .ok (.invokevirtual 136, 3) := by decide +kernel
theorem d_N_callsForReady_34 : decode b_N_callsForReady 34 = .ok (.aload_n 0, 1) := by decide +kernel
theorem d_N_callsForReady_35 : decode b_N_callsForReady 35 = .ok (.getfield 38, 3) := by decide +kernel
theorem d_N_callsForReady_38 : decode b_N_callsForReady 38 = .ok (.aload_n 0, 1) := by decide +kernel
theorem d_N_callsForReady_39 : decode b_N_callsForReady 39 = .ok (.getfield 41, 3) := by decide +kernel
theorem d_N_callsForReady_42 : decode b_N_callsForReady 42 = .ok (.iadd, 1) := by decide +kernel
theorem d_N_callsForReady_43 : decode b_N_callsForReady 43 = .ok (.iconst 2, 1) := by decide +kernel
theorem d_N_callsForReady_44 : decode b_N_callsForReady 44 = .ok (.idiv, 1) := by decide +kernel
theorem d_N_callsForReady_45 : decode b_N_callsForReady 45 = .ok (.iconst 1, 1) := by decide +kernel
theorem d_N_callsForReady_46 : decode b_N_callsForReady 46 = .ok (.iadd, 1) := by decide +kernel
theorem d_N_callsForReady_47 : decode b_N_callsForReady 47 = .ok (.if_icmp .lt 7, 3) := by decide +kernel
theorem d_N_callsForReady_50 : decode b_N_callsForReady 50 = .ok (.iconst 1, 1) := by decide +kernel
theorem d_N_callsForReady_51 : decode b_N_callsForReady 51 = .ok (.goto 4, 3) := by decide +kernel
theorem d_N_callsForReady_54 : decode b_N_callsForReady 54 = .ok (.iconst 0, 1) := by decide +kernel
theorem d_N_callsForReady_55 : decode b_N_callsForReady 55 = .ok (.ireturn, 1) := by decide +kernel
theorem d_N_callsForReady_56 : decode b_N_callsForReady 56 = .ok (.iload_n 1, 1) := by decide +kernel
theorem d_N_callsForReady_57 : decode b_N_callsForReady 57 = .ok (.iconst 2, 1) := by decide +kernel
theorem d_N_callsForReady_58 : decode b_N_callsForReady 58 = .ok (.if_icmp .ne 26, 3) := by decide +kernel
theorem d_N_callsForReady_61 : decode b_N_callsForReady 61 = .ok (.aload_n 0, 1) := by decide +kernel
theorem d_N_callsForReady_62 : decode b_N_callsForReady 62 = .ok (.iconst 2, 1) := by decide +kernel
theorem d_N_callsForReady_63 : decode b_N_callsForReady 63 = .ok (.iload_n 2, 1) := by decide +kernel
theorem d_N_callsForReady_64 : decode b_N_callsForReady 64 = .ok (.invokestatic 104, 3) := by decide +kernel
theorem d_N_callsForReady_67 : decode b_N_callsForReady 67 = .ok (.lload_n 3, 1) := by decide +kernel
theorem d_N_callsForReady_68 : decode b_N_callsForReady 68 = .ok (.invokevirtual 136, 3) := by decide +kernel
theorem d_N_callsForReady_71 : decode b_N_callsForReady 71 = .ok (.aload_n 0, 1) := by decide +kernel
theorem d_N_callsForReady_72 : decode b_N_callsForReady 72 = .ok (.getfield 41, 3) := by decide +kernel
theorem d_N_callsForReady_75 : decode b_N_callsForReady 75 = .ok (.iconst 1, 1) := by decide +kernel
theorem d_N_callsForReady_76 : decode b_N_callsForReady 76 = .ok (.iadd, 1) := by decide +kernel
theorem d_N_callsForReady_77 : decode b_N_callsForReady 77 = .ok (.if_icmp .lt 7, 3) := by decide +kernel
theorem d_N_callsForReady_80 : decode b_N_callsForReady 80 = .ok (.iconst 1, 1) := by decide +kernel
theorem d_N_callsForReady_81 : decode b_N_callsForReady 81 = .ok (.goto 4, 3) := by decide +kernel
theorem d_N_callsForReady_84 : decode b_N_callsForReady 84 = .ok (.iconst 0, 1) := by decide +kernel
theorem d_N_callsForReady_85 : decode b_N_callsForReady 85 = .ok (.ireturn, 1) := by decide +kernel
theorem d_N_isAcceptable_0 : decode b_N_isAcceptable 0 = .ok (.iload_n 1, 1) := by decide +kernel
theorem d_N_isAcceptable_1 : decode b_N_isAcceptable 1 = .ok (.invokestatic 98, 3) := by decide +kernel
theorem d_N_isAcceptable_4 : decode b_N_isAcceptable 4 = .ok (.aload_n 0, 1) := by decide +kernel
theorem d_N_isAcceptable_5 : decode b_N_isAcceptable 5 = .ok (.getfield 19, 3) := by decide +kernel
theorem d_N_isAcceptable_8 : decode b_N_isAcceptable 8 = .ok (.iload_n 1, 1) := by decide +kernel
theorem d_N_isAcceptable_9 : decode b_N_isAcceptable 9 = .ok (.invokestatic 95, 3) := by decide +kernel
theorem d_N_isAcceptable_12 : decode b_N_isAcceptable 12 = .ok (.iaload, 1) := by decide +kernel
theorem d_N_isAcceptable_13 : decode b_N_isAcceptable 13 = .ok (.if_icmp .le 16, 3) := by decide +kernel
theorem d_N_isAcceptable_16 : decode b_N_isAcceptable 16 = .ok (.aload_n 0, 1) := by decide +kernel
theorem d_N_isAcceptable_17 : decode b_N_isAcceptable 17 = .ok (.getfield 32, 3) := by decide +kernel
theorem d_N_isAcceptable_20 : decode b_N_isAcceptable 20 = .ok (.iload_n 1, 1) := by decide +kernel
theorem d_N_isAcceptable_21 : decode b_N_isAcceptable 21 = .ok (.laload, 1) := by decide +kernel
theorem d_N_isAcceptable_22 : decode b_N_isAcceptable 22 = .ok (.ldc2_w 44, 3) := by decide +kernel
theorem d_N_isAcceptable_25 : decode b_N_isAcceptable 25 = .ok (.lcmp, 1) := by decide +kernel
theorem d_N_isAcceptable_26 : decode b_N_isAcceptable 26 = .ok (.ifCond .eq 5, 3) := by decide +kernel
theorem d_N_isAcceptable_29 : decode b_N_isAcceptable 29 = .ok (.iconst 0, 1) := by decide +kernel
theorem d_N_isAcceptable_30 : decode b_N_isAcceptable 30 = .ok (.ireturn, 1) := by decide +kernel
theorem d_N_isAcceptable_31 : decode b_N_isAcceptable 31 = .ok (.aload_n 0, 1) := by decide +kernel
theorem d_N_isAcceptable_32 : decode b_N_isAcceptable 32 = .ok (.iconst 2, 1) := by decide +kernel
theorem d_N_isAcceptable_33 : decode b_N_isAcceptable 33 = .ok (.iload_n 1, 1) := by decide +kernel
theorem d_N_isAcceptable_34 : decode b_N_isAcceptable 34 = .ok (.invokestatic 104, 3) := by decide +kernel
theorem d_N_isAcceptable_37 : decode b_N_isAcceptable 37 = .ok (.lload_n 2, 1) := by decide +kernel
theorem d_N_isAcceptable_38 : decode b_N_isAcceptable 38 = .ok (.invokevirtual 136, 3) := by decide +kernel
theorem d_N_isAcceptable_41 : decode b_N_isAcceptable 41 = .ok (.iconst 2, 1) := by decide +kernel
theorem d_N_isAcceptable_42 : decode b_N_isAcceptable 42 = .ok (.aload_n 0, 1) := by decide +kernel
theorem d_N_isAcceptable_43 : decode b_N_isAcceptable 43 = .ok (.getfield 41, 3) := by decide +kernel
theorem d_N_isAcceptable_46 : decode b_N_isAcceptable 46 = .ok (.imul, 1) := by decide +kernel
theorem d_N_isAcceptable_47 : decode b_N_isAcceptable 47 = .ok (.iconst 1, 1) := by decide +kernel
theorem d_N_isAcceptable_48 : decode b_N_isAcceptable 48 = .ok (.iadd, 1) := by decide +kernel
theorem d_N_isAcceptable_49 : decode b_N_isAcceptable 49 = .ok (.if_icmp .ge 22, 3) := by decide +kernel
theorem d_N_isAcceptable_52 : decode b_N_isAcceptable 52 = .ok (.aload_n 0, 1) := by decide +kernel
theorem d_N_isAcceptable_53 : decode b_N_isAcceptable 53 = .ok (.iconst 3, 1) := by decide +kernel
theorem d_N_isAcceptable_54 : decode b_N_isAcceptable 54 = .ok (.iload_n 1, 1) := by decide +kernel
theorem d_N_isAcceptable_55 : decode b_N_isAcceptable 55 = .ok (.invokestatic 104, 3) := by decide +kernel
theorem d_N_isAcceptable_58 : decode b_N_isAcceptable 58 = .ok (.lload_n 2, 1) := by decide +kernel
theorem d_N_isAcceptable_59 : decode b_N_isAcceptable 59 = .ok (.invokevirtual 136, 3) := by decide +kernel
theorem d_N_isAcceptable_62 : decode b_N_isAcceptable 62 = .ok (.aload_n 0, 1) := by decide +kernel
theorem d_N_isAcceptable_63 : decode b_N_isAcceptable 63 = .ok (.getfield 41, 3) := by decide +kernel
theorem d_N_isAcceptable_66 : decode b_N_isAcceptable 66 = .ok (.iconst 1, 1) := by decide +kernel
theorem d_N_isAcceptable_67 : decode b_N_isAcceptable 67 = .ok (.iadd, 1) := by decide +kernel
theorem d_N_isAcceptable_68 : decode b_N_isAcceptable 68 = .ok (.if_icmp .lt 7, 3) := by decide +kernel
theorem d_N_isAcceptable_71 : decode b_N_isAcceptable 71 = .ok (.iconst 1, 1) := by decide +kernel
theorem d_N_isAcceptable_72 : decode b_N_isAcceptable 72 = .ok (.goto 4, 3) := by decide +kernel
theorem d_N_isAcceptable_75 : decode b_N_isAcceptable 75 = .ok (.iconst 0, 1) := by decide +kernel
theorem d_N_isAcceptable_76 : decode b_N_isAcceptable 76 = .ok (.ireturn, 1) := by decide +kernel
theorem d_N_countTellersOf_0 : decode b_N_countTellersOf 0 = .ok (.iconst 0, 1) := by decide +kernel
theorem d_N_countTellersOf_1 : decode b_N_countTellersOf 1 = .ok (.istore 4, 2) := by decide +kernel
theorem d_N_countTellersOf_3 : decode b_N_countTellersOf 3 = .ok (.iconst 0, 1) := by decide +kernel
theorem d_N_countTellersOf_4 : decode b_N_countTellersOf 4 = .ok (.istore 5, 2) := by decide +kernel
theorem d_N_countTellersOf_6 : decode b_N_countTellersOf 6 = .ok (.iload 5, 2) := by decide +kernel
theorem d_N_countTellersOf_8 : decode b_N_countTellersOf 8 = .ok (.aload_n 0, 1) := by decide +kernel
theorem d_N_countTellersOf_9 : decode b_N_countTellersOf 9 = .ok (.getfield 38, 3) := by decide +kernel
theorem d_N_countTellersOf_12 : decode b_N_countTellersOf 12 = .ok (.if_icmp .ge 29, 3) := by decide +kernel
theorem d_N_countTellersOf_15 : decode b_N_countTellersOf 15 = .ok (.aload_n 0, 1) := by decide +kernel
theorem d_N_countTellersOf_16 : decode b_N_countTellersOf 16 = .ok (.getfield 29, 3) := by decide +kernel
theorem d_N_countTellersOf_19 : decode b_N_countTellersOf 19 = .ok (.iload_n 1, 1) := by decide +kernel
theorem d_N_countTellersOf_20 : decode b_N_countTellersOf 20 = .ok (.bipush 7, 2) := by decide +kernel
theorem d_N_countTellersOf_22 : decode b_N_countTellersOf 22 = .ok (.imul, 1) := by decide +kernel
theorem d_N_countTellersOf_23 : decode b_N_countTellersOf 23 = .ok (.iload 5, 2) := by decide +kernel
theorem d_N_countTellersOf_25 : decode b_N_countTellersOf 25 = .ok (.iadd, 1) := by decide +kernel
theorem d_N_countTellersOf_26 : decode b_N_countTellersOf 26 = .ok (.laload, 1) := by decide +kernel
theorem d_N_countTellersOf_27 : decode b_N_countTellersOf 27 = .ok (.lload_n 2, 1) := by decide +kernel
theorem d_N_countTellersOf_28 : decode b_N_countTellersOf 28 = .ok (.lcmp, 1) := by decide +kernel
theorem d_N_countTellersOf_29 : decode b_N_countTellersOf 29 = .ok (.ifCond .ne 6, 3) := by decide +kernel
theorem d_N_countTellersOf_32 : decode b_N_countTellersOf 32 = .ok (.iinc 4 1, 3) := by decide +kernel
theorem d_N_countTellersOf_35 : decode b_N_countTellersOf 35 = .ok (.iinc 5 1, 3) := by decide +kernel
theorem d_N_countTellersOf_38 : decode b_N_countTellersOf 38 = .ok (.goto (-32), 3) := by decide +kernel
theorem d_N_countTellersOf_41 : decode b_N_countTellersOf 41 = .ok (.iload 4, 2) := by decide +kernel
theorem d_N_countTellersOf_43 : decode b_N_countTellersOf 43 = .ok (.ireturn, 1) := by decide +kernel
theorem d_N_applyWhatIsValid_0 : decode b_N_applyWhatIsValid 0 = .ok (.iconst 0, 1) := by decide +kernel
theorem d_N_applyWhatIsValid_1 : decode b_N_applyWhatIsValid 1 = .ok (.istore_n 1, 1) := by decide +kernel
theorem d_N_applyWhatIsValid_2 : decode b_N_applyWhatIsValid 2 = .ok (.iload_n 1, 1) := by decide +kernel
theorem d_N_applyWhatIsValid_3 : decode b_N_applyWhatIsValid 3 = .ok (.bipush 35, 2) := by decide +kernel
theorem d_N_applyWhatIsValid_5 : decode b_N_applyWhatIsValid 5 = .ok (.if_icmp .ge 73, 3) := by decide +kernel
theorem d_N_applyWhatIsValid_8 : decode b_N_applyWhatIsValid 8 = .ok (.aload_n 0, 1) := by decide +kernel
theorem d_N_applyWhatIsValid_9 : decode b_N_applyWhatIsValid 9 = .ok (.invokevirtual 140, 3) := by decide +kernel
theorem d_N_applyWhatIsValid_12 : decode b_N_applyWhatIsValid 12 = .ok (.istore_n 2, 1) := by decide +kernel
theorem d_N_applyWhatIsValid_13 : decode b_N_applyWhatIsValid 13 = .ok (.iload_n 2, 1) := by decide +kernel
theorem d_N_applyWhatIsValid_14 : decode b_N_applyWhatIsValid 14 = .ok (.iconst (-1), 1) := by decide +kernel
theorem d_N_applyWhatIsValid_15 : decode b_N_applyWhatIsValid 15 = .ok (.if_icmp .ne 5, 3) := by decide +kernel
theorem d_N_applyWhatIsValid_18 : decode b_N_applyWhatIsValid 18 = .ok (.iload_n 1, 1) := by decide +kernel
theorem d_N_applyWhatIsValid_19 : decode b_N_applyWhatIsValid 19 = .ok (.ireturn, 1) := by decide +kernel
theorem d_N_applyWhatIsValid_20 : decode b_N_applyWhatIsValid 20 = .ok (.iload_n 2, 1) := by decide +kernel
theorem d_N_applyWhatIsValid_21 : decode b_N_applyWhatIsValid 21 = .ok (.iconst 5, 1) := by decide +kernel
theorem d_N_applyWhatIsValid_22 : decode b_N_applyWhatIsValid 22 = .ok (.imul, 1) := by decide +kernel
theorem d_N_applyWhatIsValid_23 : decode b_N_applyWhatIsValid 23 = .ok (.aload_n 0, 1) := by decide +kernel
theorem d_N_applyWhatIsValid_24 : decode b_N_applyWhatIsValid 24 = .ok (.getfield 19, 3) := by decide +kernel
theorem d_N_applyWhatIsValid_27 : decode b_N_applyWhatIsValid 27 = .ok (.iload_n 2, 1) := by decide +kernel
theorem d_N_applyWhatIsValid_28 : decode b_N_applyWhatIsValid 28 = .ok (.iaload, 1) := by decide +kernel
theorem d_N_applyWhatIsValid_29 : decode b_N_applyWhatIsValid 29 = .ok (.iadd, 1) := by decide +kernel
theorem d_N_applyWhatIsValid_30 : decode b_N_applyWhatIsValid 30 = .ok (.istore_n 3, 1) := by decide +kernel
theorem d_N_applyWhatIsValid_31 : decode b_N_applyWhatIsValid 31 = .ok (.aload_n 0, 1) := by decide +kernel
theorem d_N_applyWhatIsValid_32 : decode b_N_applyWhatIsValid 32 = .ok (.iconst 3, 1) := by decide +kernel
theorem d_N_applyWhatIsValid_33 : decode b_N_applyWhatIsValid 33 = .ok (.iload_n 3, 1) := by decide +kernel
theorem d_N_applyWhatIsValid_34 : decode b_N_applyWhatIsValid 34 = .ok (.invokestatic 104, 3) := by decide +kernel
theorem d_N_applyWhatIsValid_37 : decode b_N_applyWhatIsValid 37 = .ok (.aload_n 0, 1) := by decide +kernel
theorem d_N_applyWhatIsValid_38 : decode b_N_applyWhatIsValid 38 = .ok (.getfield 32, 3) := by decide +kernel
theorem d_N_applyWhatIsValid_41 : decode b_N_applyWhatIsValid 41 = .ok (.iload_n 3, 1) := by decide +kernel
theorem d_N_applyWhatIsValid_42 : decode b_N_applyWhatIsValid 42 = .ok (.laload, 1) := by decide +kernel
theorem d_N_applyWhatIsValid_43 : decode b_N_applyWhatIsValid 43 = .ok (.invokevirtual 77, 3) := by decide +kernel
theorem d_N_applyWhatIsValid_46 : decode b_N_applyWhatIsValid 46 = .ok (.ifCond .ne 6, 3) := by decide +kernel
theorem d_N_applyWhatIsValid_49 : decode b_N_applyWhatIsValid 49 = .ok (.bipush (-7), 2) := by decide +kernel
theorem d_N_applyWhatIsValid_51 : decode b_N_applyWhatIsValid 51 = .ok (.ireturn, 1) := by decide +kernel
theorem d_N_applyWhatIsValid_52 : decode b_N_applyWhatIsValid 52 = .ok (.aload_n 0, 1) := by decide +kernel
theorem d_N_applyWhatIsValid_53 : decode b_N_applyWhatIsValid 53 = .ok (.iload_n 2, 1) := by decide +kernel
theorem d_N_applyWhatIsValid_54 : decode b_N_applyWhatIsValid 54 = .ok (.aload_n 0, 1) := by decide +kernel
theorem d_N_applyWhatIsValid_55 : decode b_N_applyWhatIsValid 55 = .ok (.getfield 32, 3) := by decide +kernel
theorem d_N_applyWhatIsValid_58 : decode b_N_applyWhatIsValid 58 = .ok (.iload_n 3, 1) := by decide +kernel
theorem d_N_applyWhatIsValid_59 : decode b_N_applyWhatIsValid 59 = .ok (.laload, 1) := by decide +kernel
theorem d_N_applyWhatIsValid_60 : decode b_N_applyWhatIsValid 60 = .ok (.invokevirtual 143, 3) := by decide +kernel
theorem d_N_applyWhatIsValid_63 : decode b_N_applyWhatIsValid 63 = .ok (.aload_n 0, 1) := by decide +kernel
theorem d_N_applyWhatIsValid_64 : decode b_N_applyWhatIsValid 64 = .ok (.getfield 32, 3) := by decide +kernel
theorem d_N_applyWhatIsValid_67 : decode b_N_applyWhatIsValid 67 = .ok (.iload_n 3, 1) := by decide +kernel
theorem d_N_applyWhatIsValid_68 : decode b_N_applyWhatIsValid 68 = .ok (.ldc2_w 44, 3) := by decide +kernel
theorem d_N_applyWhatIsValid_71 : decode b_N_applyWhatIsValid 71 = .ok (.lastore, 1) := by decide +kernel
theorem d_N_applyWhatIsValid_72 : decode b_N_applyWhatIsValid 72 = .ok (.iinc 1 1, 3) := by decide +kernel
theorem d_N_applyWhatIsValid_75 : decode b_N_applyWhatIsValid 75 = .ok (.goto (-73), 3) := by decide +kernel
theorem d_N_applyWhatIsValid_78 : decode b_N_applyWhatIsValid 78 = .ok (.bipush 35, 2) := by decide +kernel
theorem d_N_applyWhatIsValid_80 : decode b_N_applyWhatIsValid 80 = .ok (.ireturn, 1) := by decide +kernel
theorem d_N_leastPayer_0 : decode b_N_leastPayer 0 = .ok (.iconst 0, 1) := by decide +kernel
theorem d_N_leastPayer_1 : decode b_N_leastPayer 1 = .ok (.istore_n 1, 1) := by decide +kernel
theorem d_N_leastPayer_2 : decode b_N_leastPayer 2 = .ok (.iload_n 1, 1) := by decide +kernel
theorem d_N_leastPayer_3 : decode b_N_leastPayer 3 = .ok (.aload_n 0, 1) := by decide +kernel
theorem d_N_leastPayer_4 : decode b_N_leastPayer 4 = .ok (.getfield 38, 3) := by decide +kernel
theorem d_N_leastPayer_7 : decode b_N_leastPayer 7 = .ok (.if_icmp .ge 44, 3) := by decide +kernel
theorem d_N_leastPayer_10 : decode b_N_leastPayer 10 = .ok (.aload_n 0, 1) := by decide +kernel
theorem d_N_leastPayer_11 : decode b_N_leastPayer 11 = .ok (.getfield 19, 3) := by decide +kernel
theorem d_N_leastPayer_14 : decode b_N_leastPayer 14 = .ok (.iload_n 1, 1) := by decide +kernel
theorem d_N_leastPayer_15 : decode b_N_leastPayer 15 = .ok (.iaload, 1) := by decide +kernel
theorem d_N_leastPayer_16 : decode b_N_leastPayer 16 = .ok (.iconst 5, 1) := by decide +kernel
theorem d_N_leastPayer_17 : decode b_N_leastPayer 17 = .ok (.if_icmp .ge 28, 3) := by decide +kernel
theorem d_N_leastPayer_20 : decode b_N_leastPayer 20 = .ok (.aload_n 0, 1) := by decide +kernel
theorem d_N_leastPayer_21 : decode b_N_leastPayer 21 = .ok (.iload_n 1, 1) := by decide +kernel
theorem d_N_leastPayer_22 : decode b_N_leastPayer 22 = .ok (.aload_n 0, 1) := by decide +kernel
theorem d_N_leastPayer_23 : decode b_N_leastPayer 23 = .ok (.getfield 32, 3) := by decide +kernel
theorem d_N_leastPayer_26 : decode b_N_leastPayer 26 = .ok (.iload_n 1, 1) := by decide +kernel
theorem d_N_leastPayer_27 : decode b_N_leastPayer 27 = .ok (.iconst 5, 1) := by decide +kernel
theorem d_N_leastPayer_28 : decode b_N_leastPayer 28 = .ok (.imul, 1) := by decide +kernel
theorem d_N_leastPayer_29 : decode b_N_leastPayer 29 = .ok (.aload_n 0, 1) := by decide +kernel
theorem d_N_leastPayer_30 : decode b_N_leastPayer 30 = .ok (.getfield 19, 3) := by decide +kernel
theorem d_N_leastPayer_33 : decode b_N_leastPayer 33 = .ok (.iload_n 1, 1) := by decide +kernel
theorem d_N_leastPayer_34 : decode b_N_leastPayer 34 = .ok (.iaload, 1) := by decide +kernel
theorem d_N_leastPayer_35 : decode b_N_leastPayer 35 = .ok (.iadd, 1) := by decide +kernel
theorem d_N_leastPayer_36 : decode b_N_leastPayer 36 = .ok (.laload, 1) := by decide +kernel
theorem d_N_leastPayer_37 : decode b_N_leastPayer 37 = .ok (.invokevirtual 147, 3) := by decide +kernel
theorem d_N_leastPayer_40 : decode b_N_leastPayer 40 = .ok (.ifCond .eq 5, 3) := by decide +kernel
theorem d_N_leastPayer_43 : decode b_N_leastPayer 43 = .ok (.iload_n 1, 1) := by decide +kernel
theorem d_N_leastPayer_44 : decode b_N_leastPayer 44 = .ok (.ireturn, 1) := by decide +kernel
theorem d_N_leastPayer_45 : decode b_N_leastPayer 45 = .ok (.iinc 1 1, 3) := by decide +kernel
theorem d_N_leastPayer_48 : decode b_N_leastPayer 48 = .ok (.goto (-46), 3) := by decide +kernel
theorem d_N_leastPayer_51 : decode b_N_leastPayer 51 = .ok (.iconst (-1), 1) := by decide +kernel
theorem d_N_leastPayer_52 : decode b_N_leastPayer 52 = .ok (.ireturn, 1) := by decide +kernel
theorem d_N_isValid_0 : decode b_N_isValid 0 = .ok (.lload_n 2, 1) := by decide +kernel
theorem d_N_isValid_1 : decode b_N_isValid 1 = .ok (.ldc2_w 44, 3) := by decide +kernel
theorem d_N_isValid_4 : decode b_N_isValid 4 = .ok (.lcmp, 1) := by decide +kernel
theorem d_N_isValid_5 : decode b_N_isValid 5 = .ok (.ifCond .eq 18, 3) := by decide +kernel
theorem d_N_isValid_8 : decode b_N_isValid 8 = .ok (.aload_n 0, 1) := by decide +kernel
theorem d_N_isValid_9 : decode b_N_isValid 9 = .ok (.getfield 26, 3) := by decide +kernel
theorem d_N_isValid_12 : decode b_N_isValid 12 = .ok (.iload_n 1, 1) := by decide +kernel
theorem d_N_isValid_13 : decode b_N_isValid 13 = .ok (.laload, 1) := by decide +kernel
theorem d_N_isValid_14 : decode b_N_isValid 14 = .ok (.lload_n 2, 1) := by decide +kernel
theorem d_N_isValid_15 : decode b_N_isValid 15 = .ok (.invokestatic 150, 3) := by decide +kernel
theorem d_N_isValid_18 : decode b_N_isValid 18 = .ok (.i2l, 1) := by decide +kernel
theorem d_N_isValid_19 : decode b_N_isValid 19 = .ok (.lcmp, 1) := by decide +kernel
theorem d_N_isValid_20 : decode b_N_isValid 20 = .ok (.ifCond .ge 5, 3) := by decide +kernel
theorem d_N_isValid_23 : decode b_N_isValid 23 = .ok (.iconst 0, 1) := by decide +kernel
theorem d_N_isValid_24 : decode b_N_isValid 24 = .ok (.ireturn, 1) := by decide +kernel
theorem d_N_isValid_25 : decode b_N_isValid 25 = .ok (.iconst 0, 1) := by decide +kernel
theorem d_N_isValid_26 : decode b_N_isValid 26 = .ok (.istore 4, 2) := by decide +kernel
theorem d_N_isValid_28 : decode b_N_isValid 28 = .ok (.iload 4, 2) := by decide +kernel
theorem d_N_isValid_30 : decode b_N_isValid 30 = .ok (.aload_n 0, 1) := by decide +kernel
theorem d_N_isValid_31 : decode b_N_isValid 31 = .ok (.getfield 38, 3) := by decide +kernel
theorem d_N_isValid_34 : decode b_N_isValid 34 = .ok (.if_icmp .ge 27, 3) := by decide +kernel
theorem d_N_isValid_37 : decode b_N_isValid 37 = .ok (.aload_n 0, 1) := by decide +kernel
theorem d_N_isValid_38 : decode b_N_isValid 38 = .ok (.getfield 19, 3) := by decide +kernel
theorem d_N_isValid_41 : decode b_N_isValid 41 = .ok (.iload 4, 2) := by decide +kernel
theorem d_N_isValid_43 : decode b_N_isValid 43 = .ok (.iaload, 1) := by decide +kernel
theorem d_N_isValid_44 : decode b_N_isValid 44 = .ok (.lload_n 2, 1) := by decide +kernel
theorem d_N_isValid_45 : decode b_N_isValid 45 = .ok (.iload 4, 2) := by decide +kernel
theorem d_N_isValid_47 : decode b_N_isValid 47 = .ok (.invokestatic 154, 3) := by decide +kernel
theorem d_N_isValid_50 : decode b_N_isValid 50 = .ok (.if_icmp .ge 5, 3) := by decide +kernel
theorem d_N_isValid_53 : decode b_N_isValid 53 = .ok (.iconst 0, 1) := by decide +kernel
theorem d_N_isValid_54 : decode b_N_isValid 54 = .ok (.ireturn, 1) := by decide +kernel
theorem d_N_isValid_55 : decode b_N_isValid 55 = .ok (.iinc 4 1, 3) := by decide +kernel
theorem d_N_isValid_58 : decode b_N_isValid 58 = .ok (.goto (-30), 3) := by decide +kernel
theorem d_N_isValid_61 : decode b_N_isValid 61 = .ok (.iconst 1, 1) := by decide +kernel
theorem d_N_isValid_62 : decode b_N_isValid 62 = .ok (.ireturn, 1) := by decide +kernel
theorem d_N_pay_0 : decode b_N_pay 0 = .ok (.aload_n 0, 1) := by decide +kernel
theorem d_N_pay_1 : decode b_N_pay 1 = .ok (.getfield 19, 3) := by decide +kernel
theorem d_N_pay_4 : decode b_N_pay 4 = .ok (.iload_n 1, 1) := by decide +kernel
theorem d_N_pay_5 : decode b_N_pay 5 = .ok (.dup2, 1) := by decide +kernel
theorem d_N_pay_6 : decode b_N_pay 6 = .ok (.iaload, 1) := by decide +kernel
theorem d_N_pay_7 : decode b_N_pay 7 = .ok (.iconst 1, 1) := by decide +kernel
theorem d_N_pay_8 : decode b_N_pay 8 = .ok (.iadd, 1) := by decide +kernel
theorem d_N_pay_9 : decode b_N_pay 9 = .ok (.iastore, 1) := by decide +kernel
theorem d_N_pay_10 : decode b_N_pay 10 = .ok (.aload_n 0, 1) := by decide +kernel
theorem d_N_pay_11 : decode b_N_pay 11 = .ok (.getfield 26, 3) := by decide +kernel
theorem d_N_pay_14 : decode b_N_pay 14 = .ok (.iload_n 1, 1) := by decide +kernel
theorem d_N_pay_15 : decode b_N_pay 15 = .ok (.dup2, 1) := by decide +kernel
theorem d_N_pay_16 : decode b_N_pay 16 = .ok (.laload, 1) := by decide +kernel
theorem d_N_pay_17 : decode b_N_pay 17 = .ok (.lload_n 2, 1) := by decide +kernel
theorem d_N_pay_18 : decode b_N_pay 18 = .ok (.invokestatic 150, 3) := by decide +kernel
theorem d_N_pay_21 : decode b_N_pay 21 = .ok (.i2l, 1) := by decide +kernel
theorem d_N_pay_22 : decode b_N_pay 22 = .ok (.lsub, 1) := by decide +kernel
theorem d_N_pay_23 : decode b_N_pay 23 = .ok (.lastore, 1) := by decide +kernel
theorem d_N_pay_24 : decode b_N_pay 24 = .ok (.aload_n 0, 1) := by decide +kernel
theorem d_N_pay_25 : decode b_N_pay 25 = .ok (.getfield 26, 3) := by decide +kernel
theorem d_N_pay_28 : decode b_N_pay 28 = .ok (.lload_n 2, 1) := by decide +kernel
theorem d_N_pay_29 : decode b_N_pay 29 = .ok (.invokestatic 158, 3) := by decide +kernel
theorem d_N_pay_32 : decode b_N_pay 32 = .ok (.dup2, 1) := by decide +kernel
theorem d_N_pay_33 : decode b_N_pay 33 = .ok (.laload, 1) := by decide +kernel
theorem d_N_pay_34 : decode b_N_pay 34 = .ok (.lload_n 2, 1) := by decide +kernel
theorem d_N_pay_35 : decode b_N_pay 35 = .ok (.invokestatic 150, 3) := by decide +kernel
theorem d_N_pay_38 : decode b_N_pay 38 = .ok (.i2l, 1) := by decide +kernel
theorem d_N_pay_39 : decode b_N_pay 39 = .ok (.ladd, 1) := by decide +kernel
theorem d_N_pay_40 : decode b_N_pay 40 = .ok (.lastore, 1) := by decide +kernel
theorem d_N_pay_41 : decode b_N_pay 41 = .ok (.return_, 1) := by decide +kernel
theorem d_N_freeWhatIsMarked_0 : decode b_N_freeWhatIsMarked 0 = .ok (.aload_n 0, 1) := by decide +kernel
theorem d_N_freeWhatIsMarked_1 : decode b_N_freeWhatIsMarked 1 = .ok (.getfield 15, 3) := by decide +kernel
theorem d_N_freeWhatIsMarked_4 : decode b_N_freeWhatIsMarked 4 = .ok (.sipush 140, 3) := by decide +kernel
theorem d_N_freeWhatIsMarked_7 : decode b_N_freeWhatIsMarked 7 = .ok (.laload, 1) := by decide +kernel
theorem d_N_freeWhatIsMarked_8 : decode b_N_freeWhatIsMarked 8 = .ok (.lstore_n 1, 1) := by decide +kernel
theorem d_N_freeWhatIsMarked_9 : decode b_N_freeWhatIsMarked 9 = .ok (.lload_n 1, 1) := by decide +kernel
theorem d_N_freeWhatIsMarked_10 : decode b_N_freeWhatIsMarked 10 = .ok (.ldc2_w 44, 3) := by decide +kernel
theorem d_N_freeWhatIsMarked_13 : decode b_N_freeWhatIsMarked 13 = .ok (.lcmp, 1) := by decide +kernel
theorem d_N_freeWhatIsMarked_14 : decode b_N_freeWhatIsMarked 14 = .ok (.ifCond .eq 22, 3) := by decide +kernel
theorem d_N_freeWhatIsMarked_17 : decode b_N_freeWhatIsMarked 17 = .ok (.aload_n 0, 1) := by decide +kernel
theorem d_N_freeWhatIsMarked_18 : decode b_N_freeWhatIsMarked 18 = .ok (.sipush 140, 3) := by decide +kernel
theorem d_N_freeWhatIsMarked_21 : decode b_N_freeWhatIsMarked 21 = .ok (.lload_n 1, 1) := by decide +kernel
theorem d_N_freeWhatIsMarked_22 : decode b_N_freeWhatIsMarked 22 = .ok (.invokevirtual 136, 3) := by decide +kernel
theorem d_N_freeWhatIsMarked_25 : decode b_N_freeWhatIsMarked 25 = .ok (.iconst 2, 1) := by decide +kernel
theorem d_N_freeWhatIsMarked_26 : decode b_N_freeWhatIsMarked 26 = .ok (.aload_n 0, 1) := by decide +kernel
theorem d_N_freeWhatIsMarked_27 : decode b_N_freeWhatIsMarked 27 = .ok (.getfield 41, 3) := by decide +kernel
theorem d_N_freeWhatIsMarked_30 : decode b_N_freeWhatIsMarked 30 = .ok (.imul, 1) := by decide +kernel
theorem d_N_freeWhatIsMarked_31 : decode b_N_freeWhatIsMarked 31 = .ok (.iconst 1, 1) := by decide +kernel
theorem d_N_freeWhatIsMarked_32 : decode b_N_freeWhatIsMarked 32 = .ok (.iadd, 1) := by decide +kernel
theorem d_N_freeWhatIsMarked_33 : decode b_N_freeWhatIsMarked 33 = .ok (.if_icmp .ge 4, 3) := by decide +kernel
theorem d_N_freeWhatIsMarked_36 : decode b_N_freeWhatIsMarked 36 = .ok (.return_, 1) := by decide +kernel
theorem d_N_freeWhatIsMarked_37 : decode b_N_freeWhatIsMarked 37 = .ok (.iconst 0, 1) := by decide +kernel
theorem d_N_freeWhatIsMarked_38 : decode b_N_freeWhatIsMarked 38 = .ok (.istore_n 3, 1) := by decide +kernel
theorem d_N_freeWhatIsMarked_39 : decode b_N_freeWhatIsMarked 39 = .ok (.iload_n 3, 1) := by decide +kernel
theorem d_N_freeWhatIsMarked_40 : decode b_N_freeWhatIsMarked 40 = .ok (.aload_n 0, 1) := by decide +kernel
theorem d_N_freeWhatIsMarked_41 : decode b_N_freeWhatIsMarked 41 = .ok (.getfield 38, 3) := by decide +kernel
theorem d_N_freeWhatIsMarked_44 : decode b_N_freeWhatIsMarked 44 = .ok (.if_icmp .ge 68, 3) := by decide +kernel
theorem d_N_freeWhatIsMarked_47 : decode b_N_freeWhatIsMarked 47 = .ok (.lload_n 1, 1) := by decide +kernel
theorem d_N_freeWhatIsMarked_48 : decode b_N_freeWhatIsMarked 48 = .ok (.iload_n 3, 1) := by decide +kernel
theorem d_N_freeWhatIsMarked_49 : decode b_N_freeWhatIsMarked 49 = .ok (.invokestatic 161, 3) := by decide +kernel
theorem d_N_freeWhatIsMarked_52 : decode b_N_freeWhatIsMarked 52 = .ok (.istore 4, 2) := by decide +kernel
theorem d_N_freeWhatIsMarked_54 : decode b_N_freeWhatIsMarked 54 = .ok (.aload_n 0, 1) := by decide +kernel
theorem d_N_freeWhatIsMarked_55 : decode b_N_freeWhatIsMarked 55 = .ok (.getfield 23, 3) := by decide +kernel
theorem d_N_freeWhatIsMarked_58 : decode b_N_freeWhatIsMarked 58 = .ok (.iload_n 3, 1) := by decide +kernel
theorem d_N_freeWhatIsMarked_59 : decode b_N_freeWhatIsMarked 59 = .ok (.iaload, 1) := by decide +kernel
theorem d_N_freeWhatIsMarked_60 : decode b_N_freeWhatIsMarked 60 = .ok (.iconst 1, 1) := by decide +kernel
theorem d_N_freeWhatIsMarked_61 : decode b_N_freeWhatIsMarked 61 = .ok (.iadd, 1) := by decide +kernel
theorem d_N_freeWhatIsMarked_62 : decode b_N_freeWhatIsMarked 62 = .ok (.istore 5, 2) := by decide +kernel
theorem d_N_freeWhatIsMarked_64 : decode b_N_freeWhatIsMarked 64 = .ok (.iload 5, 2) := by decide +kernel
theorem d_N_freeWhatIsMarked_66 : decode b_N_freeWhatIsMarked 66 = .ok (.iload 4, 2) := by decide +kernel
theorem d_N_freeWhatIsMarked_68 : decode b_N_freeWhatIsMarked 68 = .ok (.if_icmp .gt 21, 3) := by decide +kernel
theorem d_N_freeWhatIsMarked_71 : decode b_N_freeWhatIsMarked 71 = .ok (.aload_n 0, 1) := by decide +kernel
theorem d_N_freeWhatIsMarked_72 : decode b_N_freeWhatIsMarked 72 = .ok (.iload_n 3, 1) := by decide +kernel
theorem d_N_freeWhatIsMarked_73 : decode b_N_freeWhatIsMarked 73 = .ok (.iconst 5, 1) := by decide +kernel
theorem d_N_freeWhatIsMarked_74 : decode b_N_freeWhatIsMarked 74 = .ok (.imul, 1) := by decide +kernel
theorem d_N_freeWhatIsMarked_75 : decode b_N_freeWhatIsMarked 75 = .ok (.iload 5, 2) := by decide +kernel
theorem d_N_freeWhatIsMarked_77 : decode b_N_freeWhatIsMarked 77 = .ok (.iadd, 1) := by decide +kernel
theorem d_N_freeWhatIsMarked_78 : decode b_N_freeWhatIsMarked 78 = .ok (.iconst 1, 1) := by decide +kernel
theorem d_N_freeWhatIsMarked_79 : decode b_N_freeWhatIsMarked 79 = .ok (.isub, 1) := by decide +kernel
theorem d_N_freeWhatIsMarked_80 : decode b_N_freeWhatIsMarked 80 = .ok (.invokevirtual 164, 3) := by decide +kernel
theorem d_N_freeWhatIsMarked_83 : decode b_N_freeWhatIsMarked 83 = .ok (.iinc 5 1, 3) := by decide +kernel
theorem d_N_freeWhatIsMarked_86 : decode b_N_freeWhatIsMarked 86 = .ok (.goto (-22), 3) := by decide +kernel
theorem d_N_freeWhatIsMarked_89 : decode b_N_freeWhatIsMarked 89 = .ok (.aload_n 0, 1) := by decide +kernel
theorem d_N_freeWhatIsMarked_90 : decode b_N_freeWhatIsMarked 90 = .ok (.getfield 23, 3) := by decide +kernel
theorem d_N_freeWhatIsMarked_93 : decode b_N_freeWhatIsMarked 93 = .ok (.iload_n 3, 1) := by decide +kernel
theorem d_N_freeWhatIsMarked_94 : decode b_N_freeWhatIsMarked 94 = .ok (.aload_n 0, 1) := by decide +kernel
theorem d_N_freeWhatIsMarked_95 : decode b_N_freeWhatIsMarked 95 = .ok (.getfield 23, 3) := by decide +kernel
theorem d_N_freeWhatIsMarked_98 : decode b_N_freeWhatIsMarked 98 = .ok (.iload_n 3, 1) := by decide +kernel
theorem d_N_freeWhatIsMarked_99 : decode b_N_freeWhatIsMarked 99 = .ok (.iaload, 1) := by decide +kernel
theorem d_N_freeWhatIsMarked_100 : decode b_N_freeWhatIsMarked 100 = .ok (.iload 4, 2) := by decide +kernel
theorem d_N_freeWhatIsMarked_102 : decode b_N_freeWhatIsMarked 102 = .ok (.invokestatic 168, 3) := by decide +kernel
theorem d_N_freeWhatIsMarked_105 : decode b_N_freeWhatIsMarked 105 = .ok (.iastore, 1) := by decide +kernel
theorem d_N_freeWhatIsMarked_106 : decode b_N_freeWhatIsMarked 106 = .ok (.iinc 3 1, 3) := by decide +kernel
theorem d_N_freeWhatIsMarked_109 : decode b_N_freeWhatIsMarked 109 = .ok (.goto (-70), 3) := by decide +kernel
theorem d_N_freeWhatIsMarked_112 : decode b_N_freeWhatIsMarked 112 = .ok (.return_, 1) := by decide +kernel
theorem d_N_forget_0 : decode b_N_forget 0 = .ok (.iconst 0, 1) := by decide +kernel
theorem d_N_forget_1 : decode b_N_forget 1 = .ok (.istore_n 2, 1) := by decide +kernel
theorem d_N_forget_2 : decode b_N_forget 2 = .ok (.iload_n 2, 1) := by decide +kernel
theorem d_N_forget_3 : decode b_N_forget 3 = .ok (.iconst 2, 1) := by decide +kernel
theorem d_N_forget_4 : decode b_N_forget 4 = .ok (.if_icmp .gt 22, 3) := by decide +kernel
theorem d_N_forget_7 : decode b_N_forget 7 = .ok (.aload_n 0, 1) := by decide +kernel
theorem d_N_forget_8 : decode b_N_forget 8 = .ok (.getfield 15, 3) := by decide +kernel
theorem d_N_forget_11 : decode b_N_forget 11 = .ok (.iload_n 2, 1) := by decide +kernel
theorem d_N_forget_12 : decode b_N_forget 12 = .ok (.iload_n 1, 1) := by decide +kernel
theorem d_N_forget_13 : decode b_N_forget 13 = .ok (.invokestatic 104, 3) := by decide +kernel
theorem d_N_forget_16 : decode b_N_forget 16 = .ok (.ldc2_w 44, 3) := by decide +kernel
theorem d_N_forget_19 : decode b_N_forget 19 = .ok (.lastore, 1) := by decide +kernel
theorem d_N_forget_20 : decode b_N_forget 20 = .ok (.iinc 2 1, 3) := by decide +kernel
theorem d_N_forget_23 : decode b_N_forget 23 = .ok (.goto (-21), 3) := by decide +kernel
theorem d_N_forget_26 : decode b_N_forget 26 = .ok (.iconst 1, 1) := by decide +kernel
theorem d_N_forget_27 : decode b_N_forget 27 = .ok (.istore_n 2, 1) := by decide +kernel
theorem d_N_forget_28 : decode b_N_forget 28 = .ok (.iload_n 2, 1) := by decide +kernel
theorem d_N_forget_29 : decode b_N_forget 29 = .ok (.iconst 3, 1) := by decide +kernel
theorem d_N_forget_30 : decode b_N_forget 30 = .ok (.if_icmp .gt 43, 3) := by decide +kernel
theorem d_N_forget_33 : decode b_N_forget 33 = .ok (.iconst 0, 1) := by decide +kernel
theorem d_N_forget_34 : decode b_N_forget 34 = .ok (.istore_n 3, 1) := by decide +kernel
theorem d_N_forget_35 : decode b_N_forget 35 = .ok (.iload_n 3, 1) := by decide +kernel
theorem d_N_forget_36 : decode b_N_forget 36 = .ok (.aload_n 0, 1) := by decide +kernel
theorem d_N_forget_37 : decode b_N_forget 37 = .ok (.getfield 38, 3) := by decide +kernel
theorem d_N_forget_40 : decode b_N_forget 40 = .ok (.if_icmp .ge 27, 3) := by decide +kernel
theorem d_N_forget_43 : decode b_N_forget 43 = .ok (.aload_n 0, 1) := by decide +kernel
theorem d_N_forget_44 : decode b_N_forget 44 = .ok (.getfield 29, 3) := by decide +kernel
theorem d_N_forget_47 : decode b_N_forget 47 = .ok (.iload_n 2, 1) := by decide +kernel
theorem d_N_forget_48 : decode b_N_forget 48 = .ok (.iload_n 1, 1) := by decide +kernel
theorem d_N_forget_49 : decode b_N_forget 49 = .ok (.invokestatic 104, 3) := by decide +kernel
theorem d_N_forget_52 : decode b_N_forget 52 = .ok (.bipush 7, 2) := by decide +kernel
theorem d_N_forget_54 : decode b_N_forget 54 = .ok (.imul, 1) := by decide +kernel
theorem d_N_forget_55 : decode b_N_forget 55 = .ok (.iload_n 3, 1) := by decide +kernel
theorem d_N_forget_56 : decode b_N_forget 56 = .ok (.iadd, 1) := by decide +kernel
theorem d_N_forget_57 : decode b_N_forget 57 = .ok (.ldc2_w 44, 3) := by decide +kernel
theorem d_N_forget_60 : decode b_N_forget 60 = .ok (.lastore, 1) := by decide +kernel
theorem d_N_forget_61 : decode b_N_forget 61 = .ok (.iinc 3 1, 3) := by decide +kernel
theorem d_N_forget_64 : decode b_N_forget 64 = .ok (.goto (-29), 3) := by decide +kernel
theorem d_N_forget_67 : decode b_N_forget 67 = .ok (.iinc 2 1, 3) := by decide +kernel
theorem d_N_forget_70 : decode b_N_forget 70 = .ok (.goto (-42), 3) := by decide +kernel
theorem d_N_forget_73 : decode b_N_forget 73 = .ok (.return_, 1) := by decide +kernel
theorem d_N_spendable_0 : decode b_N_spendable 0 = .ok (.aload_n 0, 1) := by decide +kernel
theorem d_N_spendable_1 : decode b_N_spendable 1 = .ok (.getfield 26, 3) := by decide +kernel
theorem d_N_spendable_4 : decode b_N_spendable 4 = .ok (.aload_n 0, 1) := by decide +kernel
theorem d_N_spendable_5 : decode b_N_spendable 5 = .ok (.getfield 35, 3) := by decide +kernel
theorem d_N_spendable_8 : decode b_N_spendable 8 = .ok (.laload, 1) := by decide +kernel
theorem d_N_spendable_9 : decode b_N_spendable 9 = .ok (.lstore_n 1, 1) := by decide +kernel
theorem d_N_spendable_10 : decode b_N_spendable 10 = .ok (.aload_n 0, 1) := by decide +kernel
theorem d_N_spendable_11 : decode b_N_spendable 11 = .ok (.getfield 19, 3) := by decide +kernel
theorem d_N_spendable_14 : decode b_N_spendable 14 = .ok (.aload_n 0, 1) := by decide +kernel
theorem d_N_spendable_15 : decode b_N_spendable 15 = .ok (.getfield 35, 3) := by decide +kernel
theorem d_N_spendable_18 : decode b_N_spendable 18 = .ok (.iaload, 1) := by decide +kernel
theorem d_N_spendable_19 : decode b_N_spendable 19 = .ok (.iconst 1, 1) := by decide +kernel
theorem d_N_spendable_20 : decode b_N_spendable 20 = .ok (.iadd, 1) := by decide +kernel
theorem d_N_spendable_21 : decode b_N_spendable 21 = .ok (.istore_n 3, 1) := by decide +kernel
theorem d_N_spendable_22 : decode b_N_spendable 22 = .ok (.iload_n 3, 1) := by decide +kernel
theorem d_N_spendable_23 : decode b_N_spendable 23 = .ok (.aload_n 0, 1) := by decide +kernel
theorem d_N_spendable_24 : decode b_N_spendable 24 = .ok (.getfield 55, 3) := by decide +kernel
theorem d_N_spendable_27 : decode b_N_spendable 27 = .ok (.if_icmp .gt 30, 3) := by decide +kernel
theorem d_N_spendable_30 : decode b_N_spendable 30 = .ok (.lload_n 1, 1) := by decide +kernel
theorem d_N_spendable_31 : decode b_N_spendable 31 = .ok (.aload_n 0, 1) := by decide +kernel
theorem d_N_spendable_32 : decode b_N_spendable 32 = .ok (.getfield 15, 3) := by decide +kernel
theorem d_N_spendable_35 : decode b_N_spendable 35 = .ok (.iconst 0, 1) := by decide +kernel
theorem d_N_spendable_36 : decode b_N_spendable 36 = .ok (.aload_n 0, 1) := by decide +kernel
theorem d_N_spendable_37 : decode b_N_spendable 37 = .ok (.getfield 35, 3) := by decide +kernel
theorem d_N_spendable_40 : decode b_N_spendable 40 = .ok (.iload_n 3, 1) := by decide +kernel
theorem d_N_spendable_41 : decode b_N_spendable 41 = .ok (.invokestatic 62, 3) := by decide +kernel
theorem d_N_spendable_44 : decode b_N_spendable 44 = .ok (.laload, 1) := by decide +kernel
theorem d_N_spendable_45 : decode b_N_spendable 45 = .ok (.invokestatic 150, 3) := by decide +kernel
theorem d_N_spendable_48 : decode b_N_spendable 48 = .ok (.i2l, 1) := by decide +kernel
theorem d_N_spendable_49 : decode b_N_spendable 49 = .ok (.lsub, 1) := by decide +kernel
theorem d_N_spendable_50 : decode b_N_spendable 50 = .ok (.lstore_n 1, 1) := by decide +kernel
theorem d_N_spendable_51 : decode b_N_spendable 51 = .ok (.iinc 3 1, 3) := by decide +kernel
theorem d_N_spendable_54 : decode b_N_spendable 54 = .ok (.goto (-32), 3) := by decide +kernel
theorem d_N_spendable_57 : decode b_N_spendable 57 = .ok (.lload_n 1, 1) := by decide +kernel
theorem d_N_spendable_58 : decode b_N_spendable 58 = .ok (.lreturn, 1) := by decide +kernel
theorem d_N_needs_0 : decode b_N_needs 0 = .ok (.lconst 0, 1) := by decide +kernel
theorem d_N_needs_1 : decode b_N_needs 1 = .ok (.lstore_n 1, 1) := by decide +kernel
theorem d_N_needs_2 : decode b_N_needs 2 = .ok (.iconst 0, 1) := by decide +kernel
theorem d_N_needs_3 : decode b_N_needs 3 = .ok (.istore_n 3, 1) := by decide +kernel
theorem d_N_needs_4 : decode b_N_needs 4 = .ok (.iload_n 3, 1) := by decide +kernel
theorem d_N_needs_5 : decode b_N_needs 5 = .ok (.aload_n 0, 1) := by decide +kernel
theorem d_N_needs_6 : decode b_N_needs 6 = .ok (.getfield 38, 3) := by decide +kernel
theorem d_N_needs_9 : decode b_N_needs 9 = .ok (.if_icmp .ge 22, 3) := by decide +kernel
theorem d_N_needs_12 : decode b_N_needs 12 = .ok (.lload_n 1, 1) := by decide +kernel
theorem d_N_needs_13 : decode b_N_needs 13 = .ok (.aload_n 0, 1) := by decide +kernel
theorem d_N_needs_14 : decode b_N_needs 14 = .ok (.iload_n 3, 1) := by decide +kernel
theorem d_N_needs_15 : decode b_N_needs 15 = .ok (.invokevirtual 173, 3) := by decide +kernel
theorem d_N_needs_18 : decode b_N_needs 18 = .ok (.i2l, 1) := by decide +kernel
theorem d_N_needs_19 : decode b_N_needs 19 = .ok (.iconst 3, 1) := by decide +kernel
theorem d_N_needs_20 : decode b_N_needs 20 = .ok (.iload_n 3, 1) := by decide +kernel
theorem d_N_needs_21 : decode b_N_needs 21 = .ok (.imul, 1) := by decide +kernel
theorem d_N_needs_22 : decode b_N_needs 22 = .ok (.lshl, 1) := by decide +kernel
theorem d_N_needs_23 : decode b_N_needs 23 = .ok (.lor, 1) := by decide +kernel
theorem d_N_needs_24 : decode b_N_needs 24 = .ok (.lstore_n 1, 1) := by decide +kernel
theorem d_N_needs_25 : decode b_N_needs 25 = .ok (.iinc 3 1, 3) := by decide +kernel
theorem d_N_needs_28 : decode b_N_needs 28 = .ok (.goto (-24), 3) := by decide +kernel
theorem d_N_needs_31 : decode b_N_needs 31 = .ok (.lload_n 1, 1) := by decide +kernel
theorem d_N_needs_32 : decode b_N_needs 32 = .ok (.lreturn, 1) := by decide +kernel
theorem d_N_lastPaymentBy_0 : decode b_N_lastPaymentBy 0 = .ok (.aload_n 0, 1) := by decide +kernel
theorem d_N_lastPaymentBy_1 : decode b_N_lastPaymentBy 1 = .ok (.getfield 19, 3) := by decide +kernel
theorem d_N_lastPaymentBy_4 : decode b_N_lastPaymentBy 4 = .ok (.iload_n 1, 1) := by decide +kernel
theorem d_N_lastPaymentBy_5 : decode b_N_lastPaymentBy 5 = .ok (.iaload, 1) := by decide +kernel
theorem d_N_lastPaymentBy_6 : decode b_N_lastPaymentBy 6 = .ok (.istore_n 2, 1) := by decide +kernel
theorem d_N_lastPaymentBy_7 : decode b_N_lastPaymentBy 7 = .ok (.iload_n 2, 1) := by decide +kernel
theorem d_N_lastPaymentBy_8 : decode b_N_lastPaymentBy 8 = .ok (.ifCond .le 32, 3) := by decide +kernel
theorem d_N_lastPaymentBy_11 : decode b_N_lastPaymentBy 11 = .ok (.aload_n 0, 1) := by decide +kernel
theorem d_N_lastPaymentBy_12 : decode b_N_lastPaymentBy 12 = .ok (.getfield 15, 3) := by decide +kernel
theorem d_N_lastPaymentBy_15 : decode b_N_lastPaymentBy 15 = .ok (.iconst 3, 1) := by decide +kernel
theorem d_N_lastPaymentBy_16 : decode b_N_lastPaymentBy 16 = .ok (.iload_n 1, 1) := by decide +kernel
theorem d_N_lastPaymentBy_17 : decode b_N_lastPaymentBy 17 = .ok (.iload_n 2, 1) := by decide +kernel
theorem d_N_lastPaymentBy_18 : decode b_N_lastPaymentBy 18 = .ok (.invokestatic 62, 3) := by decide +kernel
theorem d_N_lastPaymentBy_21 : decode b_N_lastPaymentBy 21 = .ok (.laload, 1) := by decide +kernel
theorem d_N_lastPaymentBy_22 : decode b_N_lastPaymentBy 22 = .ok (.invokestatic 158, 3) := by decide +kernel
theorem d_N_lastPaymentBy_25 : decode b_N_lastPaymentBy 25 = .ok (.aload_n 0, 1) := by decide +kernel
theorem d_N_lastPaymentBy_26 : decode b_N_lastPaymentBy 26 = .ok (.getfield 35, 3) := by decide +kernel
theorem d_N_lastPaymentBy_29 : decode b_N_lastPaymentBy 29 = .ok (.if_icmp .ne 5, 3) := by decide +kernel
theorem d_N_lastPaymentBy_32 : decode b_N_lastPaymentBy 32 = .ok (.iload_n 2, 1) := by decide +kernel
theorem d_N_lastPaymentBy_33 : decode b_N_lastPaymentBy 33 = .ok (.ireturn, 1) := by decide +kernel
theorem d_N_lastPaymentBy_34 : decode b_N_lastPaymentBy 34 = .ok (.iinc 2 (-1), 3) := by decide +kernel
theorem d_N_lastPaymentBy_37 : decode b_N_lastPaymentBy 37 = .ok (.goto (-30), 3) := by decide +kernel
theorem d_N_lastPaymentBy_40 : decode b_N_lastPaymentBy 40 = .ok (.iconst 0, 1) := by decide +kernel
theorem d_N_lastPaymentBy_41 : decode b_N_lastPaymentBy 41 = .ok (.ireturn, 1) := by decide +kernel
theorem d_N_write_0 : decode b_N_write 0 = .ok (.aload_n 0, 1) := by decide +kernel
theorem d_N_write_1 : decode b_N_write 1 = .ok (.getfield 52, 3) := by decide +kernel
theorem d_N_write_4 : decode b_N_write 4 = .ok (.iconst 1, 1) := by decide +kernel
theorem d_N_write_5 : decode b_N_write 5 = .ok (.if_icmp .ne 9, 3) := by decide +kernel
theorem d_N_write_8 : decode b_N_write 8 = .ok (.aload_n 0, 1) := by decide +kernel
theorem d_N_write_9 : decode b_N_write 9 = .ok (.invokevirtual 176, 3) := by decide +kernel
theorem d_N_write_12 : decode b_N_write 12 = .ok (.iconst 0, 1) := by decide +kernel
theorem d_N_write_13 : decode b_N_write 13 = .ok (.ireturn, 1) := by decide +kernel
theorem d_N_write_14 : decode b_N_write 14 = .ok (.aload_n 0, 1) := by decide +kernel
theorem d_N_write_15 : decode b_N_write 15 = .ok (.iconst 0, 1) := by decide +kernel
theorem d_N_write_16 : decode b_N_write 16 = .ok (.aload_n 0, 1) := by decide +kernel
theorem d_N_write_17 : decode b_N_write 17 = .ok (.getfield 52, 3) := by decide +kernel
theorem d_N_write_20 : decode b_N_write 20 = .ok (.iconst 1, 1) := by decide +kernel
theorem d_N_write_21 : decode b_N_write 21 = .ok (.isub, 1) := by decide +kernel
theorem d_N_write_22 : decode b_N_write 22 = .ok (.invokestatic 168, 3) := by decide +kernel
theorem d_N_write_25 : decode b_N_write 25 = .ok (.putfield 52, 3) := by decide +kernel
theorem d_N_write_28 : decode b_N_write 28 = .ok (.aload_n 0, 1) := by decide +kernel
theorem d_N_write_29 : decode b_N_write 29 = .ok (.getfield 15, 3) := by decide +kernel
theorem d_N_write_32 : decode b_N_write 32 = .ok (.iload_n 1, 1) := by decide +kernel
theorem d_N_write_33 : decode b_N_write 33 = .ok (.lload_n 2, 1) := by decide +kernel
theorem d_N_write_34 : decode b_N_write 34 = .ok (.lastore, 1) := by decide +kernel
theorem d_N_write_35 : decode b_N_write 35 = .ok (.iconst 1, 1) := by decide +kernel
theorem d_N_write_36 : decode b_N_write 36 = .ok (.ireturn, 1) := by decide +kernel
theorem d_JA_fill_0 : decode b_JA_fill 0 = .ok (.iconst 0, 1) := by decide +kernel
theorem d_JA_fill_1 : decode b_JA_fill 1 = .ok (.istore_n 3, 1) := by decide +kernel
theorem d_JA_fill_2 : decode b_JA_fill 2 = .ok (.aload_n 0, 1) := by decide +kernel
theorem d_JA_fill_3 : decode b_JA_fill 3 = .ok (.arraylength, 1) := by decide +kernel
theorem d_JA_fill_4 : decode b_JA_fill 4 = .ok (.istore 4, 2) := by decide +kernel
theorem d_JA_fill_6 : decode b_JA_fill 6 = .ok (.iload_n 3, 1) := by decide +kernel
theorem d_JA_fill_7 : decode b_JA_fill 7 = .ok (.iload 4, 2) := by decide +kernel
theorem d_JA_fill_9 : decode b_JA_fill 9 = .ok (.if_icmp .ge 13, 3) := by decide +kernel
theorem d_JA_fill_12 : decode b_JA_fill 12 = .ok (.aload_n 0, 1) := by decide +kernel
theorem d_JA_fill_13 : decode b_JA_fill 13 = .ok (.iload_n 3, 1) := by decide +kernel
theorem d_JA_fill_14 : decode b_JA_fill 14 = .ok (.lload_n 1, 1) := by decide +kernel
theorem d_JA_fill_15 : decode b_JA_fill 15 = .ok (.lastore, 1) := by decide +kernel
theorem d_JA_fill_16 : decode b_JA_fill 16 = .ok (.iinc 3 1, 3) := by decide +kernel
theorem d_JA_fill_19 : decode b_JA_fill 19 = .ok (.goto (-13), 3) := by decide +kernel
theorem d_JA_fill_22 : decode b_JA_fill 22 = .ok (.return_, 1) := by decide +kernel
theorem d_JI_bitCount_0 : decode b_JI_bitCount 0 = .ok (.iload_n 0, 1) := by decide +kernel
theorem d_JI_bitCount_1 : decode b_JI_bitCount 1 = .ok (.iload_n 0, 1) := by decide +kernel
theorem d_JI_bitCount_2 : decode b_JI_bitCount 2 = .ok (.iconst 1, 1) := by decide +kernel
theorem d_JI_bitCount_3 : decode b_JI_bitCount 3 = .ok (.iushr, 1) := by decide +kernel
theorem d_JI_bitCount_4 : decode b_JI_bitCount 4 = .ok (.ldc_w 265, 3) := by decide +kernel
theorem d_JI_bitCount_7 : decode b_JI_bitCount 7 = .ok (.iand, 1) := by decide +kernel
theorem d_JI_bitCount_8 : decode b_JI_bitCount 8 = .ok (.isub, 1) := by decide +kernel
theorem d_JI_bitCount_9 : decode b_JI_bitCount 9 = .ok (.istore_n 0, 1) := by decide +kernel
theorem d_JI_bitCount_10 : decode b_JI_bitCount 10 = .ok (.iload_n 0, 1) := by decide +kernel
theorem d_JI_bitCount_11 : decode b_JI_bitCount 11 = .ok (.ldc_w 266, 3) := by decide +kernel
theorem d_JI_bitCount_14 : decode b_JI_bitCount 14 = .ok (.iand, 1) := by decide +kernel
theorem d_JI_bitCount_15 : decode b_JI_bitCount 15 = .ok (.iload_n 0, 1) := by decide +kernel
theorem d_JI_bitCount_16 : decode b_JI_bitCount 16 = .ok (.iconst 2, 1) := by decide +kernel
theorem d_JI_bitCount_17 : decode b_JI_bitCount 17 = .ok (.iushr, 1) := by decide +kernel
theorem d_JI_bitCount_18 : decode b_JI_bitCount 18 = .ok (.ldc_w 266, 3) := by decide +kernel
theorem d_JI_bitCount_21 : decode b_JI_bitCount 21 = .ok (.iand, 1) := by decide +kernel
theorem d_JI_bitCount_22 : decode b_JI_bitCount 22 = .ok (.iadd, 1) := by decide +kernel
theorem d_JI_bitCount_23 : decode b_JI_bitCount 23 = .ok (.istore_n 0, 1) := by decide +kernel
theorem d_JI_bitCount_24 : decode b_JI_bitCount 24 = .ok (.iload_n 0, 1) := by decide +kernel
theorem d_JI_bitCount_25 : decode b_JI_bitCount 25 = .ok (.iload_n 0, 1) := by decide +kernel
theorem d_JI_bitCount_26 : decode b_JI_bitCount 26 = .ok (.iconst 4, 1) := by decide +kernel
theorem d_JI_bitCount_27 : decode b_JI_bitCount 27 = .ok (.iushr, 1) := by decide +kernel
theorem d_JI_bitCount_28 : decode b_JI_bitCount 28 = .ok (.iadd, 1) := by decide +kernel
theorem d_JI_bitCount_29 : decode b_JI_bitCount 29 = .ok (.ldc_w 267, 3) := by decide +kernel
theorem d_JI_bitCount_32 : decode b_JI_bitCount 32 = .ok (.iand, 1) := by decide +kernel
theorem d_JI_bitCount_33 : decode b_JI_bitCount 33 = .ok (.istore_n 0, 1) := by decide +kernel
theorem d_JI_bitCount_34 : decode b_JI_bitCount 34 = .ok (.iload_n 0, 1) := by decide +kernel
theorem d_JI_bitCount_35 : decode b_JI_bitCount 35 = .ok (.iload_n 0, 1) := by decide +kernel
theorem d_JI_bitCount_36 : decode b_JI_bitCount 36 = .ok (.bipush 8, 2) := by decide +kernel
theorem d_JI_bitCount_38 : decode b_JI_bitCount 38 = .ok (.iushr, 1) := by decide +kernel
theorem d_JI_bitCount_39 : decode b_JI_bitCount 39 = .ok (.iadd, 1) := by decide +kernel
theorem d_JI_bitCount_40 : decode b_JI_bitCount 40 = .ok (.istore_n 0, 1) := by decide +kernel
theorem d_JI_bitCount_41 : decode b_JI_bitCount 41 = .ok (.iload_n 0, 1) := by decide +kernel
theorem d_JI_bitCount_42 : decode b_JI_bitCount 42 = .ok (.iload_n 0, 1) := by decide +kernel
theorem d_JI_bitCount_43 : decode b_JI_bitCount 43 = .ok (.bipush 16, 2) := by decide +kernel
theorem d_JI_bitCount_45 : decode b_JI_bitCount 45 = .ok (.iushr, 1) := by decide +kernel
theorem d_JI_bitCount_46 : decode b_JI_bitCount 46 = .ok (.iadd, 1) := by decide +kernel
theorem d_JI_bitCount_47 : decode b_JI_bitCount 47 = .ok (.istore_n 0, 1) := by decide +kernel
theorem d_JI_bitCount_48 : decode b_JI_bitCount 48 = .ok (.iload_n 0, 1) := by decide +kernel
theorem d_JI_bitCount_49 : decode b_JI_bitCount 49 = .ok (.bipush 63, 2) := by decide +kernel
theorem d_JI_bitCount_51 : decode b_JI_bitCount 51 = .ok (.iand, 1) := by decide +kernel
theorem d_JI_bitCount_52 : decode b_JI_bitCount 52 = .ok (.ireturn, 1) := by decide +kernel
