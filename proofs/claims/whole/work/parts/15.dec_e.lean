/-! Decode rows, laid by wip/gen/names.py -/
theorem d_E_init_0 : decode b_E_init 0 = .ok (.aload_n 0, 1) := by decide +kernel
theorem d_E_init_1 : decode b_E_init 1 = .ok (.invokespecial 3, 3) := by decide +kernel
theorem d_E_init_4 : decode b_E_init 4 = .ok (.aload_n 0, 1) := by decide +kernel
theorem d_E_init_5 : decode b_E_init 5 = .ok (.iconst 4, 1) := by decide +kernel
theorem d_E_init_6 : decode b_E_init 6 = .ok (.bipush 7, 2) := by decide +kernel
theorem d_E_init_8 : decode b_E_init 8 = .ok (.iload_n 1, 1) := by decide +kernel
theorem d_E_init_9 : decode b_E_init 9 = .ok (.invokestatic 9, 3) := by decide +kernel
theorem d_E_init_12 : decode b_E_init 12 = .ok (.invokestatic 15, 3) := by decide +kernel
theorem d_E_init_15 : decode b_E_init 15 = .ok (.putfield 18, 3) := by decide +kernel
theorem d_E_init_18 : decode b_E_init 18 = .ok (.aload_n 0, 1) := by decide +kernel
theorem d_E_init_19 : decode b_E_init 19 = .ok (.aload_n 0, 1) := by decide +kernel
theorem d_E_init_20 : decode b_E_init 20 = .ok (.getfield 18, 3) := by decide +kernel
theorem d_E_init_23 : decode b_E_init 23 = .ok (.iconst 1, 1) := by decide +kernel
theorem d_E_init_24 : decode b_E_init 24 = .ok (.isub, 1) := by decide +kernel
theorem d_E_init_25 : decode b_E_init 25 = .ok (.iconst 3, 1) := by decide +kernel
theorem d_E_init_26 : decode b_E_init 26 = .ok (.idiv, 1) := by decide +kernel
theorem d_E_init_27 : decode b_E_init 27 = .ok (.putfield 22, 3) := by decide +kernel
theorem d_E_init_30 : decode b_E_init 30 = .ok (.aload_n 0, 1) := by decide +kernel
theorem d_E_init_31 : decode b_E_init 31 = .ok (.aload_n 0, 1) := by decide +kernel
theorem d_E_init_32 : decode b_E_init 32 = .ok (.getfield 18, 3) := by decide +kernel
theorem d_E_init_35 : decode b_E_init 35 = .ok (.anewarray 25, 3) := by decide +kernel
theorem d_E_init_38 : decode b_E_init 38 = .ok (.putfield 27, 3) := by decide +kernel
theorem d_E_init_41 : decode b_E_init 41 = .ok (.iconst 0, 1) := by decide +kernel
theorem d_E_init_42 : decode b_E_init 42 = .ok (.sipush 1000, 3) := by decide +kernel
theorem d_E_init_45 : decode b_E_init 45 = .ok (.iload_n 2, 1) := by decide +kernel
theorem d_E_init_46 : decode b_E_init 46 = .ok (.invokestatic 9, 3) := by decide +kernel
theorem d_E_init_49 : decode b_E_init 49 = .ok (.invokestatic 15, 3) := by decide +kernel
theorem d_E_init_52 : decode b_E_init 52 = .ok (.i2l, 1) := by decide +kernel
theorem d_E_init_53 : decode b_E_init 53 = .ok (.lstore_n 3, 1) := by decide +kernel
theorem d_E_init_54 : decode b_E_init 54 = .ok (.iconst 0, 1) := by decide +kernel
theorem d_E_init_55 : decode b_E_init 55 = .ok (.istore 5, 2) := by decide +kernel
theorem d_E_init_57 : decode b_E_init 57 = .ok (.iload 5, 2) := by decide +kernel
theorem d_E_init_59 : decode b_E_init 59 = .ok (.aload_n 0, 1) := by decide +kernel
theorem d_E_init_60 : decode b_E_init 60 = .ok (.getfield 18, 3) := by decide +kernel
theorem d_E_init_63 : decode b_E_init 63 = .ok (.if_icmp .ge 34, 3) := by decide +kernel
theorem d_E_init_66 : decode b_E_init 66 = .ok (.aload_n 0, 1) := by decide +kernel
theorem d_E_init_67 : decode b_E_init 67 = .ok (.getfield 27, 3) := by decide +kernel
theorem d_E_init_70 : decode b_E_init 70 = .ok (.iload 5, 2) := by decide +kernel
theorem d_E_init_72 : decode b_E_init 72 = .ok (.new 25, 3) := by decide +kernel
theorem d_E_init_75 : decode b_E_init 75 = .ok (.dup, 1) := by decide +kernel
theorem d_E_init_76 : decode b_E_init 76 = .ok (.iload 5, 2) := by decide +kernel
theorem d_E_init_78 : decode b_E_init 78 = .ok (.aload_n 0, 1) := by decide +kernel
theorem d_E_init_79 : decode b_E_init 79 = .ok (.getfield 18, 3) := by decide +kernel
theorem d_E_init_82 : decode b_E_init 82 = .ok (.aload_n 0, 1) := by decide +kernel
theorem d_E_init_83 : decode b_E_init 83 = .ok (.getfield 22, 3) := by decide +kernel
theorem d_E_init_86 : decode b_E_init 86 = .ok (.lload_n 3, 1) := by decide +kernel
theorem d_E_init_87 : decode b_E_init 87 = .ok (.invokespecial 31, 3) := by decide +kernel
theorem d_E_init_90 : decode b_E_init 90 = .ok (.aastore, 1) := by decide +kernel
theorem d_E_init_91 : decode b_E_init 91 = .ok (.iinc 5 1, 3) := by decide +kernel
theorem d_E_init_94 : decode b_E_init 94 = .ok (.goto (-37), 3) := by decide +kernel
theorem d_E_init_97 : decode b_E_init 97 = .ok (.return_, 1) := by decide +kernel
theorem d_E_submit_0 : decode b_E_submit 0 = .ok (.aload_n 0, 1) := by decide +kernel
theorem d_E_submit_1 : decode b_E_submit 1 = .ok (.iload_n 1, 1) := by decide +kernel
theorem d_E_submit_2 : decode b_E_submit 2 = .ok (.invokevirtual 34, 3) := by decide +kernel
theorem d_E_submit_5 : decode b_E_submit 5 = .ok (.ifCond .eq 28, 3) := by decide +kernel
theorem d_E_submit_8 : decode b_E_submit 8 = .ok (.aload_n 0, 1) := by decide +kernel
theorem d_E_submit_9 : decode b_E_submit 9 = .ok (.iload_n 2, 1) := by decide +kernel
theorem d_E_submit_10 : decode b_E_submit 10 = .ok (.invokevirtual 38, 3) := by decide +kernel
theorem d_E_submit_13 : decode b_E_submit 13 = .ok (.ifCond .eq 20, 3) := by decide +kernel
theorem d_E_submit_16 : decode b_E_submit 16 = .ok (.iload_n 2, 1) := by decide +kernel
theorem d_E_submit_17 : decode b_E_submit 17 = .ok (.iload_n 1, 1) := by decide +kernel
theorem d_E_submit_18 : decode b_E_submit 18 = .ok (.if_icmp .eq 15, 3) := by decide +kernel
theorem d_E_submit_21 : decode b_E_submit 21 = .ok (.iload_n 3, 1) := by decide +kernel
theorem d_E_submit_22 : decode b_E_submit 22 = .ok (.iconst 1, 1) := by decide +kernel
theorem d_E_submit_23 : decode b_E_submit 23 = .ok (.if_icmp .lt 10, 3) := by decide +kernel
theorem d_E_submit_26 : decode b_E_submit 26 = .ok (.iload_n 3, 1) := by decide +kernel
theorem d_E_submit_27 : decode b_E_submit 27 = .ok (.sipush 1023, 3) := by decide +kernel
theorem d_E_submit_30 : decode b_E_submit 30 = .ok (.if_icmp .le 5, 3) := by decide +kernel
theorem d_E_submit_33 : decode b_E_submit 33 = .ok (.iconst (-1), 1) := by decide +kernel
theorem d_E_submit_34 : decode b_E_submit 34 = .ok (.ireturn, 1) := by decide +kernel
theorem d_E_submit_35 : decode b_E_submit 35 = .ok (.aload_n 0, 1) := by decide +kernel
theorem d_E_submit_36 : decode b_E_submit 36 = .ok (.getfield 27, 3) := by decide +kernel
theorem d_E_submit_39 : decode b_E_submit 39 = .ok (.iload_n 1, 1) := by decide +kernel
theorem d_E_submit_40 : decode b_E_submit 40 = .ok (.aaload, 1) := by decide +kernel
theorem d_E_submit_41 : decode b_E_submit 41 = .ok (.iload_n 2, 1) := by decide +kernel
theorem d_E_submit_42 : decode b_E_submit 42 = .ok (.iload_n 3, 1) := by decide +kernel
theorem d_E_submit_43 : decode b_E_submit 43 = .ok (.invokevirtual 41, 3) := by decide +kernel
theorem d_E_submit_46 : decode b_E_submit 46 = .ok (.ireturn, 1) := by decide +kernel
theorem d_E_corrupt_0 : decode b_E_corrupt 0 = .ok (.aload_n 0, 1) := by decide +kernel
theorem d_E_corrupt_1 : decode b_E_corrupt 1 = .ok (.iload_n 1, 1) := by decide +kernel
theorem d_E_corrupt_2 : decode b_E_corrupt 2 = .ok (.invokevirtual 44, 3) := by decide +kernel
theorem d_E_corrupt_5 : decode b_E_corrupt 5 = .ok (.ifCond .eq 14, 3) := by decide +kernel
theorem d_E_corrupt_8 : decode b_E_corrupt 8 = .ok (.aload_n 0, 1) := by decide +kernel
theorem d_E_corrupt_9 : decode b_E_corrupt 9 = .ok (.getfield 47, 3) := by decide +kernel
theorem d_E_corrupt_12 : decode b_E_corrupt 12 = .ok (.aload_n 0, 1) := by decide +kernel
theorem d_E_corrupt_13 : decode b_E_corrupt 13 = .ok (.getfield 22, 3) := by decide +kernel
theorem d_E_corrupt_16 : decode b_E_corrupt 16 = .ok (.if_icmp .lt 5, 3) := by decide +kernel
theorem d_E_corrupt_19 : decode b_E_corrupt 19 = .ok (.iconst 0, 1) := by decide +kernel
theorem d_E_corrupt_20 : decode b_E_corrupt 20 = .ok (.ireturn, 1) := by decide +kernel
theorem d_E_corrupt_21 : decode b_E_corrupt 21 = .ok (.aload_n 0, 1) := by decide +kernel
theorem d_E_corrupt_22 : decode b_E_corrupt 22 = .ok (.getfield 27, 3) := by decide +kernel
theorem d_E_corrupt_25 : decode b_E_corrupt 25 = .ok (.iload_n 1, 1) := by decide +kernel
theorem d_E_corrupt_26 : decode b_E_corrupt 26 = .ok (.aaload, 1) := by decide +kernel
theorem d_E_corrupt_27 : decode b_E_corrupt 27 = .ok (.invokevirtual 50, 3) := by decide +kernel
theorem d_E_corrupt_30 : decode b_E_corrupt 30 = .ok (.aload_n 0, 1) := by decide +kernel
theorem d_E_corrupt_31 : decode b_E_corrupt 31 = .ok (.dup, 1) := by decide +kernel
theorem d_E_corrupt_32 : decode b_E_corrupt 32 = .ok (.getfield 47, 3) := by decide +kernel
theorem d_E_corrupt_35 : decode b_E_corrupt 35 = .ok (.iconst 1, 1) := by decide +kernel
theorem d_E_corrupt_36 : decode b_E_corrupt 36 = .ok (.iadd, 1) := by decide +kernel
theorem d_E_corrupt_37 : decode b_E_corrupt 37 = .ok (.putfield 47, 3) := by decide +kernel
theorem d_E_corrupt_40 : decode b_E_corrupt 40 = .ok (.iconst 1, 1) := by decide +kernel
theorem d_E_corrupt_41 : decode b_E_corrupt 41 = .ok (.ireturn, 1) := by decide +kernel
theorem d_E_forge_0 : decode b_E_forge 0 = .ok (.aload_n 0, 1) := by decide +kernel
theorem d_E_forge_1 : decode b_E_forge 1 = .ok (.iload_n 1, 1) := by decide +kernel
theorem d_E_forge_2 : decode b_E_forge 2 = .ok (.invokevirtual 53, 3) := by decide +kernel
theorem d_E_forge_5 : decode b_E_forge 5 = .ok (.iconst 2, 1) := by decide +kernel
theorem d_E_forge_6 : decode b_E_forge 6 = .ok (.if_icmp .ne 11, 3) := by decide +kernel
theorem d_E_forge_9 : decode b_E_forge 9 = .ok (.aload_n 0, 1) := by decide +kernel
theorem d_E_forge_10 : decode b_E_forge 10 = .ok (.iload_n 2, 1) := by decide +kernel
theorem d_E_forge_11 : decode b_E_forge 11 = .ok (.invokevirtual 34, 3) := by decide +kernel
theorem d_E_forge_14 : decode b_E_forge 14 = .ok (.ifCond .ne 5, 3) := by decide +kernel
theorem d_E_forge_17 : decode b_E_forge 17 = .ok (.iconst (-1), 1) := by decide +kernel
theorem d_E_forge_18 : decode b_E_forge 18 = .ok (.ireturn, 1) := by decide +kernel
theorem d_E_forge_19 : decode b_E_forge 19 = .ok (.aload_n 0, 1) := by decide +kernel
theorem d_E_forge_20 : decode b_E_forge 20 = .ok (.iload_n 3, 1) := by decide +kernel
theorem d_E_forge_21 : decode b_E_forge 21 = .ok (.bipush 7, 2) := by decide +kernel
theorem d_E_forge_23 : decode b_E_forge 23 = .ok (.iand, 1) := by decide +kernel
theorem d_E_forge_24 : decode b_E_forge 24 = .ok (.iload_n 3, 1) := by decide +kernel
theorem d_E_forge_25 : decode b_E_forge 25 = .ok (.iconst 3, 1) := by decide +kernel
theorem d_E_forge_26 : decode b_E_forge 26 = .ok (.ishr, 1) := by decide +kernel
theorem d_E_forge_27 : decode b_E_forge 27 = .ok (.bipush 7, 2) := by decide +kernel
theorem d_E_forge_29 : decode b_E_forge 29 = .ok (.iand, 1) := by decide +kernel
theorem d_E_forge_30 : decode b_E_forge 30 = .ok (.iload_n 3, 1) := by decide +kernel
theorem d_E_forge_31 : decode b_E_forge 31 = .ok (.bipush 6, 2) := by decide +kernel
theorem d_E_forge_33 : decode b_E_forge 33 = .ok (.ishr, 1) := by decide +kernel
theorem d_E_forge_34 : decode b_E_forge 34 = .ok (.invokevirtual 57, 3) := by decide +kernel
theorem d_E_forge_37 : decode b_E_forge 37 = .ok (.istore 6, 2) := by decide +kernel
theorem d_E_forge_39 : decode b_E_forge 39 = .ok (.iload 6, 2) := by decide +kernel
theorem d_E_forge_41 : decode b_E_forge 41 = .ok (.iconst (-1), 1) := by decide +kernel
theorem d_E_forge_42 : decode b_E_forge 42 = .ok (.if_icmp .ne 8, 3) := by decide +kernel
theorem d_E_forge_45 : decode b_E_forge 45 = .ok (.bipush (-3), 2) := by decide +kernel
theorem d_E_forge_47 : decode b_E_forge 47 = .ok (.goto 17, 3) := by decide +kernel
theorem d_E_forge_50 : decode b_E_forge 50 = .ok (.aload_n 0, 1) := by decide +kernel
theorem d_E_forge_51 : decode b_E_forge 51 = .ok (.getfield 27, 3) := by decide +kernel
theorem d_E_forge_54 : decode b_E_forge 54 = .ok (.iload_n 2, 1) := by decide +kernel
theorem d_E_forge_55 : decode b_E_forge 55 = .ok (.aaload, 1) := by decide +kernel
theorem d_E_forge_56 : decode b_E_forge 56 = .ok (.iload 6, 2) := by decide +kernel
theorem d_E_forge_58 : decode b_E_forge 58 = .ok (.iload_n 1, 1) := by decide +kernel
theorem d_E_forge_59 : decode b_E_forge 59 = .ok (.lload 4, 2) := by decide +kernel
theorem d_E_forge_61 : decode b_E_forge 61 = .ok (.invokevirtual 61, 3) := by decide +kernel
theorem d_E_forge_64 : decode b_E_forge 64 = .ok (.ireturn, 1) := by decide +kernel
theorem d_E_carry_0 : decode b_E_carry 0 = .ok (.aload_n 0, 1) := by decide +kernel
theorem d_E_carry_1 : decode b_E_carry 1 = .ok (.iload_n 1, 1) := by decide +kernel
theorem d_E_carry_2 : decode b_E_carry 2 = .ok (.invokevirtual 44, 3) := by decide +kernel
theorem d_E_carry_5 : decode b_E_carry 5 = .ok (.ifCond .eq 11, 3) := by decide +kernel
theorem d_E_carry_8 : decode b_E_carry 8 = .ok (.aload_n 0, 1) := by decide +kernel
theorem d_E_carry_9 : decode b_E_carry 9 = .ok (.iload_n 2, 1) := by decide +kernel
theorem d_E_carry_10 : decode b_E_carry 10 = .ok (.invokevirtual 34, 3) := by decide +kernel
theorem d_E_carry_13 : decode b_E_carry 13 = .ok (.ifCond .ne 5, 3) := by decide +kernel
theorem d_E_carry_16 : decode b_E_carry 16 = .ok (.iconst (-1), 1) := by decide +kernel
theorem d_E_carry_17 : decode b_E_carry 17 = .ok (.ireturn, 1) := by decide +kernel
theorem d_E_carry_18 : decode b_E_carry 18 = .ok (.aload_n 0, 1) := by decide +kernel
theorem d_E_carry_19 : decode b_E_carry 19 = .ok (.iload_n 3, 1) := by decide +kernel
theorem d_E_carry_20 : decode b_E_carry 20 = .ok (.iload 4, 2) := by decide +kernel
theorem d_E_carry_22 : decode b_E_carry 22 = .ok (.iload 5, 2) := by decide +kernel
theorem d_E_carry_24 : decode b_E_carry 24 = .ok (.invokevirtual 57, 3) := by decide +kernel
theorem d_E_carry_27 : decode b_E_carry 27 = .ok (.istore 6, 2) := by decide +kernel
theorem d_E_carry_29 : decode b_E_carry 29 = .ok (.iload 6, 2) := by decide +kernel
theorem d_E_carry_31 : decode b_E_carry 31 = .ok (.iconst (-1), 1) := by decide +kernel
theorem d_E_carry_32 : decode b_E_carry 32 = .ok (.if_icmp .eq 21, 3) := by decide +kernel
theorem d_E_carry_35 : decode b_E_carry 35 = .ok (.aload_n 0, 1) := by decide +kernel
theorem d_E_carry_36 : decode b_E_carry 36 = .ok (.getfield 27, 3) := by decide +kernel
theorem d_E_carry_39 : decode b_E_carry 39 = .ok (.iload_n 1, 1) := by decide +kernel
theorem d_E_carry_40 : decode b_E_carry 40 = .ok (.aaload, 1) := by decide +kernel
theorem d_E_carry_41 : decode b_E_carry 41 = .ok (.iload 6, 2) := by decide +kernel
theorem d_E_carry_43 : decode b_E_carry 43 = .ok (.invokevirtual 65, 3) := by decide +kernel
theorem d_E_carry_46 : decode b_E_carry 46 = .ok (.ldc2_w 69, 3) := by decide +kernel
theorem d_E_carry_49 : decode b_E_carry 49 = .ok (.lcmp, 1) := by decide +kernel
theorem d_E_carry_50 : decode b_E_carry 50 = .ok (.ifCond .ne 6, 3) := by decide +kernel
theorem d_E_carry_53 : decode b_E_carry 53 = .ok (.bipush (-2), 2) := by decide +kernel
theorem d_E_carry_55 : decode b_E_carry 55 = .ok (.ireturn, 1) := by decide +kernel
theorem d_E_carry_56 : decode b_E_carry 56 = .ok (.aload_n 0, 1) := by decide +kernel
theorem d_E_carry_57 : decode b_E_carry 57 = .ok (.getfield 27, 3) := by decide +kernel
theorem d_E_carry_60 : decode b_E_carry 60 = .ok (.iload_n 2, 1) := by decide +kernel
theorem d_E_carry_61 : decode b_E_carry 61 = .ok (.aaload, 1) := by decide +kernel
theorem d_E_carry_62 : decode b_E_carry 62 = .ok (.iload 6, 2) := by decide +kernel
theorem d_E_carry_64 : decode b_E_carry 64 = .ok (.iload_n 1, 1) := by decide +kernel
theorem d_E_carry_65 : decode b_E_carry 65 = .ok (.aload_n 0, 1) := by decide +kernel
theorem d_E_carry_66 : decode b_E_carry 66 = .ok (.getfield 27, 3) := by decide +kernel
theorem d_E_carry_69 : decode b_E_carry 69 = .ok (.iload_n 1, 1) := by decide +kernel
theorem d_E_carry_70 : decode b_E_carry 70 = .ok (.aaload, 1) := by decide +kernel
theorem d_E_carry_71 : decode b_E_carry 71 = .ok (.iload 6, 2) := by decide +kernel
theorem d_E_carry_73 : decode b_E_carry 73 = .ok (.invokevirtual 65, 3) := by decide +kernel
theorem d_E_carry_76 : decode b_E_carry 76 = .ok (.invokevirtual 61, 3) := by decide +kernel
theorem d_E_carry_79 : decode b_E_carry 79 = .ok (.ireturn, 1) := by decide +kernel
theorem d_E_pump_0 : decode b_E_pump 0 = .ok (.iload_n 1, 1) := by decide +kernel
theorem d_E_pump_1 : decode b_E_pump 1 = .ok (.iconst 1, 1) := by decide +kernel
theorem d_E_pump_2 : decode b_E_pump 2 = .ok (.if_icmp .lt 9, 3) := by decide +kernel
theorem d_E_pump_5 : decode b_E_pump 5 = .ok (.iload_n 1, 1) := by decide +kernel
theorem d_E_pump_6 : decode b_E_pump 6 = .ok (.bipush 8, 2) := by decide +kernel
theorem d_E_pump_8 : decode b_E_pump 8 = .ok (.if_icmp .le 5, 3) := by decide +kernel
theorem d_E_pump_11 : decode b_E_pump 11 = .ok (.iconst (-1), 1) := by decide +kernel
theorem d_E_pump_12 : decode b_E_pump 12 = .ok (.ireturn, 1) := by decide +kernel
theorem d_E_pump_13 : decode b_E_pump 13 = .ok (.iconst 0, 1) := by decide +kernel
theorem d_E_pump_14 : decode b_E_pump 14 = .ok (.istore_n 2, 1) := by decide +kernel
theorem d_E_pump_15 : decode b_E_pump 15 = .ok (.iload_n 2, 1) := by decide +kernel
theorem d_E_pump_16 : decode b_E_pump 16 = .ok (.iload_n 1, 1) := by decide +kernel
theorem d_E_pump_17 : decode b_E_pump 17 = .ok (.if_icmp .ge 65, 3) := by decide +kernel
theorem d_E_pump_20 : decode b_E_pump 20 = .ok (.aload_n 0, 1) := by decide +kernel
theorem d_E_pump_21 : decode b_E_pump 21 = .ok (.invokevirtual 71, 3) := by decide +kernel
theorem d_E_pump_24 : decode b_E_pump 24 = .ok (.istore_n 3, 1) := by decide +kernel
theorem d_E_pump_25 : decode b_E_pump 25 = .ok (.iload_n 3, 1) := by decide +kernel
theorem d_E_pump_26 : decode b_E_pump 26 = .ok (.iconst (-1), 1) := by decide +kernel
theorem d_E_pump_27 : decode b_E_pump 27 = .ok (.if_icmp .ne 5, 3) := by decide +kernel
theorem d_E_pump_30 : decode b_E_pump 30 = .ok (.iload_n 2, 1) := by decide +kernel
theorem d_E_pump_31 : decode b_E_pump 31 = .ok (.ireturn, 1) := by decide +kernel
theorem d_E_pump_32 : decode b_E_pump 32 = .ok (.iload_n 3, 1) := by decide +kernel
theorem d_E_pump_33 : decode b_E_pump 33 = .ok (.bipush 49, 2) := by decide +kernel
theorem d_E_pump_35 : decode b_E_pump 35 = .ok (.idiv, 1) := by decide +kernel
theorem d_E_pump_36 : decode b_E_pump 36 = .ok (.istore 4, 2) := by decide +kernel
theorem d_E_pump_38 : decode b_E_pump 38 = .ok (.iload_n 3, 1) := by decide +kernel
theorem d_E_pump_39 : decode b_E_pump 39 = .ok (.bipush 7, 2) := by decide +kernel
theorem d_E_pump_41 : decode b_E_pump 41 = .ok (.idiv, 1) := by decide +kernel
theorem d_E_pump_42 : decode b_E_pump 42 = .ok (.bipush 7, 2) := by decide +kernel
theorem d_E_pump_44 : decode b_E_pump 44 = .ok (.irem, 1) := by decide +kernel
theorem d_E_pump_45 : decode b_E_pump 45 = .ok (.istore 5, 2) := by decide +kernel
theorem d_E_pump_47 : decode b_E_pump 47 = .ok (.aload_n 0, 1) := by decide +kernel
theorem d_E_pump_48 : decode b_E_pump 48 = .ok (.getfield 27, 3) := by decide +kernel
theorem d_E_pump_51 : decode b_E_pump 51 = .ok (.iload_n 3, 1) := by decide +kernel
theorem d_E_pump_52 : decode b_E_pump 52 = .ok (.bipush 7, 2) := by decide +kernel
theorem d_E_pump_54 : decode b_E_pump 54 = .ok (.irem, 1) := by decide +kernel
theorem d_E_pump_55 : decode b_E_pump 55 = .ok (.aaload, 1) := by decide +kernel
theorem d_E_pump_56 : decode b_E_pump 56 = .ok (.iload 4, 2) := by decide +kernel
theorem d_E_pump_58 : decode b_E_pump 58 = .ok (.iload 5, 2) := by decide +kernel
theorem d_E_pump_60 : decode b_E_pump 60 = .ok (.aload_n 0, 1) := by decide +kernel
theorem d_E_pump_61 : decode b_E_pump 61 = .ok (.getfield 27, 3) := by decide +kernel
theorem d_E_pump_64 : decode b_E_pump 64 = .ok (.iload 5, 2) := by decide +kernel
theorem d_E_pump_66 : decode b_E_pump 66 = .ok (.aaload, 1) := by decide +kernel
theorem d_E_pump_67 : decode b_E_pump 67 = .ok (.iload 4, 2) := by decide +kernel
theorem d_E_pump_69 : decode b_E_pump 69 = .ok (.invokevirtual 65, 3) := by decide +kernel
theorem d_E_pump_72 : decode b_E_pump 72 = .ok (.invokevirtual 61, 3) := by decide +kernel
theorem d_E_pump_75 : decode b_E_pump 75 = .ok (.pop, 1) := by decide +kernel
theorem d_E_pump_76 : decode b_E_pump 76 = .ok (.iinc 2 1, 3) := by decide +kernel
theorem d_E_pump_79 : decode b_E_pump 79 = .ok (.goto (-64), 3) := by decide +kernel
theorem d_E_pump_82 : decode b_E_pump 82 = .ok (.iload_n 1, 1) := by decide +kernel
theorem d_E_pump_83 : decode b_E_pump 83 = .ok (.ireturn, 1) := by decide +kernel
theorem d_E_pending_0 : decode b_E_pending 0 = .ok (.iconst 0, 1) := by decide +kernel
theorem d_E_pending_1 : decode b_E_pending 1 = .ok (.istore_n 1, 1) := by decide +kernel
theorem d_E_pending_2 : decode b_E_pending 2 = .ok (.iconst 0, 1) := by decide +kernel
theorem d_E_pending_3 : decode b_E_pending 3 = .ok (.istore_n 2, 1) := by decide +kernel
theorem d_E_pending_4 : decode b_E_pending 4 = .ok (.iload_n 2, 1) := by decide +kernel
theorem d_E_pending_5 : decode b_E_pending 5 = .ok (.sipush 141, 3) := by decide +kernel
theorem d_E_pending_8 : decode b_E_pending 8 = .ok (.if_icmp .ge 37, 3) := by decide +kernel
theorem d_E_pending_11 : decode b_E_pending 11 = .ok (.iconst 0, 1) := by decide +kernel
theorem d_E_pending_12 : decode b_E_pending 12 = .ok (.istore_n 3, 1) := by decide +kernel
theorem d_E_pending_13 : decode b_E_pending 13 = .ok (.iload_n 3, 1) := by decide +kernel
theorem d_E_pending_14 : decode b_E_pending 14 = .ok (.aload_n 0, 1) := by decide +kernel
theorem d_E_pending_15 : decode b_E_pending 15 = .ok (.getfield 18, 3) := by decide +kernel
theorem d_E_pending_18 : decode b_E_pending 18 = .ok (.if_icmp .ge 21, 3) := by decide +kernel
theorem d_E_pending_21 : decode b_E_pending 21 = .ok (.iload_n 1, 1) := by decide +kernel
theorem d_E_pending_22 : decode b_E_pending 22 = .ok (.aload_n 0, 1) := by decide +kernel
theorem d_E_pending_23 : decode b_E_pending 23 = .ok (.iload_n 2, 1) := by decide +kernel
theorem d_E_pending_24 : decode b_E_pending 24 = .ok (.iload_n 3, 1) := by decide +kernel
theorem d_E_pending_25 : decode b_E_pending 25 = .ok (.invokevirtual 75, 3) := by decide +kernel
theorem d_E_pending_28 : decode b_E_pending 28 = .ok (.invokestatic 78, 3) := by decide +kernel
theorem d_E_pending_31 : decode b_E_pending 31 = .ok (.iadd, 1) := by decide +kernel
theorem d_E_pending_32 : decode b_E_pending 32 = .ok (.istore_n 1, 1) := by decide +kernel
theorem d_E_pending_33 : decode b_E_pending 33 = .ok (.iinc 3 1, 3) := by decide +kernel
theorem d_E_pending_36 : decode b_E_pending 36 = .ok (.goto (-23), 3) := by decide +kernel
theorem d_E_pending_39 : decode b_E_pending 39 = .ok (.iinc 2 1, 3) := by decide +kernel
theorem d_E_pending_42 : decode b_E_pending 42 = .ok (.goto (-38), 3) := by decide +kernel
theorem d_E_pending_45 : decode b_E_pending 45 = .ok (.iload_n 1, 1) := by decide +kernel
theorem d_E_pending_46 : decode b_E_pending 46 = .ok (.ireturn, 1) := by decide +kernel
theorem d_E_crash_0 : decode b_E_crash 0 = .ok (.aload_n 0, 1) := by decide +kernel
theorem d_E_crash_1 : decode b_E_crash 1 = .ok (.iload_n 1, 1) := by decide +kernel
theorem d_E_crash_2 : decode b_E_crash 2 = .ok (.invokevirtual 34, 3) := by decide +kernel
theorem d_E_crash_5 : decode b_E_crash 5 = .ok (.ifCond .ne 5, 3) := by decide +kernel
theorem d_E_crash_8 : decode b_E_crash 8 = .ok (.iconst 0, 1) := by decide +kernel
theorem d_E_crash_9 : decode b_E_crash 9 = .ok (.ireturn, 1) := by decide +kernel
theorem d_E_crash_10 : decode b_E_crash 10 = .ok (.aload_n 0, 1) := by decide +kernel
theorem d_E_crash_11 : decode b_E_crash 11 = .ok (.getfield 27, 3) := by decide +kernel
theorem d_E_crash_14 : decode b_E_crash 14 = .ok (.iload_n 1, 1) := by decide +kernel
theorem d_E_crash_15 : decode b_E_crash 15 = .ok (.aaload, 1) := by decide +kernel
theorem d_E_crash_16 : decode b_E_crash 16 = .ok (.invokevirtual 83, 3) := by decide +kernel
theorem d_E_crash_19 : decode b_E_crash 19 = .ok (.iconst 1, 1) := by decide +kernel
theorem d_E_crash_20 : decode b_E_crash 20 = .ok (.ireturn, 1) := by decide +kernel
theorem d_E_restart_0 : decode b_E_restart 0 = .ok (.aload_n 0, 1) := by decide +kernel
theorem d_E_restart_1 : decode b_E_restart 1 = .ok (.iload_n 1, 1) := by decide +kernel
theorem d_E_restart_2 : decode b_E_restart 2 = .ok (.invokevirtual 53, 3) := by decide +kernel
theorem d_E_restart_5 : decode b_E_restart 5 = .ok (.iconst 1, 1) := by decide +kernel
theorem d_E_restart_6 : decode b_E_restart 6 = .ok (.if_icmp .eq 5, 3) := by decide +kernel
theorem d_E_restart_9 : decode b_E_restart 9 = .ok (.iconst 0, 1) := by decide +kernel
theorem d_E_restart_10 : decode b_E_restart 10 = .ok (.ireturn, 1) := by decide +kernel
theorem d_E_restart_11 : decode b_E_restart 11 = .ok (.aload_n 0, 1) := by decide +kernel
theorem d_E_restart_12 : decode b_E_restart 12 = .ok (.getfield 27, 3) := by decide +kernel
theorem d_E_restart_15 : decode b_E_restart 15 = .ok (.iload_n 1, 1) := by decide +kernel
theorem d_E_restart_16 : decode b_E_restart 16 = .ok (.aaload, 1) := by decide +kernel
theorem d_E_restart_17 : decode b_E_restart 17 = .ok (.invokevirtual 86, 3) := by decide +kernel
theorem d_E_restart_20 : decode b_E_restart 20 = .ok (.iconst 1, 1) := by decide +kernel
theorem d_E_restart_21 : decode b_E_restart 21 = .ok (.ireturn, 1) := by decide +kernel
theorem d_E_fuse_0 : decode b_E_fuse 0 = .ok (.aload_n 0, 1) := by decide +kernel
theorem d_E_fuse_1 : decode b_E_fuse 1 = .ok (.iload_n 1, 1) := by decide +kernel
theorem d_E_fuse_2 : decode b_E_fuse 2 = .ok (.invokevirtual 34, 3) := by decide +kernel
theorem d_E_fuse_5 : decode b_E_fuse 5 = .ok (.ifCond .eq 13, 3) := by decide +kernel
theorem d_E_fuse_8 : decode b_E_fuse 8 = .ok (.iload_n 2, 1) := by decide +kernel
theorem d_E_fuse_9 : decode b_E_fuse 9 = .ok (.ifCond .lt 9, 3) := by decide +kernel
theorem d_E_fuse_12 : decode b_E_fuse 12 = .ok (.iload_n 2, 1) := by decide +kernel
theorem d_E_fuse_13 : decode b_E_fuse 13 = .ok (.bipush 9, 2) := by decide +kernel
theorem d_E_fuse_15 : decode b_E_fuse 15 = .ok (.if_icmp .le 5, 3) := by decide +kernel
theorem d_E_fuse_18 : decode b_E_fuse 18 = .ok (.iconst 0, 1) := by decide +kernel
theorem d_E_fuse_19 : decode b_E_fuse 19 = .ok (.ireturn, 1) := by decide +kernel
theorem d_E_fuse_20 : decode b_E_fuse 20 = .ok (.aload_n 0, 1) := by decide +kernel
theorem d_E_fuse_21 : decode b_E_fuse 21 = .ok (.getfield 27, 3) := by decide +kernel
theorem d_E_fuse_24 : decode b_E_fuse 24 = .ok (.iload_n 1, 1) := by decide +kernel
theorem d_E_fuse_25 : decode b_E_fuse 25 = .ok (.aaload, 1) := by decide +kernel
theorem d_E_fuse_26 : decode b_E_fuse 26 = .ok (.iload_n 2, 1) := by decide +kernel
theorem d_E_fuse_27 : decode b_E_fuse 27 = .ok (.invokevirtual 89, 3) := by decide +kernel
theorem d_E_fuse_30 : decode b_E_fuse 30 = .ok (.iconst 1, 1) := by decide +kernel
theorem d_E_fuse_31 : decode b_E_fuse 31 = .ok (.ireturn, 1) := by decide +kernel
theorem d_E_mark_0 : decode b_E_mark 0 = .ok (.aload_n 0, 1) := by decide +kernel
theorem d_E_mark_1 : decode b_E_mark 1 = .ok (.iload_n 1, 1) := by decide +kernel
theorem d_E_mark_2 : decode b_E_mark 2 = .ok (.invokevirtual 34, 3) := by decide +kernel
theorem d_E_mark_5 : decode b_E_mark 5 = .ok (.ifCond .eq 15, 3) := by decide +kernel
theorem d_E_mark_8 : decode b_E_mark 8 = .ok (.aload_n 0, 1) := by decide +kernel
theorem d_E_mark_9 : decode b_E_mark 9 = .ok (.getfield 27, 3) := by decide +kernel
theorem d_E_mark_12 : decode b_E_mark 12 = .ok (.iload_n 1, 1) := by decide +kernel
theorem d_E_mark_13 : decode b_E_mark 13 = .ok (.aaload, 1) := by decide +kernel
theorem d_E_mark_14 : decode b_E_mark 14 = .ok (.invokevirtual 93, 3) := by decide +kernel
theorem d_E_mark_17 : decode b_E_mark 17 = .ok (.goto 4, 3) := by decide +kernel
theorem d_E_mark_20 : decode b_E_mark 20 = .ok (.iconst (-1), 1) := by decide +kernel
theorem d_E_mark_21 : decode b_E_mark 21 = .ok (.ireturn, 1) := by decide +kernel
theorem d_E_sent_0 : decode b_E_sent 0 = .ok (.aload_n 0, 1) := by decide +kernel
theorem d_E_sent_1 : decode b_E_sent 1 = .ok (.iload_n 2, 1) := by decide +kernel
theorem d_E_sent_2 : decode b_E_sent 2 = .ok (.iload_n 3, 1) := by decide +kernel
theorem d_E_sent_3 : decode b_E_sent 3 = .ok (.iload 4, 2) := by decide +kernel
theorem d_E_sent_5 : decode b_E_sent 5 = .ok (.invokevirtual 57, 3) := by decide +kernel
theorem d_E_sent_8 : decode b_E_sent 8 = .ok (.istore 5, 2) := by decide +kernel
theorem d_E_sent_10 : decode b_E_sent 10 = .ok (.aload_n 0, 1) := by decide +kernel
theorem d_E_sent_11 : decode b_E_sent 11 = .ok (.iload_n 1, 1) := by decide +kernel
theorem d_E_sent_12 : decode b_E_sent 12 = .ok (.invokevirtual 44, 3) := by decide +kernel
theorem d_E_sent_15 : decode b_E_sent 15 = .ok (.ifCond .eq 23, 3) := by decide +kernel
theorem d_E_sent_18 : decode b_E_sent 18 = .ok (.iload 5, 2) := by decide +kernel
theorem d_E_sent_20 : decode b_E_sent 20 = .ok (.iconst (-1), 1) := by decide +kernel
theorem d_E_sent_21 : decode b_E_sent 21 = .ok (.if_icmp .eq 17, 3) := by decide +kernel
theorem d_E_sent_24 : decode b_E_sent 24 = .ok (.aload_n 0, 1) := by decide +kernel
theorem d_E_sent_25 : decode b_E_sent 25 = .ok (.getfield 27, 3) := by decide +kernel
theorem d_E_sent_28 : decode b_E_sent 28 = .ok (.iload_n 1, 1) := by decide +kernel
theorem d_E_sent_29 : decode b_E_sent 29 = .ok (.aaload, 1) := by decide +kernel
theorem d_E_sent_30 : decode b_E_sent 30 = .ok (.iload 5, 2) := by decide +kernel
theorem d_E_sent_32 : decode b_E_sent 32 = .ok (.invokevirtual 65, 3) := by decide +kernel
theorem d_E_sent_35 : decode b_E_sent 35 = .ok (.goto 6, 3) := by decide +kernel
theorem d_E_sent_38 : decode b_E_sent 38 = .ok (.ldc2_w 69, 3) := by decide +kernel
theorem d_E_sent_41 : decode b_E_sent 41 = .ok (.lreturn, 1) := by decide +kernel
theorem d_E_heard_0 : decode b_E_heard 0 = .ok (.aload_n 0, 1) := by decide +kernel
theorem d_E_heard_1 : decode b_E_heard 1 = .ok (.iload_n 2, 1) := by decide +kernel
theorem d_E_heard_2 : decode b_E_heard 2 = .ok (.iload_n 3, 1) := by decide +kernel
theorem d_E_heard_3 : decode b_E_heard 3 = .ok (.iload 4, 2) := by decide +kernel
theorem d_E_heard_5 : decode b_E_heard 5 = .ok (.invokevirtual 57, 3) := by decide +kernel
theorem d_E_heard_8 : decode b_E_heard 8 = .ok (.istore 5, 2) := by decide +kernel
theorem d_E_heard_10 : decode b_E_heard 10 = .ok (.aload_n 0, 1) := by decide +kernel
theorem d_E_heard_11 : decode b_E_heard 11 = .ok (.iload_n 1, 1) := by decide +kernel
theorem d_E_heard_12 : decode b_E_heard 12 = .ok (.invokevirtual 44, 3) := by decide +kernel
theorem d_E_heard_15 : decode b_E_heard 15 = .ok (.ifCond .eq 13, 3) := by decide +kernel
theorem d_E_heard_18 : decode b_E_heard 18 = .ok (.iload 5, 2) := by decide +kernel
theorem d_E_heard_20 : decode b_E_heard 20 = .ok (.iconst (-1), 1) := by decide +kernel
theorem d_E_heard_21 : decode b_E_heard 21 = .ok (.if_icmp .eq 7, 3) := by decide +kernel
theorem d_E_heard_24 : decode b_E_heard 24 = .ok (.iload_n 2, 1) := by decide +kernel
theorem d_E_heard_25 : decode b_E_heard 25 = .ok (.ifCond .ne 5, 3) := by decide +kernel
theorem d_E_heard_28 : decode b_E_heard 28 = .ok (.iconst (-1), 1) := by decide +kernel
theorem d_E_heard_29 : decode b_E_heard 29 = .ok (.ireturn, 1) := by decide +kernel
theorem d_E_heard_30 : decode b_E_heard 30 = .ok (.aload_n 0, 1) := by decide +kernel
theorem d_E_heard_31 : decode b_E_heard 31 = .ok (.getfield 27, 3) := by decide +kernel
theorem d_E_heard_34 : decode b_E_heard 34 = .ok (.iload_n 1, 1) := by decide +kernel
theorem d_E_heard_35 : decode b_E_heard 35 = .ok (.aaload, 1) := by decide +kernel
theorem d_E_heard_36 : decode b_E_heard 36 = .ok (.iload 5, 2) := by decide +kernel
theorem d_E_heard_38 : decode b_E_heard 38 = .ok (.invokevirtual 96, 3) := by decide +kernel
theorem d_E_heard_41 : decode b_E_heard 41 = .ok (.ireturn, 1) := by decide +kernel
theorem d_E_accepted_0 : decode b_E_accepted 0 = .ok (.aload_n 0, 1) := by decide +kernel
theorem d_E_accepted_1 : decode b_E_accepted 1 = .ok (.iconst 3, 1) := by decide +kernel
theorem d_E_accepted_2 : decode b_E_accepted 2 = .ok (.iload_n 2, 1) := by decide +kernel
theorem d_E_accepted_3 : decode b_E_accepted 3 = .ok (.iload_n 3, 1) := by decide +kernel
theorem d_E_accepted_4 : decode b_E_accepted 4 = .ok (.invokevirtual 57, 3) := by decide +kernel
theorem d_E_accepted_7 : decode b_E_accepted 7 = .ok (.istore 4, 2) := by decide +kernel
theorem d_E_accepted_9 : decode b_E_accepted 9 = .ok (.aload_n 0, 1) := by decide +kernel
theorem d_E_accepted_10 : decode b_E_accepted 10 = .ok (.iload_n 1, 1) := by decide +kernel
theorem d_E_accepted_11 : decode b_E_accepted 11 = .ok (.invokevirtual 44, 3) := by decide +kernel
theorem d_E_accepted_14 : decode b_E_accepted 14 = .ok (.ifCond .eq 26, 3) := by decide +kernel
theorem d_E_accepted_17 : decode b_E_accepted 17 = .ok (.iload 4, 2) := by decide +kernel
theorem d_E_accepted_19 : decode b_E_accepted 19 = .ok (.iconst (-1), 1) := by decide +kernel
theorem d_E_accepted_20 : decode b_E_accepted 20 = .ok (.if_icmp .eq 20, 3) := by decide +kernel
theorem d_E_accepted_23 : decode b_E_accepted 23 = .ok (.aload_n 0, 1) := by decide +kernel
theorem d_E_accepted_24 : decode b_E_accepted 24 = .ok (.getfield 27, 3) := by decide +kernel
theorem d_E_accepted_27 : decode b_E_accepted 27 = .ok (.iload_n 1, 1) := by decide +kernel
theorem d_E_accepted_28 : decode b_E_accepted 28 = .ok (.aaload, 1) := by decide +kernel
theorem d_E_accepted_29 : decode b_E_accepted 29 = .ok (.iload 4, 2) := by decide +kernel
theorem d_E_accepted_31 : decode b_E_accepted 31 = .ok (.invokestatic 99, 3) := by decide +kernel
theorem d_E_accepted_34 : decode b_E_accepted 34 = .ok (.invokevirtual 104, 3) := by decide +kernel
theorem d_E_accepted_37 : decode b_E_accepted 37 = .ok (.goto 6, 3) := by decide +kernel
theorem d_E_accepted_40 : decode b_E_accepted 40 = .ok (.ldc2_w 69, 3) := by decide +kernel
theorem d_E_accepted_43 : decode b_E_accepted 43 = .ok (.lreturn, 1) := by decide +kernel
theorem d_E_applied_0 : decode b_E_applied 0 = .ok (.aload_n 0, 1) := by decide +kernel
theorem d_E_applied_1 : decode b_E_applied 1 = .ok (.iload_n 1, 1) := by decide +kernel
theorem d_E_applied_2 : decode b_E_applied 2 = .ok (.invokevirtual 44, 3) := by decide +kernel
theorem d_E_applied_5 : decode b_E_applied 5 = .ok (.ifCond .eq 24, 3) := by decide +kernel
theorem d_E_applied_8 : decode b_E_applied 8 = .ok (.aload_n 0, 1) := by decide +kernel
theorem d_E_applied_9 : decode b_E_applied 9 = .ok (.iload_n 2, 1) := by decide +kernel
theorem d_E_applied_10 : decode b_E_applied 10 = .ok (.invokevirtual 38, 3) := by decide +kernel
theorem d_E_applied_13 : decode b_E_applied 13 = .ok (.ifCond .eq 16, 3) := by decide +kernel
theorem d_E_applied_16 : decode b_E_applied 16 = .ok (.aload_n 0, 1) := by decide +kernel
theorem d_E_applied_17 : decode b_E_applied 17 = .ok (.getfield 27, 3) := by decide +kernel
theorem d_E_applied_20 : decode b_E_applied 20 = .ok (.iload_n 1, 1) := by decide +kernel
theorem d_E_applied_21 : decode b_E_applied 21 = .ok (.aaload, 1) := by decide +kernel
theorem d_E_applied_22 : decode b_E_applied 22 = .ok (.iload_n 2, 1) := by decide +kernel
theorem d_E_applied_23 : decode b_E_applied 23 = .ok (.invokevirtual 107, 3) := by decide +kernel
theorem d_E_applied_26 : decode b_E_applied 26 = .ok (.goto 4, 3) := by decide +kernel
theorem d_E_applied_29 : decode b_E_applied 29 = .ok (.iconst (-1), 1) := by decide +kernel
theorem d_E_applied_30 : decode b_E_applied 30 = .ok (.ireturn, 1) := by decide +kernel
theorem d_E_balance_0 : decode b_E_balance 0 = .ok (.aload_n 0, 1) := by decide +kernel
theorem d_E_balance_1 : decode b_E_balance 1 = .ok (.iload_n 1, 1) := by decide +kernel
theorem d_E_balance_2 : decode b_E_balance 2 = .ok (.invokevirtual 44, 3) := by decide +kernel
theorem d_E_balance_5 : decode b_E_balance 5 = .ok (.ifCond .eq 24, 3) := by decide +kernel
theorem d_E_balance_8 : decode b_E_balance 8 = .ok (.aload_n 0, 1) := by decide +kernel
theorem d_E_balance_9 : decode b_E_balance 9 = .ok (.iload_n 2, 1) := by decide +kernel
theorem d_E_balance_10 : decode b_E_balance 10 = .ok (.invokevirtual 38, 3) := by decide +kernel
theorem d_E_balance_13 : decode b_E_balance 13 = .ok (.ifCond .eq 16, 3) := by decide +kernel
theorem d_E_balance_16 : decode b_E_balance 16 = .ok (.aload_n 0, 1) := by decide +kernel
theorem d_E_balance_17 : decode b_E_balance 17 = .ok (.getfield 27, 3) := by decide +kernel
theorem d_E_balance_20 : decode b_E_balance 20 = .ok (.iload_n 1, 1) := by decide +kernel
theorem d_E_balance_21 : decode b_E_balance 21 = .ok (.aaload, 1) := by decide +kernel
theorem d_E_balance_22 : decode b_E_balance 22 = .ok (.iload_n 2, 1) := by decide +kernel
theorem d_E_balance_23 : decode b_E_balance 23 = .ok (.invokevirtual 110, 3) := by decide +kernel
theorem d_E_balance_26 : decode b_E_balance 26 = .ok (.goto 6, 3) := by decide +kernel
theorem d_E_balance_29 : decode b_E_balance 29 = .ok (.ldc2_w 69, 3) := by decide +kernel
theorem d_E_balance_32 : decode b_E_balance 32 = .ok (.lreturn, 1) := by decide +kernel
theorem d_E_freed_0 : decode b_E_freed 0 = .ok (.aload_n 0, 1) := by decide +kernel
theorem d_E_freed_1 : decode b_E_freed 1 = .ok (.iload_n 1, 1) := by decide +kernel
theorem d_E_freed_2 : decode b_E_freed 2 = .ok (.invokevirtual 44, 3) := by decide +kernel
theorem d_E_freed_5 : decode b_E_freed 5 = .ok (.ifCond .eq 24, 3) := by decide +kernel
theorem d_E_freed_8 : decode b_E_freed 8 = .ok (.aload_n 0, 1) := by decide +kernel
theorem d_E_freed_9 : decode b_E_freed 9 = .ok (.iload_n 2, 1) := by decide +kernel
theorem d_E_freed_10 : decode b_E_freed 10 = .ok (.invokevirtual 38, 3) := by decide +kernel
theorem d_E_freed_13 : decode b_E_freed 13 = .ok (.ifCond .eq 16, 3) := by decide +kernel
theorem d_E_freed_16 : decode b_E_freed 16 = .ok (.aload_n 0, 1) := by decide +kernel
theorem d_E_freed_17 : decode b_E_freed 17 = .ok (.getfield 27, 3) := by decide +kernel
theorem d_E_freed_20 : decode b_E_freed 20 = .ok (.iload_n 1, 1) := by decide +kernel
theorem d_E_freed_21 : decode b_E_freed 21 = .ok (.aaload, 1) := by decide +kernel
theorem d_E_freed_22 : decode b_E_freed 22 = .ok (.iload_n 2, 1) := by decide +kernel
theorem d_E_freed_23 : decode b_E_freed 23 = .ok (.invokevirtual 113, 3) := by decide +kernel
theorem d_E_freed_26 : decode b_E_freed 26 = .ok (.goto 4, 3) := by decide +kernel
theorem d_E_freed_29 : decode b_E_freed 29 = .ok (.iconst (-1), 1) := by decide +kernel
theorem d_E_freed_30 : decode b_E_freed 30 = .ok (.ireturn, 1) := by decide +kernel
theorem d_E_kept_0 : decode b_E_kept 0 = .ok (.aload_n 0, 1) := by decide +kernel
theorem d_E_kept_1 : decode b_E_kept 1 = .ok (.iload_n 1, 1) := by decide +kernel
theorem d_E_kept_2 : decode b_E_kept 2 = .ok (.invokevirtual 44, 3) := by decide +kernel
theorem d_E_kept_5 : decode b_E_kept 5 = .ok (.ifCond .eq 15, 3) := by decide +kernel
theorem d_E_kept_8 : decode b_E_kept 8 = .ok (.aload_n 0, 1) := by decide +kernel
theorem d_E_kept_9 : decode b_E_kept 9 = .ok (.getfield 27, 3) := by decide +kernel
theorem d_E_kept_12 : decode b_E_kept 12 = .ok (.iload_n 1, 1) := by decide +kernel
theorem d_E_kept_13 : decode b_E_kept 13 = .ok (.aaload, 1) := by decide +kernel
theorem d_E_kept_14 : decode b_E_kept 14 = .ok (.invokevirtual 116, 3) := by decide +kernel
theorem d_E_kept_17 : decode b_E_kept 17 = .ok (.goto 4, 3) := by decide +kernel
theorem d_E_kept_20 : decode b_E_kept 20 = .ok (.iconst (-1), 1) := by decide +kernel
theorem d_E_kept_21 : decode b_E_kept 21 = .ok (.ireturn, 1) := by decide +kernel
theorem d_E_state_0 : decode b_E_state 0 = .ok (.aload_n 0, 1) := by decide +kernel
theorem d_E_state_1 : decode b_E_state 1 = .ok (.iload_n 1, 1) := by decide +kernel
theorem d_E_state_2 : decode b_E_state 2 = .ok (.invokevirtual 38, 3) := by decide +kernel
theorem d_E_state_5 : decode b_E_state 5 = .ok (.ifCond .eq 15, 3) := by decide +kernel
theorem d_E_state_8 : decode b_E_state 8 = .ok (.aload_n 0, 1) := by decide +kernel
theorem d_E_state_9 : decode b_E_state 9 = .ok (.getfield 27, 3) := by decide +kernel
theorem d_E_state_12 : decode b_E_state 12 = .ok (.iload_n 1, 1) := by decide +kernel
theorem d_E_state_13 : decode b_E_state 13 = .ok (.aaload, 1) := by decide +kernel
theorem d_E_state_14 : decode b_E_state 14 = .ok (.invokevirtual 119, 3) := by decide +kernel
theorem d_E_state_17 : decode b_E_state 17 = .ok (.goto 4, 3) := by decide +kernel
theorem d_E_state_20 : decode b_E_state 20 = .ok (.iconst (-1), 1) := by decide +kernel
theorem d_E_state_21 : decode b_E_state 21 = .ok (.ireturn, 1) := by decide +kernel
theorem d_E_isNode_0 : decode b_E_isNode 0 = .ok (.iload_n 1, 1) := by decide +kernel
theorem d_E_isNode_1 : decode b_E_isNode 1 = .ok (.ifCond .lt 15, 3) := by decide +kernel
theorem d_E_isNode_4 : decode b_E_isNode 4 = .ok (.iload_n 1, 1) := by decide +kernel
theorem d_E_isNode_5 : decode b_E_isNode 5 = .ok (.aload_n 0, 1) := by decide +kernel
theorem d_E_isNode_6 : decode b_E_isNode 6 = .ok (.getfield 18, 3) := by decide +kernel
theorem d_E_isNode_9 : decode b_E_isNode 9 = .ok (.if_icmp .ge 7, 3) := by decide +kernel
theorem d_E_isNode_12 : decode b_E_isNode 12 = .ok (.iconst 1, 1) := by decide +kernel
theorem d_E_isNode_13 : decode b_E_isNode 13 = .ok (.goto 4, 3) := by decide +kernel
theorem d_E_isNode_16 : decode b_E_isNode 16 = .ok (.iconst 0, 1) := by decide +kernel
theorem d_E_isNode_17 : decode b_E_isNode 17 = .ok (.ireturn, 1) := by decide +kernel
theorem d_E_isCorrect_0 : decode b_E_isCorrect 0 = .ok (.aload_n 0, 1) := by decide +kernel
theorem d_E_isCorrect_1 : decode b_E_isCorrect 1 = .ok (.iload_n 1, 1) := by decide +kernel
theorem d_E_isCorrect_2 : decode b_E_isCorrect 2 = .ok (.invokevirtual 38, 3) := by decide +kernel
theorem d_E_isCorrect_5 : decode b_E_isCorrect 5 = .ok (.ifCond .eq 20, 3) := by decide +kernel
theorem d_E_isCorrect_8 : decode b_E_isCorrect 8 = .ok (.aload_n 0, 1) := by decide +kernel
theorem d_E_isCorrect_9 : decode b_E_isCorrect 9 = .ok (.getfield 27, 3) := by decide +kernel
theorem d_E_isCorrect_12 : decode b_E_isCorrect 12 = .ok (.iload_n 1, 1) := by decide +kernel
theorem d_E_isCorrect_13 : decode b_E_isCorrect 13 = .ok (.aaload, 1) := by decide +kernel
theorem d_E_isCorrect_14 : decode b_E_isCorrect 14 = .ok (.invokevirtual 119, 3) := by decide +kernel
theorem d_E_isCorrect_17 : decode b_E_isCorrect 17 = .ok (.iconst 2, 1) := by decide +kernel
theorem d_E_isCorrect_18 : decode b_E_isCorrect 18 = .ok (.if_icmp .eq 7, 3) := by decide +kernel
theorem d_E_isCorrect_21 : decode b_E_isCorrect 21 = .ok (.iconst 1, 1) := by decide +kernel
theorem d_E_isCorrect_22 : decode b_E_isCorrect 22 = .ok (.goto 4, 3) := by decide +kernel
theorem d_E_isCorrect_25 : decode b_E_isCorrect 25 = .ok (.iconst 0, 1) := by decide +kernel
theorem d_E_isCorrect_26 : decode b_E_isCorrect 26 = .ok (.ireturn, 1) := by decide +kernel
theorem d_E_isUp_0 : decode b_E_isUp 0 = .ok (.aload_n 0, 1) := by decide +kernel
theorem d_E_isUp_1 : decode b_E_isUp 1 = .ok (.iload_n 1, 1) := by decide +kernel
theorem d_E_isUp_2 : decode b_E_isUp 2 = .ok (.invokevirtual 38, 3) := by decide +kernel
theorem d_E_isUp_5 : decode b_E_isUp 5 = .ok (.ifCond .eq 19, 3) := by decide +kernel
theorem d_E_isUp_8 : decode b_E_isUp 8 = .ok (.aload_n 0, 1) := by decide +kernel
theorem d_E_isUp_9 : decode b_E_isUp 9 = .ok (.getfield 27, 3) := by decide +kernel
theorem d_E_isUp_12 : decode b_E_isUp 12 = .ok (.iload_n 1, 1) := by decide +kernel
theorem d_E_isUp_13 : decode b_E_isUp 13 = .ok (.aaload, 1) := by decide +kernel
theorem d_E_isUp_14 : decode b_E_isUp 14 = .ok (.invokevirtual 119, 3) := by decide +kernel
theorem d_E_isUp_17 : decode b_E_isUp 17 = .ok (.ifCond .ne 7, 3) := by decide +kernel
theorem d_E_isUp_20 : decode b_E_isUp 20 = .ok (.iconst 1, 1) := by decide +kernel
theorem d_E_isUp_21 : decode b_E_isUp 21 = .ok (.goto 4, 3) := by decide +kernel
theorem d_E_isUp_24 : decode b_E_isUp 24 = .ok (.iconst 0, 1) := by decide +kernel
theorem d_E_isUp_25 : decode b_E_isUp 25 = .ok (.ireturn, 1) := by decide +kernel
theorem d_E_topicOf_0 : decode b_E_topicOf 0 = .ok (.iload_n 1, 1) := by decide +kernel
theorem d_E_topicOf_1 : decode b_E_topicOf 1 = .ok (.iconst 4, 1) := by decide +kernel
theorem d_E_topicOf_2 : decode b_E_topicOf 2 = .ok (.if_icmp .ne 19, 3) := by decide +kernel
theorem d_E_topicOf_5 : decode b_E_topicOf 5 = .ok (.iload_n 2, 1) := by decide +kernel
theorem d_E_topicOf_6 : decode b_E_topicOf 6 = .ok (.ifCond .ne 13, 3) := by decide +kernel
theorem d_E_topicOf_9 : decode b_E_topicOf 9 = .ok (.iload_n 3, 1) := by decide +kernel
theorem d_E_topicOf_10 : decode b_E_topicOf 10 = .ok (.ifCond .ne 9, 3) := by decide +kernel
theorem d_E_topicOf_13 : decode b_E_topicOf 13 = .ok (.sipush 140, 3) := by decide +kernel
theorem d_E_topicOf_16 : decode b_E_topicOf 16 = .ok (.goto 4, 3) := by decide +kernel
theorem d_E_topicOf_19 : decode b_E_topicOf 19 = .ok (.iconst (-1), 1) := by decide +kernel
theorem d_E_topicOf_20 : decode b_E_topicOf 20 = .ok (.ireturn, 1) := by decide +kernel
theorem d_E_topicOf_21 : decode b_E_topicOf 21 = .ok (.iload_n 1, 1) := by decide +kernel
theorem d_E_topicOf_22 : decode b_E_topicOf 22 = .ok (.ifCond .lt 26, 3) := by decide +kernel
theorem d_E_topicOf_25 : decode b_E_topicOf 25 = .ok (.iload_n 1, 1) := by decide +kernel
theorem d_E_topicOf_26 : decode b_E_topicOf 26 = .ok (.iconst 3, 1) := by decide +kernel
theorem d_E_topicOf_27 : decode b_E_topicOf 27 = .ok (.if_icmp .gt 21, 3) := by decide +kernel
theorem d_E_topicOf_30 : decode b_E_topicOf 30 = .ok (.aload_n 0, 1) := by decide +kernel
theorem d_E_topicOf_31 : decode b_E_topicOf 31 = .ok (.iload_n 2, 1) := by decide +kernel
theorem d_E_topicOf_32 : decode b_E_topicOf 32 = .ok (.invokevirtual 38, 3) := by decide +kernel
theorem d_E_topicOf_35 : decode b_E_topicOf 35 = .ok (.ifCond .eq 13, 3) := by decide +kernel
theorem d_E_topicOf_38 : decode b_E_topicOf 38 = .ok (.iload_n 3, 1) := by decide +kernel
theorem d_E_topicOf_39 : decode b_E_topicOf 39 = .ok (.iconst 1, 1) := by decide +kernel
theorem d_E_topicOf_40 : decode b_E_topicOf 40 = .ok (.if_icmp .lt 8, 3) := by decide +kernel
theorem d_E_topicOf_43 : decode b_E_topicOf 43 = .ok (.iload_n 3, 1) := by decide +kernel
theorem d_E_topicOf_44 : decode b_E_topicOf 44 = .ok (.iconst 5, 1) := by decide +kernel
theorem d_E_topicOf_45 : decode b_E_topicOf 45 = .ok (.if_icmp .le 5, 3) := by decide +kernel
theorem d_E_topicOf_48 : decode b_E_topicOf 48 = .ok (.iconst (-1), 1) := by decide +kernel
theorem d_E_topicOf_49 : decode b_E_topicOf 49 = .ok (.ireturn, 1) := by decide +kernel
theorem d_E_topicOf_50 : decode b_E_topicOf 50 = .ok (.iload_n 1, 1) := by decide +kernel
theorem d_E_topicOf_51 : decode b_E_topicOf 51 = .ok (.iload_n 2, 1) := by decide +kernel
theorem d_E_topicOf_52 : decode b_E_topicOf 52 = .ok (.iload_n 3, 1) := by decide +kernel
theorem d_E_topicOf_53 : decode b_E_topicOf 53 = .ok (.invokestatic 122, 3) := by decide +kernel
theorem d_E_topicOf_56 : decode b_E_topicOf 56 = .ok (.ireturn, 1) := by decide +kernel
theorem d_E_firstPending_0 : decode b_E_firstPending 0 = .ok (.iconst 0, 1) := by decide +kernel
theorem d_E_firstPending_1 : decode b_E_firstPending 1 = .ok (.istore_n 1, 1) := by decide +kernel
theorem d_E_firstPending_2 : decode b_E_firstPending 2 = .ok (.iload_n 1, 1) := by decide +kernel
theorem d_E_firstPending_3 : decode b_E_firstPending 3 = .ok (.sipush 141, 3) := by decide +kernel
theorem d_E_firstPending_6 : decode b_E_firstPending 6 = .ok (.if_icmp .ge 77, 3) := by decide +kernel
theorem d_E_firstPending_9 : decode b_E_firstPending 9 = .ok (.iconst 0, 1) := by decide +kernel
theorem d_E_firstPending_10 : decode b_E_firstPending 10 = .ok (.istore_n 2, 1) := by decide +kernel
theorem d_E_firstPending_11 : decode b_E_firstPending 11 = .ok (.iload_n 2, 1) := by decide +kernel
theorem d_E_firstPending_12 : decode b_E_firstPending 12 = .ok (.aload_n 0, 1) := by decide +kernel
theorem d_E_firstPending_13 : decode b_E_firstPending 13 = .ok (.getfield 18, 3) := by decide +kernel
theorem d_E_firstPending_16 : decode b_E_firstPending 16 = .ok (.if_icmp .ge 61, 3) := by decide +kernel
theorem d_E_firstPending_19 : decode b_E_firstPending 19 = .ok (.aload_n 0, 1) := by decide +kernel
theorem d_E_firstPending_20 : decode b_E_firstPending 20 = .ok (.iload_n 1, 1) := by decide +kernel
theorem d_E_firstPending_21 : decode b_E_firstPending 21 = .ok (.iload_n 2, 1) := by decide +kernel
theorem d_E_firstPending_22 : decode b_E_firstPending 22 = .ok (.invokevirtual 75, 3) := by decide +kernel
theorem d_E_firstPending_25 : decode b_E_firstPending 25 = .ok (.istore_n 3, 1) := by decide +kernel
theorem d_E_firstPending_26 : decode b_E_firstPending 26 = .ok (.iconst 0, 1) := by decide +kernel
theorem d_E_firstPending_27 : decode b_E_firstPending 27 = .ok (.istore 4, 2) := by decide +kernel
theorem d_E_firstPending_29 : decode b_E_firstPending 29 = .ok (.iload_n 3, 1) := by decide +kernel
theorem d_E_firstPending_30 : decode b_E_firstPending 30 = .ok (.ifCond .eq 41, 3) := by decide +kernel
theorem d_E_firstPending_33 : decode b_E_firstPending 33 = .ok (.iload 4, 2) := by decide +kernel
theorem d_E_firstPending_35 : decode b_E_firstPending 35 = .ok (.aload_n 0, 1) := by decide +kernel
theorem d_E_firstPending_36 : decode b_E_firstPending 36 = .ok (.getfield 18, 3) := by decide +kernel
theorem d_E_firstPending_39 : decode b_E_firstPending 39 = .ok (.if_icmp .ge 32, 3) := by decide +kernel
theorem d_E_firstPending_42 : decode b_E_firstPending 42 = .ok (.iload_n 3, 1) := by decide +kernel
theorem d_E_firstPending_43 : decode b_E_firstPending 43 = .ok (.iload 4, 2) := by decide +kernel
theorem d_E_firstPending_45 : decode b_E_firstPending 45 = .ok (.ishr, 1) := by decide +kernel
theorem d_E_firstPending_46 : decode b_E_firstPending 46 = .ok (.iconst 1, 1) := by decide +kernel
theorem d_E_firstPending_47 : decode b_E_firstPending 47 = .ok (.iand, 1) := by decide +kernel
theorem d_E_firstPending_48 : decode b_E_firstPending 48 = .ok (.iconst 1, 1) := by decide +kernel
theorem d_E_firstPending_49 : decode b_E_firstPending 49 = .ok (.if_icmp .ne 16, 3) := by decide +kernel
theorem d_E_firstPending_52 : decode b_E_firstPending 52 = .ok (.iload_n 1, 1) := by decide +kernel
theorem d_E_firstPending_53 : decode b_E_firstPending 53 = .ok (.bipush 7, 2) := by decide +kernel
theorem d_E_firstPending_55 : decode b_E_firstPending 55 = .ok (.imul, 1) := by decide +kernel
theorem d_E_firstPending_56 : decode b_E_firstPending 56 = .ok (.iload_n 2, 1) := by decide +kernel
theorem d_E_firstPending_57 : decode b_E_firstPending 57 = .ok (.iadd, 1) := by decide +kernel
theorem d_E_firstPending_58 : decode b_E_firstPending 58 = .ok (.bipush 7, 2) := by decide +kernel
theorem d_E_firstPending_60 : decode b_E_firstPending 60 = .ok (.imul, 1) := by decide +kernel
theorem d_E_firstPending_61 : decode b_E_firstPending 61 = .ok (.iload 4, 2) := by decide +kernel
theorem d_E_firstPending_63 : decode b_E_firstPending 63 = .ok (.iadd, 1) := by decide +kernel
theorem d_E_firstPending_64 : decode b_E_firstPending 64 = .ok (.ireturn, 1) := by decide +kernel
theorem d_E_firstPending_65 : decode b_E_firstPending 65 = .ok (.iinc 4 1, 3) := by decide +kernel
theorem d_E_firstPending_68 : decode b_E_firstPending 68 = .ok (.goto (-39), 3) := by decide +kernel
theorem d_E_firstPending_71 : decode b_E_firstPending 71 = .ok (.iinc 2 1, 3) := by decide +kernel
theorem d_E_firstPending_74 : decode b_E_firstPending 74 = .ok (.goto (-63), 3) := by decide +kernel
theorem d_E_firstPending_77 : decode b_E_firstPending 77 = .ok (.iinc 1 1, 3) := by decide +kernel
theorem d_E_firstPending_80 : decode b_E_firstPending 80 = .ok (.goto (-78), 3) := by decide +kernel
theorem d_E_firstPending_83 : decode b_E_firstPending 83 = .ok (.iconst (-1), 1) := by decide +kernel
theorem d_E_firstPending_84 : decode b_E_firstPending 84 = .ok (.ireturn, 1) := by decide +kernel
theorem d_E_takers_0 : decode b_E_takers 0 = .ok (.aload_n 0, 1) := by decide +kernel
theorem d_E_takers_1 : decode b_E_takers 1 = .ok (.getfield 27, 3) := by decide +kernel
theorem d_E_takers_4 : decode b_E_takers 4 = .ok (.iload_n 2, 1) := by decide +kernel
theorem d_E_takers_5 : decode b_E_takers 5 = .ok (.aaload, 1) := by decide +kernel
theorem d_E_takers_6 : decode b_E_takers 6 = .ok (.iload_n 1, 1) := by decide +kernel
theorem d_E_takers_7 : decode b_E_takers 7 = .ok (.invokevirtual 65, 3) := by decide +kernel
theorem d_E_takers_10 : decode b_E_takers 10 = .ok (.lstore_n 3, 1) := by decide +kernel
theorem d_E_takers_11 : decode b_E_takers 11 = .ok (.lload_n 3, 1) := by decide +kernel
theorem d_E_takers_12 : decode b_E_takers 12 = .ok (.ldc2_w 69, 3) := by decide +kernel
theorem d_E_takers_15 : decode b_E_takers 15 = .ok (.lcmp, 1) := by decide +kernel
theorem d_E_takers_16 : decode b_E_takers 16 = .ok (.ifCond .eq 11, 3) := by decide +kernel
theorem d_E_takers_19 : decode b_E_takers 19 = .ok (.aload_n 0, 1) := by decide +kernel
theorem d_E_takers_20 : decode b_E_takers 20 = .ok (.iload_n 2, 1) := by decide +kernel
theorem d_E_takers_21 : decode b_E_takers 21 = .ok (.invokevirtual 44, 3) := by decide +kernel
theorem d_E_takers_24 : decode b_E_takers 24 = .ok (.ifCond .ne 5, 3) := by decide +kernel
theorem d_E_takers_27 : decode b_E_takers 27 = .ok (.iconst 0, 1) := by decide +kernel
theorem d_E_takers_28 : decode b_E_takers 28 = .ok (.ireturn, 1) := by decide +kernel
theorem d_E_takers_29 : decode b_E_takers 29 = .ok (.iconst 0, 1) := by decide +kernel
theorem d_E_takers_30 : decode b_E_takers 30 = .ok (.istore 5, 2) := by decide +kernel
theorem d_E_takers_32 : decode b_E_takers 32 = .ok (.iconst 0, 1) := by decide +kernel
theorem d_E_takers_33 : decode b_E_takers 33 = .ok (.istore 6, 2) := by decide +kernel
theorem d_E_takers_35 : decode b_E_takers 35 = .ok (.iload 6, 2) := by decide +kernel
theorem d_E_takers_37 : decode b_E_takers 37 = .ok (.aload_n 0, 1) := by decide +kernel
theorem d_E_takers_38 : decode b_E_takers 38 = .ok (.getfield 18, 3) := by decide +kernel
theorem d_E_takers_41 : decode b_E_takers 41 = .ok (.if_icmp .ge 34, 3) := by decide +kernel
theorem d_E_takers_44 : decode b_E_takers 44 = .ok (.aload_n 0, 1) := by decide +kernel
theorem d_E_takers_45 : decode b_E_takers 45 = .ok (.getfield 27, 3) := by decide +kernel
theorem d_E_takers_48 : decode b_E_takers 48 = .ok (.iload 6, 2) := by decide +kernel
theorem d_E_takers_50 : decode b_E_takers 50 = .ok (.aaload, 1) := by decide +kernel
theorem d_E_takers_51 : decode b_E_takers 51 = .ok (.iload_n 1, 1) := by decide +kernel
theorem d_E_takers_52 : decode b_E_takers 52 = .ok (.iload_n 2, 1) := by decide +kernel
theorem d_E_takers_53 : decode b_E_takers 53 = .ok (.lload_n 3, 1) := by decide +kernel
theorem d_E_takers_54 : decode b_E_takers 54 = .ok (.invokevirtual 125, 3) := by decide +kernel
theorem d_E_takers_57 : decode b_E_takers 57 = .ok (.ifCond .eq 12, 3) := by decide +kernel
theorem d_E_takers_60 : decode b_E_takers 60 = .ok (.iload 5, 2) := by decide +kernel
theorem d_E_takers_62 : decode b_E_takers 62 = .ok (.iconst 1, 1) := by decide +kernel
theorem d_E_takers_63 : decode b_E_takers 63 = .ok (.iload 6, 2) := by decide +kernel
theorem d_E_takers_65 : decode b_E_takers 65 = .ok (.ishl, 1) := by decide +kernel
theorem d_E_takers_66 : decode b_E_takers 66 = .ok (.ior, 1) := by decide +kernel
theorem d_E_takers_67 : decode b_E_takers 67 = .ok (.istore 5, 2) := by decide +kernel
theorem d_E_takers_69 : decode b_E_takers 69 = .ok (.iinc 6 1, 3) := by decide +kernel
theorem d_E_takers_72 : decode b_E_takers 72 = .ok (.goto (-37), 3) := by decide +kernel
theorem d_E_takers_75 : decode b_E_takers 75 = .ok (.iload 5, 2) := by decide +kernel
theorem d_E_takers_77 : decode b_E_takers 77 = .ok (.ireturn, 1) := by decide +kernel
