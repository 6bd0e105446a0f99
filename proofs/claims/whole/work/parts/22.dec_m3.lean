/-! Decode rows, laid by wip/gen/names.py -/
theorem d_M_init_0 : decode b_M_init 0 = .ok (.aload_n 0, 1) := by decide +kernel
theorem d_M_init_1 : decode b_M_init 1 = .ok (.invokespecial 1, 3) := by decide +kernel
theorem d_M_init_4 : decode b_M_init 4 = .ok (.aload_n 0, 1) := by decide +kernel
theorem d_M_init_5 : decode b_M_init 5 = .ok (.bipush 7, 2) := by decide +kernel
theorem d_M_init_7 : decode b_M_init 7 = .ok (.newarray .int, 2) := by decide +kernel
theorem d_M_init_9 : decode b_M_init 9 = .ok (.putfield 7, 3) := by decide +kernel
theorem d_M_init_12 : decode b_M_init 12 = .ok (.aload_n 0, 1) := by decide +kernel
theorem d_M_init_13 : decode b_M_init 13 = .ok (.bipush 7, 2) := by decide +kernel
theorem d_M_init_15 : decode b_M_init 15 = .ok (.newarray .int, 2) := by decide +kernel
theorem d_M_init_17 : decode b_M_init 17 = .ok (.putfield 13, 3) := by decide +kernel
theorem d_M_init_20 : decode b_M_init 20 = .ok (.aload_n 0, 1) := by decide +kernel
theorem d_M_init_21 : decode b_M_init 21 = .ok (.bipush 7, 2) := by decide +kernel
theorem d_M_init_23 : decode b_M_init 23 = .ok (.newarray .int, 2) := by decide +kernel
theorem d_M_init_25 : decode b_M_init 25 = .ok (.putfield 16, 3) := by decide +kernel
theorem d_M_init_28 : decode b_M_init 28 = .ok (.aload_n 0, 1) := by decide +kernel
theorem d_M_init_29 : decode b_M_init 29 = .ok (.bipush 35, 2) := by decide +kernel
theorem d_M_init_31 : decode b_M_init 31 = .ok (.newarray .long, 2) := by decide +kernel
theorem d_M_init_33 : decode b_M_init 33 = .ok (.putfield 19, 3) := by decide +kernel
theorem d_M_init_36 : decode b_M_init 36 = .ok (.aload_n 0, 1) := by decide +kernel
theorem d_M_init_37 : decode b_M_init 37 = .ok (.sipush 245, 3) := by decide +kernel
theorem d_M_init_40 : decode b_M_init 40 = .ok (.newarray .long, 2) := by decide +kernel
theorem d_M_init_42 : decode b_M_init 42 = .ok (.putfield 23, 3) := by decide +kernel
theorem d_M_init_45 : decode b_M_init 45 = .ok (.aload_n 0, 1) := by decide +kernel
theorem d_M_init_46 : decode b_M_init 46 = .ok (.sipush 245, 3) := by decide +kernel
theorem d_M_init_49 : decode b_M_init 49 = .ok (.newarray .long, 2) := by decide +kernel
theorem d_M_init_51 : decode b_M_init 51 = .ok (.putfield 26, 3) := by decide +kernel
theorem d_M_init_54 : decode b_M_init 54 = .ok (.aload_n 0, 1) := by decide +kernel
theorem d_M_init_55 : decode b_M_init 55 = .ok (.sipush 245, 3) := by decide +kernel
theorem d_M_init_58 : decode b_M_init 58 = .ok (.newarray .long, 2) := by decide +kernel
theorem d_M_init_60 : decode b_M_init 60 = .ok (.putfield 29, 3) := by decide +kernel
theorem d_M_init_63 : decode b_M_init 63 = .ok (.aload_n 0, 1) := by decide +kernel
theorem d_M_init_64 : decode b_M_init 64 = .ok (.bipush 49, 2) := by decide +kernel
theorem d_M_init_66 : decode b_M_init 66 = .ok (.newarray .int, 2) := by decide +kernel
theorem d_M_init_68 : decode b_M_init 68 = .ok (.putfield 32, 3) := by decide +kernel
theorem d_M_init_71 : decode b_M_init 71 = .ok (.aload_n 0, 1) := by decide +kernel
theorem d_M_init_72 : decode b_M_init 72 = .ok (.bipush 7, 2) := by decide +kernel
theorem d_M_init_74 : decode b_M_init 74 = .ok (.newarray .int, 2) := by decide +kernel
theorem d_M_init_76 : decode b_M_init 76 = .ok (.putfield 35, 3) := by decide +kernel
theorem d_M_init_79 : decode b_M_init 79 = .ok (.aload_n 0, 1) := by decide +kernel
theorem d_M_init_80 : decode b_M_init 80 = .ok (.sipush 5145, 3) := by decide +kernel
theorem d_M_init_83 : decode b_M_init 83 = .ok (.newarray .long, 2) := by decide +kernel
theorem d_M_init_85 : decode b_M_init 85 = .ok (.putfield 38, 3) := by decide +kernel
theorem d_M_init_88 : decode b_M_init 88 = .ok (.aload_n 0, 1) := by decide +kernel
theorem d_M_init_89 : decode b_M_init 89 = .ok (.bipush 49, 2) := by decide +kernel
theorem d_M_init_91 : decode b_M_init 91 = .ok (.newarray .int, 2) := by decide +kernel
theorem d_M_init_93 : decode b_M_init 93 = .ok (.putfield 41, 3) := by decide +kernel
theorem d_M_init_96 : decode b_M_init 96 = .ok (.aload_n 0, 1) := by decide +kernel
theorem d_M_init_97 : decode b_M_init 97 = .ok (.sipush 245, 3) := by decide +kernel
theorem d_M_init_100 : decode b_M_init 100 = .ok (.newarray .long, 2) := by decide +kernel
theorem d_M_init_102 : decode b_M_init 102 = .ok (.putfield 44, 3) := by decide +kernel
theorem d_M_init_105 : decode b_M_init 105 = .ok (.aload_n 0, 1) := by decide +kernel
theorem d_M_init_106 : decode b_M_init 106 = .ok (.iload_n 1, 1) := by decide +kernel
theorem d_M_init_107 : decode b_M_init 107 = .ok (.iconst 4, 1) := by decide +kernel
theorem d_M_init_108 : decode b_M_init 108 = .ok (.if_icmp .ge 7, 3) := by decide +kernel
theorem d_M_init_111 : decode b_M_init 111 = .ok (.iconst 4, 1) := by decide +kernel
theorem d_M_init_112 : decode b_M_init 112 = .ok (.goto 15, 3) := by decide +kernel
theorem d_M_init_115 : decode b_M_init 115 = .ok (.iload_n 1, 1) := by decide +kernel
theorem d_M_init_116 : decode b_M_init 116 = .ok (.bipush 7, 2) := by decide +kernel
theorem d_M_init_118 : decode b_M_init 118 = .ok (.if_icmp .le 8, 3) := by decide +kernel
theorem d_M_init_121 : decode b_M_init 121 = .ok (.bipush 7, 2) := by decide +kernel
theorem d_M_init_123 : decode b_M_init 123 = .ok (.goto 4, 3) := by decide +kernel
theorem d_M_init_126 : decode b_M_init 126 = .ok (.iload_n 1, 1) := by decide +kernel
theorem d_M_init_127 : decode b_M_init 127 = .ok (.putfield 47, 3) := by decide +kernel
theorem d_M_init_130 : decode b_M_init 130 = .ok (.aload_n 0, 1) := by decide +kernel
theorem d_M_init_131 : decode b_M_init 131 = .ok (.aload_n 0, 1) := by decide +kernel
theorem d_M_init_132 : decode b_M_init 132 = .ok (.getfield 47, 3) := by decide +kernel
theorem d_M_init_135 : decode b_M_init 135 = .ok (.iconst 1, 1) := by decide +kernel
theorem d_M_init_136 : decode b_M_init 136 = .ok (.isub, 1) := by decide +kernel
theorem d_M_init_137 : decode b_M_init 137 = .ok (.iconst 3, 1) := by decide +kernel
theorem d_M_init_138 : decode b_M_init 138 = .ok (.idiv, 1) := by decide +kernel
theorem d_M_init_139 : decode b_M_init 139 = .ok (.putfield 51, 3) := by decide +kernel
theorem d_M_init_142 : decode b_M_init 142 = .ok (.aload_n 0, 1) := by decide +kernel
theorem d_M_init_143 : decode b_M_init 143 = .ok (.iload_n 2, 1) := by decide +kernel
theorem d_M_init_144 : decode b_M_init 144 = .ok (.ifCond .ge 7, 3) := by decide +kernel
theorem d_M_init_147 : decode b_M_init 147 = .ok (.lconst 0, 1) := by decide +kernel
theorem d_M_init_148 : decode b_M_init 148 = .ok (.goto 18, 3) := by decide +kernel
theorem d_M_init_151 : decode b_M_init 151 = .ok (.iload_n 2, 1) := by decide +kernel
theorem d_M_init_152 : decode b_M_init 152 = .ok (.sipush 1000, 3) := by decide +kernel
theorem d_M_init_155 : decode b_M_init 155 = .ok (.if_icmp .le 9, 3) := by decide +kernel
theorem d_M_init_158 : decode b_M_init 158 = .ok (.ldc2_w 54, 3) := by decide +kernel
theorem d_M_init_161 : decode b_M_init 161 = .ok (.goto 5, 3) := by decide +kernel
theorem d_M_init_164 : decode b_M_init 164 = .ok (.iload_n 2, 1) := by decide +kernel
theorem d_M_init_165 : decode b_M_init 165 = .ok (.i2l, 1) := by decide +kernel
theorem d_M_init_166 : decode b_M_init 166 = .ok (.putfield 56, 3) := by decide +kernel
theorem d_M_init_169 : decode b_M_init 169 = .ok (.return_, 1) := by decide +kernel
theorem d_M_corrupt_0 : decode b_M_corrupt 0 = .ok (.iconst 0, 1) := by decide +kernel
theorem d_M_corrupt_1 : decode b_M_corrupt 1 = .ok (.istore_n 2, 1) := by decide +kernel
theorem d_M_corrupt_2 : decode b_M_corrupt 2 = .ok (.iconst 0, 1) := by decide +kernel
theorem d_M_corrupt_3 : decode b_M_corrupt 3 = .ok (.istore_n 3, 1) := by decide +kernel
theorem d_M_corrupt_4 : decode b_M_corrupt 4 = .ok (.iload_n 3, 1) := by decide +kernel
theorem d_M_corrupt_5 : decode b_M_corrupt 5 = .ok (.aload_n 0, 1) := by decide +kernel
theorem d_M_corrupt_6 : decode b_M_corrupt 6 = .ok (.getfield 47, 3) := by decide +kernel
theorem d_M_corrupt_9 : decode b_M_corrupt 9 = .ok (.if_icmp .ge 27, 3) := by decide +kernel
theorem d_M_corrupt_12 : decode b_M_corrupt 12 = .ok (.iload_n 2, 1) := by decide +kernel
theorem d_M_corrupt_13 : decode b_M_corrupt 13 = .ok (.aload_n 0, 1) := by decide +kernel
theorem d_M_corrupt_14 : decode b_M_corrupt 14 = .ok (.getfield 7, 3) := by decide +kernel
theorem d_M_corrupt_17 : decode b_M_corrupt 17 = .ok (.iload_n 3, 1) := by decide +kernel
theorem d_M_corrupt_18 : decode b_M_corrupt 18 = .ok (.iaload, 1) := by decide +kernel
theorem d_M_corrupt_19 : decode b_M_corrupt 19 = .ok (.iconst 2, 1) := by decide +kernel
theorem d_M_corrupt_20 : decode b_M_corrupt 20 = .ok (.if_icmp .ne 7, 3) := by decide +kernel
theorem d_M_corrupt_23 : decode b_M_corrupt 23 = .ok (.iconst 1, 1) := by decide +kernel
theorem d_M_corrupt_24 : decode b_M_corrupt 24 = .ok (.goto 4, 3) := by decide +kernel
theorem d_M_corrupt_27 : decode b_M_corrupt 27 = .ok (.iconst 0, 1) := by decide +kernel
theorem d_M_corrupt_28 : decode b_M_corrupt 28 = .ok (.iadd, 1) := by decide +kernel
theorem d_M_corrupt_29 : decode b_M_corrupt 29 = .ok (.istore_n 2, 1) := by decide +kernel
theorem d_M_corrupt_30 : decode b_M_corrupt 30 = .ok (.iinc 3 1, 3) := by decide +kernel
theorem d_M_corrupt_33 : decode b_M_corrupt 33 = .ok (.goto (-29), 3) := by decide +kernel
theorem d_M_corrupt_36 : decode b_M_corrupt 36 = .ok (.aload_n 0, 1) := by decide +kernel
theorem d_M_corrupt_37 : decode b_M_corrupt 37 = .ok (.iload_n 1, 1) := by decide +kernel
theorem d_M_corrupt_38 : decode b_M_corrupt 38 = .ok (.invokevirtual 140, 3) := by decide +kernel
theorem d_M_corrupt_41 : decode b_M_corrupt 41 = .ok (.ifCond .eq 11, 3) := by decide +kernel
theorem d_M_corrupt_44 : decode b_M_corrupt 44 = .ok (.iload_n 2, 1) := by decide +kernel
theorem d_M_corrupt_45 : decode b_M_corrupt 45 = .ok (.aload_n 0, 1) := by decide +kernel
theorem d_M_corrupt_46 : decode b_M_corrupt 46 = .ok (.getfield 51, 3) := by decide +kernel
theorem d_M_corrupt_49 : decode b_M_corrupt 49 = .ok (.if_icmp .ne 5, 3) := by decide +kernel
theorem d_M_corrupt_52 : decode b_M_corrupt 52 = .ok (.iconst 0, 1) := by decide +kernel
theorem d_M_corrupt_53 : decode b_M_corrupt 53 = .ok (.ireturn, 1) := by decide +kernel
theorem d_M_corrupt_54 : decode b_M_corrupt 54 = .ok (.aload_n 0, 1) := by decide +kernel
theorem d_M_corrupt_55 : decode b_M_corrupt 55 = .ok (.getfield 7, 3) := by decide +kernel
theorem d_M_corrupt_58 : decode b_M_corrupt 58 = .ok (.iload_n 1, 1) := by decide +kernel
theorem d_M_corrupt_59 : decode b_M_corrupt 59 = .ok (.iconst 2, 1) := by decide +kernel
theorem d_M_corrupt_60 : decode b_M_corrupt 60 = .ok (.iastore, 1) := by decide +kernel
theorem d_M_corrupt_61 : decode b_M_corrupt 61 = .ok (.iconst 1, 1) := by decide +kernel
theorem d_M_corrupt_62 : decode b_M_corrupt 62 = .ok (.ireturn, 1) := by decide +kernel
theorem d_M_crash_0 : decode b_M_crash 0 = .ok (.aload_n 0, 1) := by decide +kernel
theorem d_M_crash_1 : decode b_M_crash 1 = .ok (.iload_n 1, 1) := by decide +kernel
theorem d_M_crash_2 : decode b_M_crash 2 = .ok (.invokevirtual 156, 3) := by decide +kernel
theorem d_M_crash_5 : decode b_M_crash 5 = .ok (.ifCond .ne 5, 3) := by decide +kernel
theorem d_M_crash_8 : decode b_M_crash 8 = .ok (.iconst 0, 1) := by decide +kernel
theorem d_M_crash_9 : decode b_M_crash 9 = .ok (.ireturn, 1) := by decide +kernel
theorem d_M_crash_10 : decode b_M_crash 10 = .ok (.aload_n 0, 1) := by decide +kernel
theorem d_M_crash_11 : decode b_M_crash 11 = .ok (.iload_n 1, 1) := by decide +kernel
theorem d_M_crash_12 : decode b_M_crash 12 = .ok (.invokevirtual 95, 3) := by decide +kernel
theorem d_M_crash_15 : decode b_M_crash 15 = .ok (.iconst 1, 1) := by decide +kernel
theorem d_M_crash_16 : decode b_M_crash 16 = .ok (.ireturn, 1) := by decide +kernel
theorem d_M_restart_0 : decode b_M_restart 0 = .ok (.aload_n 0, 1) := by decide +kernel
theorem d_M_restart_1 : decode b_M_restart 1 = .ok (.iload_n 1, 1) := by decide +kernel
theorem d_M_restart_2 : decode b_M_restart 2 = .ok (.invokevirtual 140, 3) := by decide +kernel
theorem d_M_restart_5 : decode b_M_restart 5 = .ok (.ifCond .eq 13, 3) := by decide +kernel
theorem d_M_restart_8 : decode b_M_restart 8 = .ok (.aload_n 0, 1) := by decide +kernel
theorem d_M_restart_9 : decode b_M_restart 9 = .ok (.getfield 7, 3) := by decide +kernel
theorem d_M_restart_12 : decode b_M_restart 12 = .ok (.iload_n 1, 1) := by decide +kernel
theorem d_M_restart_13 : decode b_M_restart 13 = .ok (.iaload, 1) := by decide +kernel
theorem d_M_restart_14 : decode b_M_restart 14 = .ok (.iconst 1, 1) := by decide +kernel
theorem d_M_restart_15 : decode b_M_restart 15 = .ok (.if_icmp .eq 5, 3) := by decide +kernel
theorem d_M_restart_18 : decode b_M_restart 18 = .ok (.iconst 0, 1) := by decide +kernel
theorem d_M_restart_19 : decode b_M_restart 19 = .ok (.ireturn, 1) := by decide +kernel
theorem d_M_restart_20 : decode b_M_restart 20 = .ok (.aload_n 0, 1) := by decide +kernel
theorem d_M_restart_21 : decode b_M_restart 21 = .ok (.getfield 7, 3) := by decide +kernel
theorem d_M_restart_24 : decode b_M_restart 24 = .ok (.iload_n 1, 1) := by decide +kernel
theorem d_M_restart_25 : decode b_M_restart 25 = .ok (.iconst 0, 1) := by decide +kernel
theorem d_M_restart_26 : decode b_M_restart 26 = .ok (.iastore, 1) := by decide +kernel
theorem d_M_restart_27 : decode b_M_restart 27 = .ok (.iconst 1, 1) := by decide +kernel
theorem d_M_restart_28 : decode b_M_restart 28 = .ok (.ireturn, 1) := by decide +kernel
theorem d_M_fuse_0 : decode b_M_fuse 0 = .ok (.aload_n 0, 1) := by decide +kernel
theorem d_M_fuse_1 : decode b_M_fuse 1 = .ok (.iload_n 1, 1) := by decide +kernel
theorem d_M_fuse_2 : decode b_M_fuse 2 = .ok (.invokevirtual 156, 3) := by decide +kernel
theorem d_M_fuse_5 : decode b_M_fuse 5 = .ok (.ifCond .eq 13, 3) := by decide +kernel
theorem d_M_fuse_8 : decode b_M_fuse 8 = .ok (.iload_n 2, 1) := by decide +kernel
theorem d_M_fuse_9 : decode b_M_fuse 9 = .ok (.ifCond .lt 9, 3) := by decide +kernel
theorem d_M_fuse_12 : decode b_M_fuse 12 = .ok (.iload_n 2, 1) := by decide +kernel
theorem d_M_fuse_13 : decode b_M_fuse 13 = .ok (.bipush 9, 2) := by decide +kernel
theorem d_M_fuse_15 : decode b_M_fuse 15 = .ok (.if_icmp .le 5, 3) := by decide +kernel
theorem d_M_fuse_18 : decode b_M_fuse 18 = .ok (.iconst 0, 1) := by decide +kernel
theorem d_M_fuse_19 : decode b_M_fuse 19 = .ok (.ireturn, 1) := by decide +kernel
theorem d_M_fuse_20 : decode b_M_fuse 20 = .ok (.aload_n 0, 1) := by decide +kernel
theorem d_M_fuse_21 : decode b_M_fuse 21 = .ok (.getfield 13, 3) := by decide +kernel
theorem d_M_fuse_24 : decode b_M_fuse 24 = .ok (.iload_n 1, 1) := by decide +kernel
theorem d_M_fuse_25 : decode b_M_fuse 25 = .ok (.iload_n 2, 1) := by decide +kernel
theorem d_M_fuse_26 : decode b_M_fuse 26 = .ok (.iastore, 1) := by decide +kernel
theorem d_M_fuse_27 : decode b_M_fuse 27 = .ok (.iconst 1, 1) := by decide +kernel
theorem d_M_fuse_28 : decode b_M_fuse 28 = .ok (.ireturn, 1) := by decide +kernel
theorem d_M_mark_0 : decode b_M_mark 0 = .ok (.aload_n 0, 1) := by decide +kernel
theorem d_M_mark_1 : decode b_M_mark 1 = .ok (.iload_n 1, 1) := by decide +kernel
theorem d_M_mark_2 : decode b_M_mark 2 = .ok (.invokevirtual 156, 3) := by decide +kernel
theorem d_M_mark_5 : decode b_M_mark 5 = .ok (.ifCond .ne 5, 3) := by decide +kernel
theorem d_M_mark_8 : decode b_M_mark 8 = .ok (.iconst (-1), 1) := by decide +kernel
theorem d_M_mark_9 : decode b_M_mark 9 = .ok (.ireturn, 1) := by decide +kernel
theorem d_M_mark_10 : decode b_M_mark 10 = .ok (.aload_n 0, 1) := by decide +kernel
theorem d_M_mark_11 : decode b_M_mark 11 = .ok (.iload_n 1, 1) := by decide +kernel
theorem d_M_mark_12 : decode b_M_mark 12 = .ok (.invokevirtual 120, 3) := by decide +kernel
theorem d_M_mark_15 : decode b_M_mark 15 = .ok (.ifCond .eq 6, 3) := by decide +kernel
theorem d_M_mark_18 : decode b_M_mark 18 = .ok (.bipush (-7), 2) := by decide +kernel
theorem d_M_mark_20 : decode b_M_mark 20 = .ok (.ireturn, 1) := by decide +kernel
theorem d_M_mark_21 : decode b_M_mark 21 = .ok (.iconst 0, 1) := by decide +kernel
theorem d_M_mark_22 : decode b_M_mark 22 = .ok (.istore_n 2, 1) := by decide +kernel
theorem d_M_mark_23 : decode b_M_mark 23 = .ok (.iconst 0, 1) := by decide +kernel
theorem d_M_mark_24 : decode b_M_mark 24 = .ok (.istore_n 3, 1) := by decide +kernel
theorem d_M_mark_25 : decode b_M_mark 25 = .ok (.iload_n 3, 1) := by decide +kernel
theorem d_M_mark_26 : decode b_M_mark 26 = .ok (.aload_n 0, 1) := by decide +kernel
theorem d_M_mark_27 : decode b_M_mark 27 = .ok (.getfield 47, 3) := by decide +kernel
theorem d_M_mark_30 : decode b_M_mark 30 = .ok (.if_icmp .ge 22, 3) := by decide +kernel
theorem d_M_mark_33 : decode b_M_mark 33 = .ok (.iload_n 2, 1) := by decide +kernel
theorem d_M_mark_34 : decode b_M_mark 34 = .ok (.aload_n 0, 1) := by decide +kernel
theorem d_M_mark_35 : decode b_M_mark 35 = .ok (.iload_n 1, 1) := by decide +kernel
theorem d_M_mark_36 : decode b_M_mark 36 = .ok (.iload_n 3, 1) := by decide +kernel
theorem d_M_mark_37 : decode b_M_mark 37 = .ok (.invokevirtual 87, 3) := by decide +kernel
theorem d_M_mark_40 : decode b_M_mark 40 = .ok (.iconst 3, 1) := by decide +kernel
theorem d_M_mark_41 : decode b_M_mark 41 = .ok (.iload_n 3, 1) := by decide +kernel
theorem d_M_mark_42 : decode b_M_mark 42 = .ok (.imul, 1) := by decide +kernel
theorem d_M_mark_43 : decode b_M_mark 43 = .ok (.ishl, 1) := by decide +kernel
theorem d_M_mark_44 : decode b_M_mark 44 = .ok (.iadd, 1) := by decide +kernel
theorem d_M_mark_45 : decode b_M_mark 45 = .ok (.istore_n 2, 1) := by decide +kernel
theorem d_M_mark_46 : decode b_M_mark 46 = .ok (.iinc 3 1, 3) := by decide +kernel
theorem d_M_mark_49 : decode b_M_mark 49 = .ok (.goto (-24), 3) := by decide +kernel
theorem d_M_mark_52 : decode b_M_mark 52 = .ok (.aload_n 0, 1) := by decide +kernel
theorem d_M_mark_53 : decode b_M_mark 53 = .ok (.getfield 35, 3) := by decide +kernel
theorem d_M_mark_56 : decode b_M_mark 56 = .ok (.iload_n 1, 1) := by decide +kernel
theorem d_M_mark_57 : decode b_M_mark 57 = .ok (.iload_n 2, 1) := by decide +kernel
theorem d_M_mark_58 : decode b_M_mark 58 = .ok (.iconst 1, 1) := by decide +kernel
theorem d_M_mark_59 : decode b_M_mark 59 = .ok (.iadd, 1) := by decide +kernel
theorem d_M_mark_60 : decode b_M_mark 60 = .ok (.iastore, 1) := by decide +kernel
theorem d_M_mark_61 : decode b_M_mark 61 = .ok (.iload_n 2, 1) := by decide +kernel
theorem d_M_mark_62 : decode b_M_mark 62 = .ok (.ireturn, 1) := by decide +kernel
theorem d_M_sent_0 : decode b_M_sent 0 = .ok (.aload_n 0, 1) := by decide +kernel
theorem d_M_sent_1 : decode b_M_sent 1 = .ok (.iload_n 1, 1) := by decide +kernel
theorem d_M_sent_2 : decode b_M_sent 2 = .ok (.invokevirtual 140, 3) := by decide +kernel
theorem d_M_sent_5 : decode b_M_sent 5 = .ok (.ifCond .eq 15, 3) := by decide +kernel
theorem d_M_sent_8 : decode b_M_sent 8 = .ok (.aload_n 0, 1) := by decide +kernel
theorem d_M_sent_9 : decode b_M_sent 9 = .ok (.iload_n 1, 1) := by decide +kernel
theorem d_M_sent_10 : decode b_M_sent 10 = .ok (.iload_n 2, 1) := by decide +kernel
theorem d_M_sent_11 : decode b_M_sent 11 = .ok (.iload_n 3, 1) := by decide +kernel
theorem d_M_sent_12 : decode b_M_sent 12 = .ok (.iload 4, 2) := by decide +kernel
theorem d_M_sent_14 : decode b_M_sent 14 = .ok (.invokevirtual 152, 3) := by decide +kernel
theorem d_M_sent_17 : decode b_M_sent 17 = .ok (.goto 6, 3) := by decide +kernel
theorem d_M_sent_20 : decode b_M_sent 20 = .ok (.ldc2_w 99, 3) := by decide +kernel
theorem d_M_sent_23 : decode b_M_sent 23 = .ok (.lreturn, 1) := by decide +kernel
theorem d_M_heard_0 : decode b_M_heard 0 = .ok (.iload_n 2, 1) := by decide +kernel
theorem d_M_heard_1 : decode b_M_heard 1 = .ok (.iconst 4, 1) := by decide +kernel
theorem d_M_heard_2 : decode b_M_heard 2 = .ok (.if_icmp .ne 16, 3) := by decide +kernel
theorem d_M_heard_5 : decode b_M_heard 5 = .ok (.iload_n 3, 1) := by decide +kernel
theorem d_M_heard_6 : decode b_M_heard 6 = .ok (.ifCond .ne 12, 3) := by decide +kernel
theorem d_M_heard_9 : decode b_M_heard 9 = .ok (.iload 4, 2) := by decide +kernel
theorem d_M_heard_11 : decode b_M_heard 11 = .ok (.ifCond .ne 7, 3) := by decide +kernel
theorem d_M_heard_14 : decode b_M_heard 14 = .ok (.iconst 1, 1) := by decide +kernel
theorem d_M_heard_15 : decode b_M_heard 15 = .ok (.goto 4, 3) := by decide +kernel
theorem d_M_heard_18 : decode b_M_heard 18 = .ok (.iconst 0, 1) := by decide +kernel
theorem d_M_heard_19 : decode b_M_heard 19 = .ok (.istore 5, 2) := by decide +kernel
theorem d_M_heard_21 : decode b_M_heard 21 = .ok (.iload_n 2, 1) := by decide +kernel
theorem d_M_heard_22 : decode b_M_heard 22 = .ok (.iconst 1, 1) := by decide +kernel
theorem d_M_heard_23 : decode b_M_heard 23 = .ok (.if_icmp .lt 22, 3) := by decide +kernel
theorem d_M_heard_26 : decode b_M_heard 26 = .ok (.iload_n 2, 1) := by decide +kernel
theorem d_M_heard_27 : decode b_M_heard 27 = .ok (.iconst 3, 1) := by decide +kernel
theorem d_M_heard_28 : decode b_M_heard 28 = .ok (.if_icmp .gt 17, 3) := by decide +kernel
theorem d_M_heard_31 : decode b_M_heard 31 = .ok (.aload_n 0, 1) := by decide +kernel
theorem d_M_heard_32 : decode b_M_heard 32 = .ok (.iload_n 3, 1) := by decide +kernel
theorem d_M_heard_33 : decode b_M_heard 33 = .ok (.iload 4, 2) := by decide +kernel
theorem d_M_heard_35 : decode b_M_heard 35 = .ok (.invokevirtual 64, 3) := by decide +kernel
theorem d_M_heard_38 : decode b_M_heard 38 = .ok (.ifCond .eq 7, 3) := by decide +kernel
theorem d_M_heard_41 : decode b_M_heard 41 = .ok (.iconst 1, 1) := by decide +kernel
theorem d_M_heard_42 : decode b_M_heard 42 = .ok (.goto 4, 3) := by decide +kernel
theorem d_M_heard_45 : decode b_M_heard 45 = .ok (.iconst 0, 1) := by decide +kernel
theorem d_M_heard_46 : decode b_M_heard 46 = .ok (.istore 6, 2) := by decide +kernel
theorem d_M_heard_48 : decode b_M_heard 48 = .ok (.aload_n 0, 1) := by decide +kernel
theorem d_M_heard_49 : decode b_M_heard 49 = .ok (.iload_n 1, 1) := by decide +kernel
theorem d_M_heard_50 : decode b_M_heard 50 = .ok (.invokevirtual 140, 3) := by decide +kernel
theorem d_M_heard_53 : decode b_M_heard 53 = .ok (.ifCond .eq 13, 3) := by decide +kernel
theorem d_M_heard_56 : decode b_M_heard 56 = .ok (.iload 5, 2) := by decide +kernel
theorem d_M_heard_58 : decode b_M_heard 58 = .ok (.ifCond .ne 10, 3) := by decide +kernel
theorem d_M_heard_61 : decode b_M_heard 61 = .ok (.iload 6, 2) := by decide +kernel
theorem d_M_heard_63 : decode b_M_heard 63 = .ok (.ifCond .ne 5, 3) := by decide +kernel
theorem d_M_heard_66 : decode b_M_heard 66 = .ok (.iconst (-1), 1) := by decide +kernel
theorem d_M_heard_67 : decode b_M_heard 67 = .ok (.ireturn, 1) := by decide +kernel
theorem d_M_heard_68 : decode b_M_heard 68 = .ok (.iconst 0, 1) := by decide +kernel
theorem d_M_heard_69 : decode b_M_heard 69 = .ok (.istore 7, 2) := by decide +kernel
theorem d_M_heard_71 : decode b_M_heard 71 = .ok (.iconst 0, 1) := by decide +kernel
theorem d_M_heard_72 : decode b_M_heard 72 = .ok (.istore 8, 2) := by decide +kernel
theorem d_M_heard_74 : decode b_M_heard 74 = .ok (.iload 8, 2) := by decide +kernel
theorem d_M_heard_76 : decode b_M_heard 76 = .ok (.aload_n 0, 1) := by decide +kernel
theorem d_M_heard_77 : decode b_M_heard 77 = .ok (.getfield 47, 3) := by decide +kernel
theorem d_M_heard_80 : decode b_M_heard 80 = .ok (.if_icmp .ge 72, 3) := by decide +kernel
theorem d_M_heard_83 : decode b_M_heard 83 = .ok (.iload 5, 2) := by decide +kernel
theorem d_M_heard_85 : decode b_M_heard 85 = .ok (.ifCond .eq 26, 3) := by decide +kernel
theorem d_M_heard_88 : decode b_M_heard 88 = .ok (.aload_n 0, 1) := by decide +kernel
theorem d_M_heard_89 : decode b_M_heard 89 = .ok (.getfield 41, 3) := by decide +kernel
theorem d_M_heard_92 : decode b_M_heard 92 = .ok (.bipush 7, 2) := by decide +kernel
theorem d_M_heard_94 : decode b_M_heard 94 = .ok (.iload_n 1, 1) := by decide +kernel
theorem d_M_heard_95 : decode b_M_heard 95 = .ok (.imul, 1) := by decide +kernel
theorem d_M_heard_96 : decode b_M_heard 96 = .ok (.iload 8, 2) := by decide +kernel
theorem d_M_heard_98 : decode b_M_heard 98 = .ok (.iadd, 1) := by decide +kernel
theorem d_M_heard_99 : decode b_M_heard 99 = .ok (.iaload, 1) := by decide +kernel
theorem d_M_heard_100 : decode b_M_heard 100 = .ok (.ifCond .le 7, 3) := by decide +kernel
theorem d_M_heard_103 : decode b_M_heard 103 = .ok (.iconst 1, 1) := by decide +kernel
theorem d_M_heard_104 : decode b_M_heard 104 = .ok (.goto 32, 3) := by decide +kernel
theorem d_M_heard_107 : decode b_M_heard 107 = .ok (.iconst 0, 1) := by decide +kernel
theorem d_M_heard_108 : decode b_M_heard 108 = .ok (.goto 28, 3) := by decide +kernel
theorem d_M_heard_111 : decode b_M_heard 111 = .ok (.aload_n 0, 1) := by decide +kernel
theorem d_M_heard_112 : decode b_M_heard 112 = .ok (.getfield 38, 3) := by decide +kernel
theorem d_M_heard_115 : decode b_M_heard 115 = .ok (.iload_n 1, 1) := by decide +kernel
theorem d_M_heard_116 : decode b_M_heard 116 = .ok (.iload_n 2, 1) := by decide +kernel
theorem d_M_heard_117 : decode b_M_heard 117 = .ok (.iload_n 3, 1) := by decide +kernel
theorem d_M_heard_118 : decode b_M_heard 118 = .ok (.iload 4, 2) := by decide +kernel
theorem d_M_heard_120 : decode b_M_heard 120 = .ok (.iload 8, 2) := by decide +kernel
theorem d_M_heard_122 : decode b_M_heard 122 = .ok (.invokestatic 109, 3) := by decide +kernel
theorem d_M_heard_125 : decode b_M_heard 125 = .ok (.laload, 1) := by decide +kernel
theorem d_M_heard_126 : decode b_M_heard 126 = .ok (.lconst 0, 1) := by decide +kernel
theorem d_M_heard_127 : decode b_M_heard 127 = .ok (.lcmp, 1) := by decide +kernel
theorem d_M_heard_128 : decode b_M_heard 128 = .ok (.ifCond .eq 7, 3) := by decide +kernel
theorem d_M_heard_131 : decode b_M_heard 131 = .ok (.iconst 1, 1) := by decide +kernel
theorem d_M_heard_132 : decode b_M_heard 132 = .ok (.goto 4, 3) := by decide +kernel
theorem d_M_heard_135 : decode b_M_heard 135 = .ok (.iconst 0, 1) := by decide +kernel
theorem d_M_heard_136 : decode b_M_heard 136 = .ok (.istore 9, 2) := by decide +kernel
theorem d_M_heard_138 : decode b_M_heard 138 = .ok (.iload 9, 2) := by decide +kernel
theorem d_M_heard_140 : decode b_M_heard 140 = .ok (.ifCond .eq 6, 3) := by decide +kernel
theorem d_M_heard_143 : decode b_M_heard 143 = .ok (.iinc 7 1, 3) := by decide +kernel
theorem d_M_heard_146 : decode b_M_heard 146 = .ok (.iinc 8 1, 3) := by decide +kernel
theorem d_M_heard_149 : decode b_M_heard 149 = .ok (.goto (-75), 3) := by decide +kernel
theorem d_M_heard_152 : decode b_M_heard 152 = .ok (.iload 7, 2) := by decide +kernel
theorem d_M_heard_154 : decode b_M_heard 154 = .ok (.ireturn, 1) := by decide +kernel
theorem d_M_accepted_0 : decode b_M_accepted 0 = .ok (.aload_n 0, 1) := by decide +kernel
theorem d_M_accepted_1 : decode b_M_accepted 1 = .ok (.iload_n 1, 1) := by decide +kernel
theorem d_M_accepted_2 : decode b_M_accepted 2 = .ok (.invokevirtual 140, 3) := by decide +kernel
theorem d_M_accepted_5 : decode b_M_accepted 5 = .ok (.ifCond .eq 28, 3) := by decide +kernel
theorem d_M_accepted_8 : decode b_M_accepted 8 = .ok (.aload_n 0, 1) := by decide +kernel
theorem d_M_accepted_9 : decode b_M_accepted 9 = .ok (.iload_n 2, 1) := by decide +kernel
theorem d_M_accepted_10 : decode b_M_accepted 10 = .ok (.iload_n 3, 1) := by decide +kernel
theorem d_M_accepted_11 : decode b_M_accepted 11 = .ok (.invokevirtual 64, 3) := by decide +kernel
theorem d_M_accepted_14 : decode b_M_accepted 14 = .ok (.ifCond .eq 19, 3) := by decide +kernel
theorem d_M_accepted_17 : decode b_M_accepted 17 = .ok (.aload_n 0, 1) := by decide +kernel
theorem d_M_accepted_18 : decode b_M_accepted 18 = .ok (.getfield 44, 3) := by decide +kernel
theorem d_M_accepted_21 : decode b_M_accepted 21 = .ok (.iload_n 1, 1) := by decide +kernel
theorem d_M_accepted_22 : decode b_M_accepted 22 = .ok (.iload_n 2, 1) := by decide +kernel
theorem d_M_accepted_23 : decode b_M_accepted 23 = .ok (.iload_n 3, 1) := by decide +kernel
theorem d_M_accepted_24 : decode b_M_accepted 24 = .ok (.invokestatic 83, 3) := by decide +kernel
theorem d_M_accepted_27 : decode b_M_accepted 27 = .ok (.laload, 1) := by decide +kernel
theorem d_M_accepted_28 : decode b_M_accepted 28 = .ok (.lconst 0, 1) := by decide +kernel
theorem d_M_accepted_29 : decode b_M_accepted 29 = .ok (.lcmp, 1) := by decide +kernel
theorem d_M_accepted_30 : decode b_M_accepted 30 = .ok (.ifCond .ne 7, 3) := by decide +kernel
theorem d_M_accepted_33 : decode b_M_accepted 33 = .ok (.ldc2_w 99, 3) := by decide +kernel
theorem d_M_accepted_36 : decode b_M_accepted 36 = .ok (.lreturn, 1) := by decide +kernel
theorem d_M_accepted_37 : decode b_M_accepted 37 = .ok (.aload_n 0, 1) := by decide +kernel
theorem d_M_accepted_38 : decode b_M_accepted 38 = .ok (.getfield 44, 3) := by decide +kernel
theorem d_M_accepted_41 : decode b_M_accepted 41 = .ok (.iload_n 1, 1) := by decide +kernel
theorem d_M_accepted_42 : decode b_M_accepted 42 = .ok (.iload_n 2, 1) := by decide +kernel
theorem d_M_accepted_43 : decode b_M_accepted 43 = .ok (.iload_n 3, 1) := by decide +kernel
theorem d_M_accepted_44 : decode b_M_accepted 44 = .ok (.invokestatic 83, 3) := by decide +kernel
theorem d_M_accepted_47 : decode b_M_accepted 47 = .ok (.laload, 1) := by decide +kernel
theorem d_M_accepted_48 : decode b_M_accepted 48 = .ok (.lreturn, 1) := by decide +kernel
theorem d_M_applied_0 : decode b_M_applied 0 = .ok (.aload_n 0, 1) := by decide +kernel
theorem d_M_applied_1 : decode b_M_applied 1 = .ok (.iload_n 1, 1) := by decide +kernel
theorem d_M_applied_2 : decode b_M_applied 2 = .ok (.invokevirtual 140, 3) := by decide +kernel
theorem d_M_applied_5 : decode b_M_applied 5 = .ok (.ifCond .eq 24, 3) := by decide +kernel
theorem d_M_applied_8 : decode b_M_applied 8 = .ok (.iload_n 2, 1) := by decide +kernel
theorem d_M_applied_9 : decode b_M_applied 9 = .ok (.ifCond .lt 20, 3) := by decide +kernel
theorem d_M_applied_12 : decode b_M_applied 12 = .ok (.iload_n 2, 1) := by decide +kernel
theorem d_M_applied_13 : decode b_M_applied 13 = .ok (.aload_n 0, 1) := by decide +kernel
theorem d_M_applied_14 : decode b_M_applied 14 = .ok (.getfield 47, 3) := by decide +kernel
theorem d_M_applied_17 : decode b_M_applied 17 = .ok (.if_icmp .ge 12, 3) := by decide +kernel
theorem d_M_applied_20 : decode b_M_applied 20 = .ok (.aload_n 0, 1) := by decide +kernel
theorem d_M_applied_21 : decode b_M_applied 21 = .ok (.iload_n 1, 1) := by decide +kernel
theorem d_M_applied_22 : decode b_M_applied 22 = .ok (.iload_n 2, 1) := by decide +kernel
theorem d_M_applied_23 : decode b_M_applied 23 = .ok (.invokevirtual 87, 3) := by decide +kernel
theorem d_M_applied_26 : decode b_M_applied 26 = .ok (.goto 4, 3) := by decide +kernel
theorem d_M_applied_29 : decode b_M_applied 29 = .ok (.iconst (-1), 1) := by decide +kernel
theorem d_M_applied_30 : decode b_M_applied 30 = .ok (.ireturn, 1) := by decide +kernel
theorem d_M_balance_0 : decode b_M_balance 0 = .ok (.aload_n 0, 1) := by decide +kernel
theorem d_M_balance_1 : decode b_M_balance 1 = .ok (.iload_n 1, 1) := by decide +kernel
theorem d_M_balance_2 : decode b_M_balance 2 = .ok (.invokevirtual 140, 3) := by decide +kernel
theorem d_M_balance_5 : decode b_M_balance 5 = .ok (.ifCond .eq 24, 3) := by decide +kernel
theorem d_M_balance_8 : decode b_M_balance 8 = .ok (.iload_n 2, 1) := by decide +kernel
theorem d_M_balance_9 : decode b_M_balance 9 = .ok (.ifCond .lt 20, 3) := by decide +kernel
theorem d_M_balance_12 : decode b_M_balance 12 = .ok (.iload_n 2, 1) := by decide +kernel
theorem d_M_balance_13 : decode b_M_balance 13 = .ok (.aload_n 0, 1) := by decide +kernel
theorem d_M_balance_14 : decode b_M_balance 14 = .ok (.getfield 47, 3) := by decide +kernel
theorem d_M_balance_17 : decode b_M_balance 17 = .ok (.if_icmp .ge 12, 3) := by decide +kernel
theorem d_M_balance_20 : decode b_M_balance 20 = .ok (.aload_n 0, 1) := by decide +kernel
theorem d_M_balance_21 : decode b_M_balance 21 = .ok (.iload_n 1, 1) := by decide +kernel
theorem d_M_balance_22 : decode b_M_balance 22 = .ok (.iload_n 2, 1) := by decide +kernel
theorem d_M_balance_23 : decode b_M_balance 23 = .ok (.invokevirtual 91, 3) := by decide +kernel
theorem d_M_balance_26 : decode b_M_balance 26 = .ok (.goto 6, 3) := by decide +kernel
theorem d_M_balance_29 : decode b_M_balance 29 = .ok (.ldc2_w 99, 3) := by decide +kernel
theorem d_M_balance_32 : decode b_M_balance 32 = .ok (.lreturn, 1) := by decide +kernel
theorem d_M_freed_0 : decode b_M_freed 0 = .ok (.aload_n 0, 1) := by decide +kernel
theorem d_M_freed_1 : decode b_M_freed 1 = .ok (.iload_n 1, 1) := by decide +kernel
theorem d_M_freed_2 : decode b_M_freed 2 = .ok (.invokevirtual 140, 3) := by decide +kernel
theorem d_M_freed_5 : decode b_M_freed 5 = .ok (.ifCond .eq 29, 3) := by decide +kernel
theorem d_M_freed_8 : decode b_M_freed 8 = .ok (.iload_n 2, 1) := by decide +kernel
theorem d_M_freed_9 : decode b_M_freed 9 = .ok (.ifCond .lt 25, 3) := by decide +kernel
theorem d_M_freed_12 : decode b_M_freed 12 = .ok (.iload_n 2, 1) := by decide +kernel
theorem d_M_freed_13 : decode b_M_freed 13 = .ok (.aload_n 0, 1) := by decide +kernel
theorem d_M_freed_14 : decode b_M_freed 14 = .ok (.getfield 47, 3) := by decide +kernel
theorem d_M_freed_17 : decode b_M_freed 17 = .ok (.if_icmp .ge 17, 3) := by decide +kernel
theorem d_M_freed_20 : decode b_M_freed 20 = .ok (.aload_n 0, 1) := by decide +kernel
theorem d_M_freed_21 : decode b_M_freed 21 = .ok (.getfield 32, 3) := by decide +kernel
theorem d_M_freed_24 : decode b_M_freed 24 = .ok (.bipush 7, 2) := by decide +kernel
theorem d_M_freed_26 : decode b_M_freed 26 = .ok (.iload_n 1, 1) := by decide +kernel
theorem d_M_freed_27 : decode b_M_freed 27 = .ok (.imul, 1) := by decide +kernel
theorem d_M_freed_28 : decode b_M_freed 28 = .ok (.iload_n 2, 1) := by decide +kernel
theorem d_M_freed_29 : decode b_M_freed 29 = .ok (.iadd, 1) := by decide +kernel
theorem d_M_freed_30 : decode b_M_freed 30 = .ok (.iaload, 1) := by decide +kernel
theorem d_M_freed_31 : decode b_M_freed 31 = .ok (.goto 4, 3) := by decide +kernel
theorem d_M_freed_34 : decode b_M_freed 34 = .ok (.iconst (-1), 1) := by decide +kernel
theorem d_M_freed_35 : decode b_M_freed 35 = .ok (.ireturn, 1) := by decide +kernel
theorem d_M_kept_0 : decode b_M_kept 0 = .ok (.aload_n 0, 1) := by decide +kernel
theorem d_M_kept_1 : decode b_M_kept 1 = .ok (.iload_n 1, 1) := by decide +kernel
theorem d_M_kept_2 : decode b_M_kept 2 = .ok (.invokevirtual 140, 3) := by decide +kernel
theorem d_M_kept_5 : decode b_M_kept 5 = .ok (.ifCond .ne 5, 3) := by decide +kernel
theorem d_M_kept_8 : decode b_M_kept 8 = .ok (.iconst (-1), 1) := by decide +kernel
theorem d_M_kept_9 : decode b_M_kept 9 = .ok (.ireturn, 1) := by decide +kernel
theorem d_M_kept_10 : decode b_M_kept 10 = .ok (.iconst 0, 1) := by decide +kernel
theorem d_M_kept_11 : decode b_M_kept 11 = .ok (.istore_n 2, 1) := by decide +kernel
theorem d_M_kept_12 : decode b_M_kept 12 = .ok (.iconst 0, 1) := by decide +kernel
theorem d_M_kept_13 : decode b_M_kept 13 = .ok (.istore_n 3, 1) := by decide +kernel
theorem d_M_kept_14 : decode b_M_kept 14 = .ok (.iload_n 3, 1) := by decide +kernel
theorem d_M_kept_15 : decode b_M_kept 15 = .ok (.aload_n 0, 1) := by decide +kernel
theorem d_M_kept_16 : decode b_M_kept 16 = .ok (.getfield 47, 3) := by decide +kernel
theorem d_M_kept_19 : decode b_M_kept 19 = .ok (.if_icmp .ge 99, 3) := by decide +kernel
theorem d_M_kept_22 : decode b_M_kept 22 = .ok (.iconst 1, 1) := by decide +kernel
theorem d_M_kept_23 : decode b_M_kept 23 = .ok (.istore 4, 2) := by decide +kernel
theorem d_M_kept_25 : decode b_M_kept 25 = .ok (.iload 4, 2) := by decide +kernel
theorem d_M_kept_27 : decode b_M_kept 27 = .ok (.iconst 5, 1) := by decide +kernel
theorem d_M_kept_28 : decode b_M_kept 28 = .ok (.if_icmp .gt 84, 3) := by decide +kernel
theorem d_M_kept_31 : decode b_M_kept 31 = .ok (.iconst 0, 1) := by decide +kernel
theorem d_M_kept_32 : decode b_M_kept 32 = .ok (.istore 5, 2) := by decide +kernel
theorem d_M_kept_34 : decode b_M_kept 34 = .ok (.iconst 1, 1) := by decide +kernel
theorem d_M_kept_35 : decode b_M_kept 35 = .ok (.istore 6, 2) := by decide +kernel
theorem d_M_kept_37 : decode b_M_kept 37 = .ok (.iload 6, 2) := by decide +kernel
theorem d_M_kept_39 : decode b_M_kept 39 = .ok (.iconst 3, 1) := by decide +kernel
theorem d_M_kept_40 : decode b_M_kept 40 = .ok (.if_icmp .gt 24, 3) := by decide +kernel
theorem d_M_kept_43 : decode b_M_kept 43 = .ok (.iload 5, 2) := by decide +kernel
theorem d_M_kept_45 : decode b_M_kept 45 = .ok (.aload_n 0, 1) := by decide +kernel
theorem d_M_kept_46 : decode b_M_kept 46 = .ok (.iload_n 1, 1) := by decide +kernel
theorem d_M_kept_47 : decode b_M_kept 47 = .ok (.iload 6, 2) := by decide +kernel
theorem d_M_kept_49 : decode b_M_kept 49 = .ok (.iload_n 3, 1) := by decide +kernel
theorem d_M_kept_50 : decode b_M_kept 50 = .ok (.iload 4, 2) := by decide +kernel
theorem d_M_kept_52 : decode b_M_kept 52 = .ok (.invokevirtual 172, 3) := by decide +kernel
theorem d_M_kept_55 : decode b_M_kept 55 = .ok (.iadd, 1) := by decide +kernel
theorem d_M_kept_56 : decode b_M_kept 56 = .ok (.istore 5, 2) := by decide +kernel
theorem d_M_kept_58 : decode b_M_kept 58 = .ok (.iinc 6 1, 3) := by decide +kernel
theorem d_M_kept_61 : decode b_M_kept 61 = .ok (.goto (-24), 3) := by decide +kernel
theorem d_M_kept_64 : decode b_M_kept 64 = .ok (.iload 5, 2) := by decide +kernel
theorem d_M_kept_66 : decode b_M_kept 66 = .ok (.ifCond .gt 37, 3) := by decide +kernel
theorem d_M_kept_69 : decode b_M_kept 69 = .ok (.aload_n 0, 1) := by decide +kernel
theorem d_M_kept_70 : decode b_M_kept 70 = .ok (.getfield 23, 3) := by decide +kernel
theorem d_M_kept_73 : decode b_M_kept 73 = .ok (.iload_n 1, 1) := by decide +kernel
theorem d_M_kept_74 : decode b_M_kept 74 = .ok (.iload_n 3, 1) := by decide +kernel
theorem d_M_kept_75 : decode b_M_kept 75 = .ok (.iload 4, 2) := by decide +kernel
theorem d_M_kept_77 : decode b_M_kept 77 = .ok (.invokestatic 83, 3) := by decide +kernel
theorem d_M_kept_80 : decode b_M_kept 80 = .ok (.laload, 1) := by decide +kernel
theorem d_M_kept_81 : decode b_M_kept 81 = .ok (.lconst 0, 1) := by decide +kernel
theorem d_M_kept_82 : decode b_M_kept 82 = .ok (.lcmp, 1) := by decide +kernel
theorem d_M_kept_83 : decode b_M_kept 83 = .ok (.ifCond .ne 20, 3) := by decide +kernel
theorem d_M_kept_86 : decode b_M_kept 86 = .ok (.aload_n 0, 1) := by decide +kernel
theorem d_M_kept_87 : decode b_M_kept 87 = .ok (.getfield 26, 3) := by decide +kernel
theorem d_M_kept_90 : decode b_M_kept 90 = .ok (.iload_n 1, 1) := by decide +kernel
theorem d_M_kept_91 : decode b_M_kept 91 = .ok (.iload_n 3, 1) := by decide +kernel
theorem d_M_kept_92 : decode b_M_kept 92 = .ok (.iload 4, 2) := by decide +kernel
theorem d_M_kept_94 : decode b_M_kept 94 = .ok (.invokestatic 83, 3) := by decide +kernel
theorem d_M_kept_97 : decode b_M_kept 97 = .ok (.laload, 1) := by decide +kernel
theorem d_M_kept_98 : decode b_M_kept 98 = .ok (.lconst 0, 1) := by decide +kernel
theorem d_M_kept_99 : decode b_M_kept 99 = .ok (.lcmp, 1) := by decide +kernel
theorem d_M_kept_100 : decode b_M_kept 100 = .ok (.ifCond .eq 6, 3) := by decide +kernel
theorem d_M_kept_103 : decode b_M_kept 103 = .ok (.iinc 2 1, 3) := by decide +kernel
theorem d_M_kept_106 : decode b_M_kept 106 = .ok (.iinc 4 1, 3) := by decide +kernel
theorem d_M_kept_109 : decode b_M_kept 109 = .ok (.goto (-84), 3) := by decide +kernel
theorem d_M_kept_112 : decode b_M_kept 112 = .ok (.iinc 3 1, 3) := by decide +kernel
theorem d_M_kept_115 : decode b_M_kept 115 = .ok (.goto (-101), 3) := by decide +kernel
theorem d_M_kept_118 : decode b_M_kept 118 = .ok (.iload_n 2, 1) := by decide +kernel
theorem d_M_kept_119 : decode b_M_kept 119 = .ok (.ireturn, 1) := by decide +kernel
theorem d_M_state_0 : decode b_M_state 0 = .ok (.iload_n 1, 1) := by decide +kernel
theorem d_M_state_1 : decode b_M_state 1 = .ok (.ifCond .lt 20, 3) := by decide +kernel
theorem d_M_state_4 : decode b_M_state 4 = .ok (.iload_n 1, 1) := by decide +kernel
theorem d_M_state_5 : decode b_M_state 5 = .ok (.aload_n 0, 1) := by decide +kernel
theorem d_M_state_6 : decode b_M_state 6 = .ok (.getfield 47, 3) := by decide +kernel
theorem d_M_state_9 : decode b_M_state 9 = .ok (.if_icmp .ge 12, 3) := by decide +kernel
theorem d_M_state_12 : decode b_M_state 12 = .ok (.aload_n 0, 1) := by decide +kernel
theorem d_M_state_13 : decode b_M_state 13 = .ok (.getfield 7, 3) := by decide +kernel
theorem d_M_state_16 : decode b_M_state 16 = .ok (.iload_n 1, 1) := by decide +kernel
theorem d_M_state_17 : decode b_M_state 17 = .ok (.iaload, 1) := by decide +kernel
theorem d_M_state_18 : decode b_M_state 18 = .ok (.goto 4, 3) := by decide +kernel
theorem d_M_state_21 : decode b_M_state 21 = .ok (.iconst (-1), 1) := by decide +kernel
theorem d_M_state_22 : decode b_M_state 22 = .ok (.ireturn, 1) := by decide +kernel
