theorem dX9_cries_61 : decode cX9_cries 61 = .ok (.iload 4, 2) := by decide +kernel
theorem dX9_cries_63 : decode cX9_cries 63 = .ok (.invokevirtual 250, 3) := by decide +kernel
theorem dX9_cries_66 : decode cX9_cries 66 = .ok (.aload_n 0, 1) := by decide +kernel
theorem dX9_cries_67 : decode cX9_cries 67 = .ok (.getfield 34, 3) := by decide +kernel
theorem dX9_cries_70 : decode cX9_cries 70 = .ok (.iload_n 2, 1) := by decide +kernel
theorem dX9_cries_71 : decode cX9_cries 71 = .ok (.iaload, 1) := by decide +kernel
theorem dX9_cries_72 : decode cX9_cries 72 = .ok (.iload_n 3, 1) := by decide +kernel
theorem dX9_cries_73 : decode cX9_cries 73 = .ok (.if_icmp .lt 6, 3) := by decide +kernel
theorem dX9_cries_76 : decode cX9_cries 76 = .ok (.iload 4, 2) := by decide +kernel
theorem dX9_cries_78 : decode cX9_cries 78 = .ok (.ireturn, 1) := by decide +kernel
theorem dX9_cries_79 : decode cX9_cries 79 = .ok (.iinc 4 1, 3) := by decide +kernel
theorem dX9_cries_82 : decode cX9_cries 82 = .ok (.goto (-33), 3) := by decide +kernel
theorem dX9_cries_85 : decode cX9_cries 85 = .ok (.bipush (-2), 2) := by decide +kernel
theorem dX9_cries_87 : decode cX9_cries 87 = .ok (.ireturn, 1) := by decide +kernel
theorem dX9_asleep_0 : decode cX9_asleep 0 = .ok (.aload_n 0, 1) := by decide +kernel
theorem dX9_asleep_1 : decode cX9_asleep 1 = .ok (.iload_n 1, 1) := by decide +kernel
theorem dX9_asleep_2 : decode cX9_asleep 2 = .ok (.invokevirtual 245, 3) := by decide +kernel
theorem dX9_asleep_5 : decode cX9_asleep 5 = .ok (.ifCond .ge 9, 3) := by decide +kernel
theorem dX9_asleep_8 : decode cX9_asleep 8 = .ok (.aload_n 0, 1) := by decide +kernel
theorem dX9_asleep_9 : decode cX9_asleep 9 = .ok (.iload_n 1, 1) := by decide +kernel
theorem dX9_asleep_10 : decode cX9_asleep 10 = .ok (.invokevirtual 245, 3) := by decide +kernel
theorem dX9_asleep_13 : decode cX9_asleep 13 = .ok (.ireturn, 1) := by decide +kernel
theorem dX9_asleep_14 : decode cX9_asleep 14 = .ok (.iconst 0, 1) := by decide +kernel
theorem dX9_asleep_15 : decode cX9_asleep 15 = .ok (.istore_n 2, 1) := by decide +kernel
theorem dX9_asleep_16 : decode cX9_asleep 16 = .ok (.iload_n 2, 1) := by decide +kernel
theorem dX9_asleep_17 : decode cX9_asleep 17 = .ok (.aload_n 0, 1) := by decide +kernel
theorem dX9_asleep_18 : decode cX9_asleep 18 = .ok (.iload_n 1, 1) := by decide +kernel
theorem dX9_asleep_19 : decode cX9_asleep 19 = .ok (.invokevirtual 239, 3) := by decide +kernel
theorem dX9_asleep_22 : decode cX9_asleep 22 = .ok (.if_icmp .gt 24, 3) := by decide +kernel
theorem dX9_asleep_25 : decode cX9_asleep 25 = .ok (.aload_n 0, 1) := by decide +kernel
theorem dX9_asleep_26 : decode cX9_asleep 26 = .ok (.iload_n 1, 1) := by decide +kernel
theorem dX9_asleep_27 : decode cX9_asleep 27 = .ok (.iload_n 2, 1) := by decide +kernel
theorem dX9_asleep_28 : decode cX9_asleep 28 = .ok (.invokevirtual 250, 3) := by decide +kernel
theorem dX9_asleep_31 : decode cX9_asleep 31 = .ok (.aload_n 0, 1) := by decide +kernel
theorem dX9_asleep_32 : decode cX9_asleep 32 = .ok (.invokevirtual 226, 3) := by decide +kernel
theorem dX9_asleep_35 : decode cX9_asleep 35 = .ok (.ifCond .ne 5, 3) := by decide +kernel
theorem dX9_asleep_38 : decode cX9_asleep 38 = .ok (.iload_n 2, 1) := by decide +kernel
theorem dX9_asleep_39 : decode cX9_asleep 39 = .ok (.ireturn, 1) := by decide +kernel
theorem dX9_asleep_40 : decode cX9_asleep 40 = .ok (.iinc 2 1, 3) := by decide +kernel
theorem dX9_asleep_43 : decode cX9_asleep 43 = .ok (.goto (-27), 3) := by decide +kernel
theorem dX9_asleep_46 : decode cX9_asleep 46 = .ok (.bipush (-2), 2) := by decide +kernel
theorem dX9_asleep_48 : decode cX9_asleep 48 = .ok (.ireturn, 1) := by decide +kernel
theorem dX9_triesRound_0 : decode cX9_triesRound 0 = .ok (.iload_n 1, 1) := by decide +kernel
theorem dX9_triesRound_1 : decode cX9_triesRound 1 = .ok (.iload_n 2, 1) := by decide +kernel
theorem dX9_triesRound_2 : decode cX9_triesRound 2 = .ok (.if_icmp .ne 109, 3) := by decide +kernel
theorem dX9_triesRound_5 : decode cX9_triesRound 5 = .ok (.aload_n 0, 1) := by decide +kernel
theorem dX9_triesRound_6 : decode cX9_triesRound 6 = .ok (.invokevirtual 233, 3) := by decide +kernel
theorem dX9_triesRound_9 : decode cX9_triesRound 9 = .ok (.iconst 0, 1) := by decide +kernel
theorem dX9_triesRound_10 : decode cX9_triesRound 10 = .ok (.istore_n 3, 1) := by decide +kernel
theorem dX9_triesRound_11 : decode cX9_triesRound 11 = .ok (.iload_n 3, 1) := by decide +kernel
theorem dX9_triesRound_12 : decode cX9_triesRound 12 = .ok (.iload_n 2, 1) := by decide +kernel
theorem dX9_triesRound_13 : decode cX9_triesRound 13 = .ok (.if_icmp .ge 23, 3) := by decide +kernel
theorem dX9_triesRound_16 : decode cX9_triesRound 16 = .ok (.aload_n 0, 1) := by decide +kernel
theorem dX9_triesRound_17 : decode cX9_triesRound 17 = .ok (.aload_n 0, 1) := by decide +kernel
theorem dX9_triesRound_18 : decode cX9_triesRound 18 = .ok (.getfield 43, 3) := by decide +kernel
theorem dX9_triesRound_21 : decode cX9_triesRound 21 = .ok (.iload_n 3, 1) := by decide +kernel
theorem dX9_triesRound_22 : decode cX9_triesRound 22 = .ok (.iaload, 1) := by decide +kernel
theorem dX9_triesRound_23 : decode cX9_triesRound 23 = .ok (.putfield 204, 3) := by decide +kernel
theorem dX9_triesRound_26 : decode cX9_triesRound 26 = .ok (.aload_n 0, 1) := by decide +kernel
theorem dX9_triesRound_27 : decode cX9_triesRound 27 = .ok (.invokevirtual 236, 3) := by decide +kernel
theorem dX9_triesRound_30 : decode cX9_triesRound 30 = .ok (.iinc 3 1, 3) := by decide +kernel
theorem dX9_triesRound_33 : decode cX9_triesRound 33 = .ok (.goto (-22), 3) := by decide +kernel
theorem dX9_triesRound_36 : decode cX9_triesRound 36 = .ok (.aload_n 0, 1) := by decide +kernel
theorem dX9_triesRound_37 : decode cX9_triesRound 37 = .ok (.invokevirtual 256, 3) := by decide +kernel
theorem dX9_triesRound_40 : decode cX9_triesRound 40 = .ok (.aload_n 0, 1) := by decide +kernel
theorem dX9_triesRound_41 : decode cX9_triesRound 41 = .ok (.getfield 259, 3) := by decide +kernel
theorem dX9_triesRound_44 : decode cX9_triesRound 44 = .ok (.if_icmp .lt 25, 3) := by decide +kernel
theorem dX9_triesRound_47 : decode cX9_triesRound 47 = .ok (.aload_n 0, 1) := by decide +kernel
theorem dX9_triesRound_48 : decode cX9_triesRound 48 = .ok (.invokevirtual 256, 3) := by decide +kernel
theorem dX9_triesRound_51 : decode cX9_triesRound 51 = .ok (.aload_n 0, 1) := by decide +kernel
theorem dX9_triesRound_52 : decode cX9_triesRound 52 = .ok (.getfield 259, 3) := by decide +kernel
theorem dX9_triesRound_55 : decode cX9_triesRound 55 = .ok (.if_icmp .ne 55, 3) := by decide +kernel
theorem dX9_triesRound_58 : decode cX9_triesRound 58 = .ok (.aload_n 0, 1) := by decide +kernel
theorem dX9_triesRound_59 : decode cX9_triesRound 59 = .ok (.invokevirtual 253, 3) := by decide +kernel
theorem dX9_triesRound_62 : decode cX9_triesRound 62 = .ok (.aload_n 0, 1) := by decide +kernel
theorem dX9_triesRound_63 : decode cX9_triesRound 63 = .ok (.getfield 262, 3) := by decide +kernel
theorem dX9_triesRound_66 : decode cX9_triesRound 66 = .ok (.if_icmp .ge 44, 3) := by decide +kernel
theorem dX9_triesRound_69 : decode cX9_triesRound 69 = .ok (.aload_n 0, 1) := by decide +kernel
theorem dX9_triesRound_70 : decode cX9_triesRound 70 = .ok (.aload_n 0, 1) := by decide +kernel
theorem dX9_triesRound_71 : decode cX9_triesRound 71 = .ok (.invokevirtual 256, 3) := by decide +kernel
theorem dX9_triesRound_74 : decode cX9_triesRound 74 = .ok (.putfield 259, 3) := by decide +kernel
theorem dX9_triesRound_77 : decode cX9_triesRound 77 = .ok (.aload_n 0, 1) := by decide +kernel
theorem dX9_triesRound_78 : decode cX9_triesRound 78 = .ok (.aload_n 0, 1) := by decide +kernel
theorem dX9_triesRound_79 : decode cX9_triesRound 79 = .ok (.invokevirtual 253, 3) := by decide +kernel
theorem dX9_triesRound_82 : decode cX9_triesRound 82 = .ok (.putfield 262, 3) := by decide +kernel
theorem dX9_triesRound_85 : decode cX9_triesRound 85 = .ok (.iconst 0, 1) := by decide +kernel
theorem dX9_triesRound_86 : decode cX9_triesRound 86 = .ok (.istore_n 3, 1) := by decide +kernel
theorem dX9_triesRound_87 : decode cX9_triesRound 87 = .ok (.iload_n 3, 1) := by decide +kernel
theorem dX9_triesRound_88 : decode cX9_triesRound 88 = .ok (.iload_n 2, 1) := by decide +kernel
theorem dX9_triesRound_89 : decode cX9_triesRound 89 = .ok (.if_icmp .ge 21, 3) := by decide +kernel
theorem dX9_triesRound_92 : decode cX9_triesRound 92 = .ok (.aload_n 0, 1) := by decide +kernel
theorem dX9_triesRound_93 : decode cX9_triesRound 93 = .ok (.getfield 46, 3) := by decide +kernel
theorem dX9_triesRound_96 : decode cX9_triesRound 96 = .ok (.iload_n 3, 1) := by decide +kernel
theorem dX9_triesRound_97 : decode cX9_triesRound 97 = .ok (.aload_n 0, 1) := by decide +kernel
theorem dX9_triesRound_98 : decode cX9_triesRound 98 = .ok (.getfield 43, 3) := by decide +kernel
theorem dX9_triesRound_101 : decode cX9_triesRound 101 = .ok (.iload_n 3, 1) := by decide +kernel
theorem dX9_triesRound_102 : decode cX9_triesRound 102 = .ok (.iaload, 1) := by decide +kernel
theorem dX9_triesRound_103 : decode cX9_triesRound 103 = .ok (.iastore, 1) := by decide +kernel
theorem dX9_triesRound_104 : decode cX9_triesRound 104 = .ok (.iinc 3 1, 3) := by decide +kernel
theorem dX9_triesRound_107 : decode cX9_triesRound 107 = .ok (.goto (-20), 3) := by decide +kernel
theorem dX9_triesRound_110 : decode cX9_triesRound 110 = .ok (.return_, 1) := by decide +kernel
theorem dX9_triesRound_111 : decode cX9_triesRound 111 = .ok (.iconst 0, 1) := by decide +kernel
theorem dX9_triesRound_112 : decode cX9_triesRound 112 = .ok (.istore_n 3, 1) := by decide +kernel
theorem dX9_triesRound_113 : decode cX9_triesRound 113 = .ok (.iload_n 3, 1) := by decide +kernel
theorem dX9_triesRound_114 : decode cX9_triesRound 114 = .ok (.bipush 12, 2) := by decide +kernel
theorem dX9_triesRound_116 : decode cX9_triesRound 116 = .ok (.if_icmp .ge 24, 3) := by decide +kernel
theorem dX9_triesRound_119 : decode cX9_triesRound 119 = .ok (.aload_n 0, 1) := by decide +kernel
theorem dX9_triesRound_120 : decode cX9_triesRound 120 = .ok (.getfield 43, 3) := by decide +kernel
theorem dX9_triesRound_123 : decode cX9_triesRound 123 = .ok (.iload_n 1, 1) := by decide +kernel
theorem dX9_triesRound_124 : decode cX9_triesRound 124 = .ok (.iload_n 3, 1) := by decide +kernel
theorem dX9_triesRound_125 : decode cX9_triesRound 125 = .ok (.iastore, 1) := by decide +kernel
theorem dX9_triesRound_126 : decode cX9_triesRound 126 = .ok (.aload_n 0, 1) := by decide +kernel
theorem dX9_triesRound_127 : decode cX9_triesRound 127 = .ok (.iload_n 1, 1) := by decide +kernel
theorem dX9_triesRound_128 : decode cX9_triesRound 128 = .ok (.iconst 1, 1) := by decide +kernel
theorem dX9_triesRound_129 : decode cX9_triesRound 129 = .ok (.iadd, 1) := by decide +kernel
theorem dX9_triesRound_130 : decode cX9_triesRound 130 = .ok (.iload_n 2, 1) := by decide +kernel
theorem dX9_triesRound_131 : decode cX9_triesRound 131 = .ok (.invokevirtual 265, 3) := by decide +kernel
theorem dX9_triesRound_134 : decode cX9_triesRound 134 = .ok (.iinc 3 1, 3) := by decide +kernel
theorem dX9_triesRound_137 : decode cX9_triesRound 137 = .ok (.goto (-24), 3) := by decide +kernel
theorem dX9_triesRound_140 : decode cX9_triesRound 140 = .ok (.return_, 1) := by decide +kernel
theorem dX9_bestRound_0 : decode cX9_bestRound 0 = .ok (.iload_n 1, 1) := by decide +kernel
theorem dX9_bestRound_1 : decode cX9_bestRound 1 = .ok (.i2l, 1) := by decide +kernel
theorem dX9_bestRound_2 : decode cX9_bestRound 2 = .ok (.lconst 0, 1) := by decide +kernel
theorem dX9_bestRound_3 : decode cX9_bestRound 3 = .ok (.ldc2_w 268, 3) := by decide +kernel
theorem dX9_bestRound_6 : decode cX9_bestRound 6 = .ok (.invokestatic 98, 3) := by decide +kernel
theorem dX9_bestRound_9 : decode cX9_bestRound 9 = .ok (.ifCond .eq 18, 3) := by decide +kernel
theorem dX9_bestRound_12 : decode cX9_bestRound 12 = .ok (.iload_n 2, 1) := by decide +kernel
theorem dX9_bestRound_13 : decode cX9_bestRound 13 = .ok (.i2l, 1) := by decide +kernel
theorem dX9_bestRound_14 : decode cX9_bestRound 14 = .ok (.ldc2_w 270, 3) := by decide +kernel
theorem dX9_bestRound_17 : decode cX9_bestRound 17 = .ok (.iload_n 1, 1) := by decide +kernel
theorem dX9_bestRound_18 : decode cX9_bestRound 18 = .ok (.iconst 1, 1) := by decide +kernel
theorem dX9_bestRound_19 : decode cX9_bestRound 19 = .ok (.isub, 1) := by decide +kernel
theorem dX9_bestRound_20 : decode cX9_bestRound 20 = .ok (.i2l, 1) := by decide +kernel
theorem dX9_bestRound_21 : decode cX9_bestRound 21 = .ok (.invokestatic 98, 3) := by decide +kernel
theorem dX9_bestRound_24 : decode cX9_bestRound 24 = .ok (.ifCond .ne 5, 3) := by decide +kernel
theorem dX9_bestRound_27 : decode cX9_bestRound 27 = .ok (.iconst (-1), 1) := by decide +kernel
theorem dX9_bestRound_28 : decode cX9_bestRound 28 = .ok (.ireturn, 1) := by decide +kernel
theorem dX9_bestRound_29 : decode cX9_bestRound 29 = .ok (.aload_n 0, 1) := by decide +kernel
theorem dX9_bestRound_30 : decode cX9_bestRound 30 = .ok (.ldc_w 272, 3) := by decide +kernel
theorem dX9_bestRound_33 : decode cX9_bestRound 33 = .ok (.putfield 259, 3) := by decide +kernel
theorem dX9_bestRound_36 : decode cX9_bestRound 36 = .ok (.aload_n 0, 1) := by decide +kernel
theorem dX9_bestRound_37 : decode cX9_bestRound 37 = .ok (.ldc_w 272, 3) := by decide +kernel
theorem dX9_bestRound_40 : decode cX9_bestRound 40 = .ok (.putfield 262, 3) := by decide +kernel
theorem dX9_bestRound_43 : decode cX9_bestRound 43 = .ok (.aload_n 0, 1) := by decide +kernel
theorem dX9_bestRound_44 : decode cX9_bestRound 44 = .ok (.iconst 0, 1) := by decide +kernel
theorem dX9_bestRound_45 : decode cX9_bestRound 45 = .ok (.iload_n 1, 1) := by decide +kernel
theorem dX9_bestRound_46 : decode cX9_bestRound 46 = .ok (.invokevirtual 265, 3) := by decide +kernel
theorem dX9_bestRound_49 : decode cX9_bestRound 49 = .ok (.iload_n 2, 1) := by decide +kernel
theorem dX9_bestRound_50 : decode cX9_bestRound 50 = .ok (.iconst (-1), 1) := by decide +kernel
theorem dX9_bestRound_51 : decode cX9_bestRound 51 = .ok (.if_icmp .ne 10, 3) := by decide +kernel
theorem dX9_bestRound_54 : decode cX9_bestRound 54 = .ok (.aload_n 0, 1) := by decide +kernel
theorem dX9_bestRound_55 : decode cX9_bestRound 55 = .ok (.getfield 259, 3) := by decide +kernel
theorem dX9_bestRound_58 : decode cX9_bestRound 58 = .ok (.goto 22, 3) := by decide +kernel
theorem dX9_bestRound_61 : decode cX9_bestRound 61 = .ok (.iload_n 2, 1) := by decide +kernel
theorem dX9_bestRound_62 : decode cX9_bestRound 62 = .ok (.bipush (-2), 2) := by decide +kernel
theorem dX9_bestRound_64 : decode cX9_bestRound 64 = .ok (.if_icmp .ne 10, 3) := by decide +kernel
theorem dX9_bestRound_67 : decode cX9_bestRound 67 = .ok (.aload_n 0, 1) := by decide +kernel
theorem dX9_bestRound_68 : decode cX9_bestRound 68 = .ok (.getfield 262, 3) := by decide +kernel
theorem dX9_bestRound_71 : decode cX9_bestRound 71 = .ok (.goto 9, 3) := by decide +kernel
theorem dX9_bestRound_74 : decode cX9_bestRound 74 = .ok (.aload_n 0, 1) := by decide +kernel
theorem dX9_bestRound_75 : decode cX9_bestRound 75 = .ok (.getfield 46, 3) := by decide +kernel
theorem dX9_bestRound_78 : decode cX9_bestRound 78 = .ok (.iload_n 2, 1) := by decide +kernel
theorem dX9_bestRound_79 : decode cX9_bestRound 79 = .ok (.iaload, 1) := by decide +kernel
theorem dX9_bestRound_80 : decode cX9_bestRound 80 = .ok (.ireturn, 1) := by decide +kernel
theorem dX9_told_0 : decode cX9_told 0 = .ok (.iload_n 1, 1) := by decide +kernel
theorem dX9_told_1 : decode cX9_told 1 = .ok (.i2l, 1) := by decide +kernel
theorem dX9_told_2 : decode cX9_told 2 = .ok (.lconst 0, 1) := by decide +kernel
theorem dX9_told_3 : decode cX9_told 3 = .ok (.lconst 1, 1) := by decide +kernel
theorem dX9_told_4 : decode cX9_told 4 = .ok (.invokestatic 98, 3) := by decide +kernel
theorem dX9_told_7 : decode cX9_told 7 = .ok (.ifCond .ne 5, 3) := by decide +kernel
theorem dX9_told_10 : decode cX9_told 10 = .ok (.iconst (-1), 1) := by decide +kernel
theorem dX9_told_11 : decode cX9_told 11 = .ok (.ireturn, 1) := by decide +kernel
theorem dX9_told_12 : decode cX9_told 12 = .ok (.aload_n 0, 1) := by decide +kernel
theorem dX9_told_13 : decode cX9_told 13 = .ok (.invokevirtual 233, 3) := by decide +kernel
theorem dX9_told_16 : decode cX9_told 16 = .ok (.iconst 0, 1) := by decide +kernel
theorem dX9_told_17 : decode cX9_told 17 = .ok (.istore_n 2, 1) := by decide +kernel
theorem dX9_told_18 : decode cX9_told 18 = .ok (.iconst 0, 1) := by decide +kernel
theorem dX9_told_19 : decode cX9_told 19 = .ok (.istore_n 3, 1) := by decide +kernel
theorem dX9_told_20 : decode cX9_told 20 = .ok (.iload_n 3, 1) := by decide +kernel
theorem dX9_told_21 : decode cX9_told 21 = .ok (.bipush 12, 2) := by decide +kernel
theorem dX9_told_23 : decode cX9_told 23 = .ok (.if_icmp .ge 41, 3) := by decide +kernel
theorem dX9_told_26 : decode cX9_told 26 = .ok (.aload_n 0, 1) := by decide +kernel
theorem dX9_told_27 : decode cX9_told 27 = .ok (.getfield 31, 3) := by decide +kernel
theorem dX9_told_30 : decode cX9_told 30 = .ok (.iload_n 3, 1) := by decide +kernel
theorem dX9_told_31 : decode cX9_told 31 = .ok (.iaload, 1) := by decide +kernel
theorem dX9_told_32 : decode cX9_told 32 = .ok (.ifCond .lt 26, 3) := by decide +kernel
theorem dX9_told_35 : decode cX9_told 35 = .ok (.aload_n 0, 1) := by decide +kernel
theorem dX9_told_36 : decode cX9_told 36 = .ok (.aload_n 0, 1) := by decide +kernel
theorem dX9_told_37 : decode cX9_told 37 = .ok (.getfield 31, 3) := by decide +kernel
theorem dX9_told_40 : decode cX9_told 40 = .ok (.iload_n 3, 1) := by decide +kernel
theorem dX9_told_41 : decode cX9_told 41 = .ok (.iaload, 1) := by decide +kernel
theorem dX9_told_42 : decode cX9_told 42 = .ok (.invokevirtual 214, 3) := by decide +kernel
theorem dX9_told_45 : decode cX9_told 45 = .ok (.ifCond .eq 13, 3) := by decide +kernel
theorem dX9_told_48 : decode cX9_told 48 = .ok (.aload_n 0, 1) := by decide +kernel
theorem dX9_told_49 : decode cX9_told 49 = .ok (.iload_n 3, 1) := by decide +kernel
theorem dX9_told_50 : decode cX9_told 50 = .ok (.bipush 9, 2) := by decide +kernel
theorem dX9_told_52 : decode cX9_told 52 = .ok (.invokevirtual 273, 3) := by decide +kernel
theorem dX9_told_55 : decode cX9_told 55 = .ok (.iinc 2 1, 3) := by decide +kernel
theorem dX9_told_58 : decode cX9_told 58 = .ok (.iinc 3 1, 3) := by decide +kernel
theorem dX9_told_61 : decode cX9_told 61 = .ok (.goto (-41), 3) := by decide +kernel
theorem dX9_told_64 : decode cX9_told 64 = .ok (.aload_n 0, 1) := by decide +kernel
theorem dX9_told_65 : decode cX9_told 65 = .ok (.invokevirtual 226, 3) := by decide +kernel
theorem dX9_told_68 : decode cX9_told 68 = .ok (.ifCond .eq 8, 3) := by decide +kernel
theorem dX9_told_71 : decode cX9_told 71 = .ok (.bipush (-2), 2) := by decide +kernel
theorem dX9_told_73 : decode cX9_told 73 = .ok (.goto 15, 3) := by decide +kernel
theorem dX9_told_76 : decode cX9_told 76 = .ok (.iload_n 1, 1) := by decide +kernel
theorem dX9_told_77 : decode cX9_told 77 = .ok (.ifCond .ne 7, 3) := by decide +kernel
theorem dX9_told_80 : decode cX9_told 80 = .ok (.iload_n 2, 1) := by decide +kernel
theorem dX9_told_81 : decode cX9_told 81 = .ok (.goto 7, 3) := by decide +kernel
theorem dX9_told_84 : decode cX9_told 84 = .ok (.aload_n 0, 1) := by decide +kernel
theorem dX9_told_85 : decode cX9_told 85 = .ok (.invokevirtual 253, 3) := by decide +kernel
theorem dX9_told_88 : decode cX9_told 88 = .ok (.ireturn, 1) := by decide +kernel
theorem dX9_woken_0 : decode cX9_woken 0 = .ok (.iload_n 1, 1) := by decide +kernel
theorem dX9_woken_1 : decode cX9_woken 1 = .ok (.i2l, 1) := by decide +kernel
theorem dX9_woken_2 : decode cX9_woken 2 = .ok (.invokestatic 104, 3) := by decide +kernel
theorem dX9_woken_5 : decode cX9_woken 5 = .ok (.ifCond .eq 13, 3) := by decide +kernel
theorem dX9_woken_8 : decode cX9_woken 8 = .ok (.iload_n 2, 1) := by decide +kernel
theorem dX9_woken_9 : decode cX9_woken 9 = .ok (.i2l, 1) := by decide +kernel
theorem dX9_woken_10 : decode cX9_woken 10 = .ok (.lconst 0, 1) := by decide +kernel
theorem dX9_woken_11 : decode cX9_woken 11 = .ok (.lconst 1, 1) := by decide +kernel
theorem dX9_woken_12 : decode cX9_woken 12 = .ok (.invokestatic 98, 3) := by decide +kernel
theorem dX9_woken_15 : decode cX9_woken 15 = .ok (.ifCond .ne 5, 3) := by decide +kernel
theorem dX9_woken_18 : decode cX9_woken 18 = .ok (.iconst (-1), 1) := by decide +kernel
theorem dX9_woken_19 : decode cX9_woken 19 = .ok (.ireturn, 1) := by decide +kernel
theorem dX9_woken_20 : decode cX9_woken 20 = .ok (.aload_n 0, 1) := by decide +kernel
theorem dX9_woken_21 : decode cX9_woken 21 = .ok (.invokevirtual 233, 3) := by decide +kernel
theorem dX9_woken_24 : decode cX9_woken 24 = .ok (.aload_n 0, 1) := by decide +kernel
theorem dX9_woken_25 : decode cX9_woken 25 = .ok (.invokevirtual 226, 3) := by decide +kernel
theorem dX9_woken_28 : decode cX9_woken 28 = .ok (.istore_n 3, 1) := by decide +kernel
theorem dX9_woken_29 : decode cX9_woken 29 = .ok (.aload_n 0, 1) := by decide +kernel
theorem dX9_woken_30 : decode cX9_woken 30 = .ok (.iload_n 1, 1) := by decide +kernel
theorem dX9_woken_31 : decode cX9_woken 31 = .ok (.invokevirtual 276, 3) := by decide +kernel
theorem dX9_woken_34 : decode cX9_woken 34 = .ok (.iload_n 2, 1) := by decide +kernel
theorem dX9_woken_35 : decode cX9_woken 35 = .ok (.ifCond .ne 14, 3) := by decide +kernel
theorem dX9_woken_38 : decode cX9_woken 38 = .ok (.aload_n 0, 1) := by decide +kernel
theorem dX9_woken_39 : decode cX9_woken 39 = .ok (.invokevirtual 226, 3) := by decide +kernel
theorem dX9_woken_42 : decode cX9_woken 42 = .ok (.iload_n 3, 1) := by decide +kernel
theorem dX9_woken_43 : decode cX9_woken 43 = .ok (.iconst (-1), 1) := by decide +kernel
theorem dX9_woken_44 : decode cX9_woken 44 = .ok (.ixor, 1) := by decide +kernel
theorem dX9_woken_45 : decode cX9_woken 45 = .ok (.iand, 1) := by decide +kernel
theorem dX9_woken_46 : decode cX9_woken 46 = .ok (.goto 7, 3) := by decide +kernel
theorem dX9_woken_49 : decode cX9_woken 49 = .ok (.aload_n 0, 1) := by decide +kernel
theorem dX9_woken_50 : decode cX9_woken 50 = .ok (.invokevirtual 280, 3) := by decide +kernel
theorem dX9_woken_53 : decode cX9_woken 53 = .ok (.ireturn, 1) := by decide +kernel
theorem dX9_stepsTo_0 : decode cX9_stepsTo 0 = .ok (.iload_n 0, 1) := by decide +kernel
theorem dX9_stepsTo_1 : decode cX9_stepsTo 1 = .ok (.bipush 6, 2) := by decide +kernel
theorem dX9_stepsTo_3 : decode cX9_stepsTo 3 = .ok (.irem, 1) := by decide +kernel
theorem dX9_stepsTo_4 : decode cX9_stepsTo 4 = .ok (.iload_n 1, 1) := by decide +kernel
theorem dX9_stepsTo_5 : decode cX9_stepsTo 5 = .ok (.bipush 6, 2) := by decide +kernel
theorem dX9_stepsTo_7 : decode cX9_stepsTo 7 = .ok (.irem, 1) := by decide +kernel
theorem dX9_stepsTo_8 : decode cX9_stepsTo 8 = .ok (.isub, 1) := by decide +kernel
theorem dX9_stepsTo_9 : decode cX9_stepsTo 9 = .ok (.invokestatic 207, 3) := by decide +kernel
theorem dX9_stepsTo_12 : decode cX9_stepsTo 12 = .ok (.iload_n 0, 1) := by decide +kernel
theorem dX9_stepsTo_13 : decode cX9_stepsTo 13 = .ok (.bipush 6, 2) := by decide +kernel
theorem dX9_stepsTo_15 : decode cX9_stepsTo 15 = .ok (.idiv, 1) := by decide +kernel
theorem dX9_stepsTo_16 : decode cX9_stepsTo 16 = .ok (.iload_n 1, 1) := by decide +kernel
theorem dX9_stepsTo_17 : decode cX9_stepsTo 17 = .ok (.bipush 6, 2) := by decide +kernel
theorem dX9_stepsTo_19 : decode cX9_stepsTo 19 = .ok (.idiv, 1) := by decide +kernel
theorem dX9_stepsTo_20 : decode cX9_stepsTo 20 = .ok (.if_icmp .ne 7, 3) := by decide +kernel
theorem dX9_stepsTo_23 : decode cX9_stepsTo 23 = .ok (.iconst 0, 1) := by decide +kernel
theorem dX9_stepsTo_24 : decode cX9_stepsTo 24 = .ok (.goto 4, 3) := by decide +kernel
theorem dX9_stepsTo_27 : decode cX9_stepsTo 27 = .ok (.iconst 1, 1) := by decide +kernel
theorem dX9_stepsTo_28 : decode cX9_stepsTo 28 = .ok (.iadd, 1) := by decide +kernel
theorem dX9_stepsTo_29 : decode cX9_stepsTo 29 = .ok (.ireturn, 1) := by decide +kernel
theorem dX9_stepsBy_0 : decode cX9_stepsBy 0 = .ok (.iload_n 2, 1) := by decide +kernel
theorem dX9_stepsBy_1 : decode cX9_stepsBy 1 = .ok (.ifCond .ne 5, 3) := by decide +kernel
theorem dX9_stepsBy_4 : decode cX9_stepsBy 4 = .ok (.iconst 0, 1) := by decide +kernel
theorem dX9_stepsBy_5 : decode cX9_stepsBy 5 = .ok (.ireturn, 1) := by decide +kernel
theorem dX9_stepsBy_6 : decode cX9_stepsBy 6 = .ok (.ldc_w 272, 3) := by decide +kernel
theorem dX9_stepsBy_9 : decode cX9_stepsBy 9 = .ok (.istore_n 3, 1) := by decide +kernel
theorem dX9_stepsBy_10 : decode cX9_stepsBy 10 = .ok (.iconst 0, 1) := by decide +kernel
theorem dX9_stepsBy_11 : decode cX9_stepsBy 11 = .ok (.istore 4, 2) := by decide +kernel
theorem dX9_stepsBy_13 : decode cX9_stepsBy 13 = .ok (.iload 4, 2) := by decide +kernel
theorem dX9_stepsBy_15 : decode cX9_stepsBy 15 = .ok (.bipush 12, 2) := by decide +kernel
theorem dX9_stepsBy_17 : decode cX9_stepsBy 17 = .ok (.if_icmp .ge 54, 3) := by decide +kernel
theorem dX9_stepsBy_20 : decode cX9_stepsBy 20 = .ok (.iload_n 2, 1) := by decide +kernel
theorem dX9_stepsBy_21 : decode cX9_stepsBy 21 = .ok (.iload 4, 2) := by decide +kernel
theorem dX9_stepsBy_23 : decode cX9_stepsBy 23 = .ok (.invokestatic 283, 3) := by decide +kernel
theorem dX9_stepsBy_26 : decode cX9_stepsBy 26 = .ok (.ifCond .eq 39, 3) := by decide +kernel
theorem dX9_stepsBy_29 : decode cX9_stepsBy 29 = .ok (.iload_n 1, 1) := by decide +kernel
theorem dX9_stepsBy_30 : decode cX9_stepsBy 30 = .ok (.iload 4, 2) := by decide +kernel
theorem dX9_stepsBy_32 : decode cX9_stepsBy 32 = .ok (.invokestatic 286, 3) := by decide +kernel
theorem dX9_stepsBy_35 : decode cX9_stepsBy 35 = .ok (.aload_n 0, 1) := by decide +kernel
theorem dX9_stepsBy_36 : decode cX9_stepsBy 36 = .ok (.iload 4, 2) := by decide +kernel
theorem dX9_stepsBy_38 : decode cX9_stepsBy 38 = .ok (.iload_n 2, 1) := by decide +kernel
theorem dX9_stepsBy_39 : decode cX9_stepsBy 39 = .ok (.iconst 1, 1) := by decide +kernel
theorem dX9_stepsBy_40 : decode cX9_stepsBy 40 = .ok (.iload 4, 2) := by decide +kernel
theorem dX9_stepsBy_42 : decode cX9_stepsBy 42 = .ok (.ishl, 1) := by decide +kernel
theorem dX9_stepsBy_43 : decode cX9_stepsBy 43 = .ok (.iconst (-1), 1) := by decide +kernel
theorem dX9_stepsBy_44 : decode cX9_stepsBy 44 = .ok (.ixor, 1) := by decide +kernel
theorem dX9_stepsBy_45 : decode cX9_stepsBy 45 = .ok (.iand, 1) := by decide +kernel
theorem dX9_stepsBy_46 : decode cX9_stepsBy 46 = .ok (.invokevirtual 289, 3) := by decide +kernel
theorem dX9_stepsBy_49 : decode cX9_stepsBy 49 = .ok (.iadd, 1) := by decide +kernel
theorem dX9_stepsBy_50 : decode cX9_stepsBy 50 = .ok (.istore 5, 2) := by decide +kernel
theorem dX9_stepsBy_52 : decode cX9_stepsBy 52 = .ok (.iload 5, 2) := by decide +kernel
theorem dX9_stepsBy_54 : decode cX9_stepsBy 54 = .ok (.iload_n 3, 1) := by decide +kernel
theorem dX9_stepsBy_55 : decode cX9_stepsBy 55 = .ok (.if_icmp .ge 8, 3) := by decide +kernel
theorem dX9_stepsBy_58 : decode cX9_stepsBy 58 = .ok (.iload 5, 2) := by decide +kernel
theorem dX9_stepsBy_60 : decode cX9_stepsBy 60 = .ok (.goto 4, 3) := by decide +kernel
theorem dX9_stepsBy_63 : decode cX9_stepsBy 63 = .ok (.iload_n 3, 1) := by decide +kernel
theorem dX9_stepsBy_64 : decode cX9_stepsBy 64 = .ok (.istore_n 3, 1) := by decide +kernel
theorem dX9_stepsBy_65 : decode cX9_stepsBy 65 = .ok (.iinc 4 1, 3) := by decide +kernel
theorem dX9_stepsBy_68 : decode cX9_stepsBy 68 = .ok (.goto (-55), 3) := by decide +kernel
theorem dX9_stepsBy_71 : decode cX9_stepsBy 71 = .ok (.iload_n 3, 1) := by decide +kernel
theorem dX9_stepsBy_72 : decode cX9_stepsBy 72 = .ok (.ireturn, 1) := by decide +kernel
theorem dX9_walk_0 : decode cX9_walk 0 = .ok (.iload_n 1, 1) := by decide +kernel
theorem dX9_walk_1 : decode cX9_walk 1 = .ok (.i2l, 1) := by decide +kernel
theorem dX9_walk_2 : decode cX9_walk 2 = .ok (.lconst 0, 1) := by decide +kernel
theorem dX9_walk_3 : decode cX9_walk 3 = .ok (.ldc2_w 292, 3) := by decide +kernel
theorem dX9_walk_6 : decode cX9_walk 6 = .ok (.invokestatic 98, 3) := by decide +kernel
theorem dX9_walk_9 : decode cX9_walk 9 = .ok (.ifCond .ne 5, 3) := by decide +kernel
theorem dX9_walk_12 : decode cX9_walk 12 = .ok (.iconst (-1), 1) := by decide +kernel
theorem dX9_walk_13 : decode cX9_walk 13 = .ok (.ireturn, 1) := by decide +kernel
theorem dX9_walk_14 : decode cX9_walk 14 = .ok (.aload_n 0, 1) := by decide +kernel
theorem dX9_walk_15 : decode cX9_walk 15 = .ok (.invokevirtual 233, 3) := by decide +kernel
theorem dX9_walk_18 : decode cX9_walk 18 = .ok (.iconst 0, 1) := by decide +kernel
theorem dX9_walk_19 : decode cX9_walk 19 = .ok (.istore_n 2, 1) := by decide +kernel
theorem dX9_walk_20 : decode cX9_walk 20 = .ok (.iconst (-1), 1) := by decide +kernel
theorem dX9_walk_21 : decode cX9_walk 21 = .ok (.istore_n 3, 1) := by decide +kernel
theorem dX9_walk_22 : decode cX9_walk 22 = .ok (.iconst 0, 1) := by decide +kernel
theorem dX9_walk_23 : decode cX9_walk 23 = .ok (.istore 4, 2) := by decide +kernel
theorem dX9_walk_25 : decode cX9_walk 25 = .ok (.iload 4, 2) := by decide +kernel
theorem dX9_walk_27 : decode cX9_walk 27 = .ok (.bipush 12, 2) := by decide +kernel
theorem dX9_walk_29 : decode cX9_walk 29 = .ok (.if_icmp .ge 71, 3) := by decide +kernel
theorem dX9_walk_32 : decode cX9_walk 32 = .ok (.aload_n 0, 1) := by decide +kernel
theorem dX9_walk_33 : decode cX9_walk 33 = .ok (.getfield 31, 3) := by decide +kernel
theorem dX9_walk_36 : decode cX9_walk 36 = .ok (.iload 4, 2) := by decide +kernel
theorem dX9_walk_38 : decode cX9_walk 38 = .ok (.iaload, 1) := by decide +kernel
theorem dX9_walk_39 : decode cX9_walk 39 = .ok (.ifCond .lt 55, 3) := by decide +kernel
theorem dX9_walk_42 : decode cX9_walk 42 = .ok (.aload_n 0, 1) := by decide +kernel
theorem dX9_walk_43 : decode cX9_walk 43 = .ok (.aload_n 0, 1) := by decide +kernel
theorem dX9_walk_44 : decode cX9_walk 44 = .ok (.getfield 31, 3) := by decide +kernel
theorem dX9_walk_47 : decode cX9_walk 47 = .ok (.iload 4, 2) := by decide +kernel
theorem dX9_walk_49 : decode cX9_walk 49 = .ok (.iaload, 1) := by decide +kernel
theorem dX9_walk_50 : decode cX9_walk 50 = .ok (.invokevirtual 214, 3) := by decide +kernel
theorem dX9_walk_53 : decode cX9_walk 53 = .ok (.ifCond .eq 41, 3) := by decide +kernel
theorem dX9_walk_56 : decode cX9_walk 56 = .ok (.iload_n 2, 1) := by decide +kernel
theorem dX9_walk_57 : decode cX9_walk 57 = .ok (.iconst 1, 1) := by decide +kernel
theorem dX9_walk_58 : decode cX9_walk 58 = .ok (.iload 4, 2) := by decide +kernel
theorem dX9_walk_60 : decode cX9_walk 60 = .ok (.ishl, 1) := by decide +kernel
theorem dX9_walk_61 : decode cX9_walk 61 = .ok (.ior, 1) := by decide +kernel
theorem dX9_walk_62 : decode cX9_walk 62 = .ok (.istore_n 2, 1) := by decide +kernel
theorem dX9_walk_63 : decode cX9_walk 63 = .ok (.iload_n 3, 1) := by decide +kernel
theorem dX9_walk_64 : decode cX9_walk 64 = .ok (.ifCond .lt 23, 3) := by decide +kernel
theorem dX9_walk_67 : decode cX9_walk 67 = .ok (.aload_n 0, 1) := by decide +kernel
theorem dX9_walk_68 : decode cX9_walk 68 = .ok (.getfield 204, 3) := by decide +kernel
theorem dX9_walk_71 : decode cX9_walk 71 = .ok (.iload 4, 2) := by decide +kernel
theorem dX9_walk_73 : decode cX9_walk 73 = .ok (.invokestatic 286, 3) := by decide +kernel
theorem dX9_walk_76 : decode cX9_walk 76 = .ok (.aload_n 0, 1) := by decide +kernel
theorem dX9_walk_77 : decode cX9_walk 77 = .ok (.getfield 204, 3) := by decide +kernel
theorem dX9_walk_80 : decode cX9_walk 80 = .ok (.iload_n 3, 1) := by decide +kernel
theorem dX9_walk_81 : decode cX9_walk 81 = .ok (.invokestatic 286, 3) := by decide +kernel
theorem dX9_walk_84 : decode cX9_walk 84 = .ok (.if_icmp .ge 8, 3) := by decide +kernel
theorem dX9_walk_87 : decode cX9_walk 87 = .ok (.iload 4, 2) := by decide +kernel
theorem dX9_walk_89 : decode cX9_walk 89 = .ok (.goto 4, 3) := by decide +kernel
theorem dX9_walk_92 : decode cX9_walk 92 = .ok (.iload_n 3, 1) := by decide +kernel
theorem dX9_walk_93 : decode cX9_walk 93 = .ok (.istore_n 3, 1) := by decide +kernel
theorem dX9_walk_94 : decode cX9_walk 94 = .ok (.iinc 4 1, 3) := by decide +kernel
theorem dX9_walk_97 : decode cX9_walk 97 = .ok (.goto (-72), 3) := by decide +kernel
theorem dX9_walk_100 : decode cX9_walk 100 = .ok (.iload_n 1, 1) := by decide +kernel
theorem dX9_walk_101 : decode cX9_walk 101 = .ok (.iconst 2, 1) := by decide +kernel
theorem dX9_walk_102 : decode cX9_walk 102 = .ok (.if_icmp .ne 27, 3) := by decide +kernel
theorem dX9_walk_105 : decode cX9_walk 105 = .ok (.iload_n 2, 1) := by decide +kernel
theorem dX9_walk_106 : decode cX9_walk 106 = .ok (.invokestatic 229, 3) := by decide +kernel
theorem dX9_walk_109 : decode cX9_walk 109 = .ok (.bipush 6, 2) := by decide +kernel
theorem dX9_walk_111 : decode cX9_walk 111 = .ok (.if_icmp .le 8, 3) := by decide +kernel
theorem dX9_walk_114 : decode cX9_walk 114 = .ok (.bipush (-5), 2) := by decide +kernel
theorem dX9_walk_116 : decode cX9_walk 116 = .ok (.goto 12, 3) := by decide +kernel
theorem dX9_walk_119 : decode cX9_walk 119 = .ok (.aload_n 0, 1) := by decide +kernel
theorem dX9_walk_120 : decode cX9_walk 120 = .ok (.aload_n 0, 1) := by decide +kernel
theorem dX9_walk_121 : decode cX9_walk 121 = .ok (.getfield 204, 3) := by decide +kernel
theorem dX9_walk_124 : decode cX9_walk 124 = .ok (.iload_n 2, 1) := by decide +kernel
theorem dX9_walk_125 : decode cX9_walk 125 = .ok (.invokevirtual 289, 3) := by decide +kernel
theorem dX9_walk_128 : decode cX9_walk 128 = .ok (.ireturn, 1) := by decide +kernel
theorem dX9_walk_129 : decode cX9_walk 129 = .ok (.iload_n 3, 1) := by decide +kernel
theorem dX9_walk_130 : decode cX9_walk 130 = .ok (.ifCond .ge 8, 3) := by decide +kernel
theorem dX9_walk_133 : decode cX9_walk 133 = .ok (.bipush (-2), 2) := by decide +kernel
theorem dX9_walk_135 : decode cX9_walk 135 = .ok (.goto 19, 3) := by decide +kernel
theorem dX9_walk_138 : decode cX9_walk 138 = .ok (.iload_n 1, 1) := by decide +kernel
theorem dX9_walk_139 : decode cX9_walk 139 = .ok (.ifCond .ne 14, 3) := by decide +kernel
theorem dX9_walk_142 : decode cX9_walk 142 = .ok (.aload_n 0, 1) := by decide +kernel
theorem dX9_walk_143 : decode cX9_walk 143 = .ok (.getfield 204, 3) := by decide +kernel
theorem dX9_walk_146 : decode cX9_walk 146 = .ok (.iload_n 3, 1) := by decide +kernel
theorem dX9_walk_147 : decode cX9_walk 147 = .ok (.invokestatic 286, 3) := by decide +kernel
theorem dX9_walk_150 : decode cX9_walk 150 = .ok (.goto 4, 3) := by decide +kernel
theorem dX9_walk_153 : decode cX9_walk 153 = .ok (.iload_n 3, 1) := by decide +kernel
theorem dX9_walk_154 : decode cX9_walk 154 = .ok (.ireturn, 1) := by decide +kernel
theorem dX9_rowsAre_0 : decode cX9_rowsAre 0 = .ok (.iload_n 1, 1) := by decide +kernel
theorem dX9_rowsAre_1 : decode cX9_rowsAre 1 = .ok (.ifCond .lt 23, 3) := by decide +kernel
theorem dX9_rowsAre_4 : decode cX9_rowsAre 4 = .ok (.iload_n 1, 1) := by decide +kernel
theorem dX9_rowsAre_5 : decode cX9_rowsAre 5 = .ok (.bipush 10, 2) := by decide +kernel
theorem dX9_rowsAre_7 : decode cX9_rowsAre 7 = .ok (.idiv, 1) := by decide +kernel
theorem dX9_rowsAre_8 : decode cX9_rowsAre 8 = .ok (.invokestatic 119, 3) := by decide +kernel
theorem dX9_rowsAre_11 : decode cX9_rowsAre 11 = .ok (.ifCond .eq 13, 3) := by decide +kernel
theorem dX9_rowsAre_14 : decode cX9_rowsAre 14 = .ok (.iload_n 1, 1) := by decide +kernel
theorem dX9_rowsAre_15 : decode cX9_rowsAre 15 = .ok (.bipush 10, 2) := by decide +kernel
theorem dX9_rowsAre_17 : decode cX9_rowsAre 17 = .ok (.irem, 1) := by decide +kernel
theorem dX9_rowsAre_18 : decode cX9_rowsAre 18 = .ok (.invokestatic 119, 3) := by decide +kernel
theorem dX9_rowsAre_21 : decode cX9_rowsAre 21 = .ok (.ifCond .ne 5, 3) := by decide +kernel
theorem dX9_rowsAre_24 : decode cX9_rowsAre 24 = .ok (.iconst (-1), 1) := by decide +kernel
theorem dX9_rowsAre_25 : decode cX9_rowsAre 25 = .ok (.ireturn, 1) := by decide +kernel
theorem dX9_rowsAre_26 : decode cX9_rowsAre 26 = .ok (.aload_n 0, 1) := by decide +kernel
theorem dX9_rowsAre_27 : decode cX9_rowsAre 27 = .ok (.iload_n 1, 1) := by decide +kernel
theorem dX9_rowsAre_28 : decode cX9_rowsAre 28 = .ok (.bipush 10, 2) := by decide +kernel
theorem dX9_rowsAre_30 : decode cX9_rowsAre 30 = .ok (.idiv, 1) := by decide +kernel
theorem dX9_rowsAre_31 : decode cX9_rowsAre 31 = .ok (.invokevirtual 245, 3) := by decide +kernel
theorem dX9_rowsAre_34 : decode cX9_rowsAre 34 = .ok (.ifCond .ge 14, 3) := by decide +kernel
theorem dX9_rowsAre_37 : decode cX9_rowsAre 37 = .ok (.aload_n 0, 1) := by decide +kernel
theorem dX9_rowsAre_38 : decode cX9_rowsAre 38 = .ok (.iload_n 1, 1) := by decide +kernel
theorem dX9_rowsAre_39 : decode cX9_rowsAre 39 = .ok (.bipush 10, 2) := by decide +kernel
theorem dX9_rowsAre_41 : decode cX9_rowsAre 41 = .ok (.idiv, 1) := by decide +kernel
theorem dX9_rowsAre_42 : decode cX9_rowsAre 42 = .ok (.invokevirtual 245, 3) := by decide +kernel
theorem dX9_rowsAre_45 : decode cX9_rowsAre 45 = .ok (.goto 11, 3) := by decide +kernel
theorem dX9_rowsAre_48 : decode cX9_rowsAre 48 = .ok (.aload_n 0, 1) := by decide +kernel
theorem dX9_rowsAre_49 : decode cX9_rowsAre 49 = .ok (.iload_n 1, 1) := by decide +kernel
theorem dX9_rowsAre_50 : decode cX9_rowsAre 50 = .ok (.bipush 10, 2) := by decide +kernel
theorem dX9_rowsAre_52 : decode cX9_rowsAre 52 = .ok (.irem, 1) := by decide +kernel
theorem dX9_rowsAre_53 : decode cX9_rowsAre 53 = .ok (.invokevirtual 245, 3) := by decide +kernel
theorem dX9_rowsAre_56 : decode cX9_rowsAre 56 = .ok (.ireturn, 1) := by decide +kernel
theorem dX9_firstFalse_0 : decode cX9_firstFalse 0 = .ok (.aload_n 0, 1) := by decide +kernel
theorem dX9_firstFalse_1 : decode cX9_firstFalse 1 = .ok (.invokevirtual 233, 3) := by decide +kernel
theorem dX9_firstFalse_4 : decode cX9_firstFalse 4 = .ok (.aload_n 0, 1) := by decide +kernel
theorem dX9_firstFalse_5 : decode cX9_firstFalse 5 = .ok (.iload_n 1, 1) := by decide +kernel
theorem dX9_firstFalse_6 : decode cX9_firstFalse 6 = .ok (.bipush 10, 2) := by decide +kernel
theorem dX9_firstFalse_8 : decode cX9_firstFalse 8 = .ok (.idiv, 1) := by decide +kernel
theorem dX9_firstFalse_9 : decode cX9_firstFalse 9 = .ok (.invokevirtual 239, 3) := by decide +kernel
theorem dX9_firstFalse_12 : decode cX9_firstFalse 12 = .ok (.istore_n 3, 1) := by decide +kernel
theorem dX9_firstFalse_13 : decode cX9_firstFalse 13 = .ok (.iconst 0, 1) := by decide +kernel
theorem dX9_firstFalse_14 : decode cX9_firstFalse 14 = .ok (.istore 4, 2) := by decide +kernel
theorem dX9_firstFalse_16 : decode cX9_firstFalse 16 = .ok (.iload 4, 2) := by decide +kernel
theorem dX9_firstFalse_18 : decode cX9_firstFalse 18 = .ok (.aload_n 0, 1) := by decide +kernel
theorem dX9_firstFalse_19 : decode cX9_firstFalse 19 = .ok (.getfield 67, 3) := by decide +kernel
theorem dX9_firstFalse_22 : decode cX9_firstFalse 22 = .ok (.iload_n 1, 1) := by decide +kernel
theorem dX9_firstFalse_23 : decode cX9_firstFalse 23 = .ok (.bipush 10, 2) := by decide +kernel
theorem dX9_firstFalse_25 : decode cX9_firstFalse 25 = .ok (.irem, 1) := by decide +kernel
theorem dX9_firstFalse_26 : decode cX9_firstFalse 26 = .ok (.iaload, 1) := by decide +kernel
theorem dX9_firstFalse_27 : decode cX9_firstFalse 27 = .ok (.if_icmp .ge 64, 3) := by decide +kernel
theorem dX9_firstFalse_30 : decode cX9_firstFalse 30 = .ok (.iload 4, 2) := by decide +kernel
theorem dX9_firstFalse_32 : decode cX9_firstFalse 32 = .ok (.iload_n 3, 1) := by decide +kernel
theorem dX9_firstFalse_33 : decode cX9_firstFalse 33 = .ok (.if_icmp .le 6, 3) := by decide +kernel
theorem dX9_firstFalse_36 : decode cX9_firstFalse 36 = .ok (.iload 4, 2) := by decide +kernel
theorem dX9_firstFalse_38 : decode cX9_firstFalse 38 = .ok (.ireturn, 1) := by decide +kernel
theorem dX9_firstFalse_39 : decode cX9_firstFalse 39 = .ok (.iload 4, 2) := by decide +kernel
theorem dX9_firstFalse_41 : decode cX9_firstFalse 41 = .ok (.ifCond .le 15, 3) := by decide +kernel
theorem dX9_firstFalse_44 : decode cX9_firstFalse 44 = .ok (.aload_n 0, 1) := by decide +kernel
theorem dX9_firstFalse_45 : decode cX9_firstFalse 45 = .ok (.iload_n 1, 1) := by decide +kernel
theorem dX9_firstFalse_46 : decode cX9_firstFalse 46 = .ok (.bipush 10, 2) := by decide +kernel
theorem dX9_firstFalse_48 : decode cX9_firstFalse 48 = .ok (.idiv, 1) := by decide +kernel
theorem dX9_firstFalse_49 : decode cX9_firstFalse 49 = .ok (.iload 4, 2) := by decide +kernel
theorem dX9_firstFalse_51 : decode cX9_firstFalse 51 = .ok (.iconst 1, 1) := by decide +kernel
theorem dX9_firstFalse_52 : decode cX9_firstFalse 52 = .ok (.isub, 1) := by decide +kernel
theorem dX9_firstFalse_53 : decode cX9_firstFalse 53 = .ok (.invokevirtual 242, 3) := by decide +kernel
theorem dX9_firstFalse_56 : decode cX9_firstFalse 56 = .ok (.aload_n 0, 1) := by decide +kernel
theorem dX9_firstFalse_57 : decode cX9_firstFalse 57 = .ok (.getfield 70, 3) := by decide +kernel
theorem dX9_firstFalse_60 : decode cX9_firstFalse 60 = .ok (.bipush 60, 2) := by decide +kernel
theorem dX9_firstFalse_62 : decode cX9_firstFalse 62 = .ok (.iload_n 1, 1) := by decide +kernel
theorem dX9_firstFalse_63 : decode cX9_firstFalse 63 = .ok (.bipush 10, 2) := by decide +kernel
theorem dX9_firstFalse_65 : decode cX9_firstFalse 65 = .ok (.irem, 1) := by decide +kernel
theorem dX9_firstFalse_66 : decode cX9_firstFalse 66 = .ok (.imul, 1) := by decide +kernel
theorem dX9_firstFalse_67 : decode cX9_firstFalse 67 = .ok (.iload 4, 2) := by decide +kernel
theorem dX9_firstFalse_69 : decode cX9_firstFalse 69 = .ok (.iadd, 1) := by decide +kernel
theorem dX9_firstFalse_70 : decode cX9_firstFalse 70 = .ok (.laload, 1) := by decide +kernel
theorem dX9_firstFalse_71 : decode cX9_firstFalse 71 = .ok (.aload_n 0, 1) := by decide +kernel
theorem dX9_firstFalse_72 : decode cX9_firstFalse 72 = .ok (.getfield 34, 3) := by decide +kernel
theorem dX9_firstFalse_75 : decode cX9_firstFalse 75 = .ok (.iload_n 2, 1) := by decide +kernel
theorem dX9_firstFalse_76 : decode cX9_firstFalse 76 = .ok (.iaload, 1) := by decide +kernel
theorem dX9_firstFalse_77 : decode cX9_firstFalse 77 = .ok (.i2l, 1) := by decide +kernel
theorem dX9_firstFalse_78 : decode cX9_firstFalse 78 = .ok (.lcmp, 1) := by decide +kernel
theorem dX9_firstFalse_79 : decode cX9_firstFalse 79 = .ok (.ifCond .eq 6, 3) := by decide +kernel
theorem dX9_firstFalse_82 : decode cX9_firstFalse 82 = .ok (.iload 4, 2) := by decide +kernel
theorem dX9_firstFalse_84 : decode cX9_firstFalse 84 = .ok (.ireturn, 1) := by decide +kernel
theorem dX9_firstFalse_85 : decode cX9_firstFalse 85 = .ok (.iinc 4 1, 3) := by decide +kernel
theorem dX9_firstFalse_88 : decode cX9_firstFalse 88 = .ok (.goto (-72), 3) := by decide +kernel
theorem dX9_firstFalse_91 : decode cX9_firstFalse 91 = .ok (.bipush (-2), 2) := by decide +kernel
theorem dX9_firstFalse_93 : decode cX9_firstFalse 93 = .ok (.ireturn, 1) := by decide +kernel
theorem dX9_judge_0 : decode cX9_judge 0 = .ok (.aload_n 0, 1) := by decide +kernel
theorem dX9_judge_1 : decode cX9_judge 1 = .ok (.iload_n 1, 1) := by decide +kernel
theorem dX9_judge_2 : decode cX9_judge 2 = .ok (.invokevirtual 294, 3) := by decide +kernel
theorem dX9_judge_5 : decode cX9_judge 5 = .ok (.iconst (-1), 1) := by decide +kernel
theorem dX9_judge_6 : decode cX9_judge 6 = .ok (.if_icmp .eq 12, 3) := by decide +kernel
theorem dX9_judge_9 : decode cX9_judge 9 = .ok (.aload_n 0, 1) := by decide +kernel
theorem dX9_judge_10 : decode cX9_judge 10 = .ok (.iload_n 2, 1) := by decide +kernel
theorem dX9_judge_11 : decode cX9_judge 11 = .ok (.i2l, 1) := by decide +kernel
theorem dX9_judge_12 : decode cX9_judge 12 = .ok (.invokevirtual 127, 3) := by decide +kernel
theorem dX9_judge_15 : decode cX9_judge 15 = .ok (.ifCond .ne 5, 3) := by decide +kernel
theorem dX9_judge_18 : decode cX9_judge 18 = .ok (.iconst (-1), 1) := by decide +kernel
theorem dX9_judge_19 : decode cX9_judge 19 = .ok (.ireturn, 1) := by decide +kernel
theorem dX9_judge_20 : decode cX9_judge 20 = .ok (.aload_n 0, 1) := by decide +kernel
theorem dX9_judge_21 : decode cX9_judge 21 = .ok (.iload_n 1, 1) := by decide +kernel
theorem dX9_judge_22 : decode cX9_judge 22 = .ok (.invokevirtual 294, 3) := by decide +kernel
theorem dX9_judge_25 : decode cX9_judge 25 = .ok (.ifCond .ge 11, 3) := by decide +kernel
theorem dX9_judge_28 : decode cX9_judge 28 = .ok (.aload_n 0, 1) := by decide +kernel
theorem dX9_judge_29 : decode cX9_judge 29 = .ok (.iload_n 1, 1) := by decide +kernel
theorem dX9_judge_30 : decode cX9_judge 30 = .ok (.invokevirtual 294, 3) := by decide +kernel
theorem dX9_judge_33 : decode cX9_judge 33 = .ok (.goto 9, 3) := by decide +kernel
theorem dX9_judge_36 : decode cX9_judge 36 = .ok (.aload_n 0, 1) := by decide +kernel
theorem dX9_judge_37 : decode cX9_judge 37 = .ok (.iload_n 1, 1) := by decide +kernel
theorem dX9_judge_38 : decode cX9_judge 38 = .ok (.iload_n 2, 1) := by decide +kernel
theorem dX9_judge_39 : decode cX9_judge 39 = .ok (.invokevirtual 297, 3) := by decide +kernel
theorem dX9_judge_42 : decode cX9_judge 42 = .ok (.ireturn, 1) := by decide +kernel
theorem dX9_fits_0 : decode cX9_fits 0 = .ok (.aload_n 0, 1) := by decide +kernel
theorem dX9_fits_1 : decode cX9_fits 1 = .ok (.iload_n 1, 1) := by decide +kernel
theorem dX9_fits_2 : decode cX9_fits 2 = .ok (.invokevirtual 294, 3) := by decide +kernel
theorem dX9_fits_5 : decode cX9_fits 5 = .ok (.iconst (-1), 1) := by decide +kernel
theorem dX9_fits_6 : decode cX9_fits 6 = .ok (.if_icmp .eq 43, 3) := by decide +kernel
theorem dX9_fits_9 : decode cX9_fits 9 = .ok (.iload_n 2, 1) := by decide +kernel
theorem dX9_fits_10 : decode cX9_fits 10 = .ok (.ifCond .lt 39, 3) := by decide +kernel
theorem dX9_fits_13 : decode cX9_fits 13 = .ok (.aload_n 0, 1) := by decide +kernel
theorem dX9_fits_14 : decode cX9_fits 14 = .ok (.iload_n 2, 1) := by decide +kernel
theorem dX9_fits_15 : decode cX9_fits 15 = .ok (.bipush 10, 2) := by decide +kernel
theorem dX9_fits_17 : decode cX9_fits 17 = .ok (.idiv, 1) := by decide +kernel
theorem dX9_fits_18 : decode cX9_fits 18 = .ok (.i2l, 1) := by decide +kernel
theorem dX9_fits_19 : decode cX9_fits 19 = .ok (.invokevirtual 127, 3) := by decide +kernel
theorem dX9_fits_22 : decode cX9_fits 22 = .ok (.ifCond .eq 27, 3) := by decide +kernel
theorem dX9_fits_25 : decode cX9_fits 25 = .ok (.aload_n 0, 1) := by decide +kernel
theorem dX9_fits_26 : decode cX9_fits 26 = .ok (.iload_n 2, 1) := by decide +kernel
theorem dX9_fits_27 : decode cX9_fits 27 = .ok (.bipush 10, 2) := by decide +kernel
theorem dX9_fits_29 : decode cX9_fits 29 = .ok (.irem, 1) := by decide +kernel
theorem dX9_fits_30 : decode cX9_fits 30 = .ok (.i2l, 1) := by decide +kernel
theorem dX9_fits_31 : decode cX9_fits 31 = .ok (.invokevirtual 127, 3) := by decide +kernel
theorem dX9_fits_34 : decode cX9_fits 34 = .ok (.ifCond .eq 15, 3) := by decide +kernel
theorem dX9_fits_37 : decode cX9_fits 37 = .ok (.iload_n 3, 1) := by decide +kernel
theorem dX9_fits_38 : decode cX9_fits 38 = .ok (.i2l, 1) := by decide +kernel
theorem dX9_fits_39 : decode cX9_fits 39 = .ok (.lconst 0, 1) := by decide +kernel
theorem dX9_fits_40 : decode cX9_fits 40 = .ok (.ldc2_w 268, 3) := by decide +kernel
theorem dX9_fits_43 : decode cX9_fits 43 = .ok (.invokestatic 98, 3) := by decide +kernel
theorem dX9_fits_46 : decode cX9_fits 46 = .ok (.ifCond .ne 5, 3) := by decide +kernel
theorem dX9_fits_49 : decode cX9_fits 49 = .ok (.iconst (-1), 1) := by decide +kernel
theorem dX9_fits_50 : decode cX9_fits 50 = .ok (.ireturn, 1) := by decide +kernel
theorem dX9_fits_51 : decode cX9_fits 51 = .ok (.aload_n 0, 1) := by decide +kernel
theorem dX9_fits_52 : decode cX9_fits 52 = .ok (.iload_n 1, 1) := by decide +kernel
theorem dX9_fits_53 : decode cX9_fits 53 = .ok (.invokevirtual 294, 3) := by decide +kernel
theorem dX9_fits_56 : decode cX9_fits 56 = .ok (.ifCond .ge 9, 3) := by decide +kernel
theorem dX9_fits_59 : decode cX9_fits 59 = .ok (.aload_n 0, 1) := by decide +kernel
theorem dX9_fits_60 : decode cX9_fits 60 = .ok (.iload_n 1, 1) := by decide +kernel
theorem dX9_fits_61 : decode cX9_fits 61 = .ok (.invokevirtual 294, 3) := by decide +kernel
theorem dX9_fits_64 : decode cX9_fits 64 = .ok (.ireturn, 1) := by decide +kernel
theorem dX9_fits_65 : decode cX9_fits 65 = .ok (.iload_n 3, 1) := by decide +kernel
theorem dX9_fits_66 : decode cX9_fits 66 = .ok (.iconst 2, 1) := by decide +kernel
theorem dX9_fits_67 : decode cX9_fits 67 = .ok (.if_icmp .ge 8, 3) := by decide +kernel
theorem dX9_fits_70 : decode cX9_fits 70 = .ok (.bipush 10, 2) := by decide +kernel
theorem dX9_fits_72 : decode cX9_fits 72 = .ok (.goto 5, 3) := by decide +kernel
theorem dX9_fits_75 : decode cX9_fits 75 = .ok (.bipush 20, 2) := by decide +kernel
theorem dX9_fits_77 : decode cX9_fits 77 = .ok (.iload_n 2, 1) := by decide +kernel
theorem dX9_fits_78 : decode cX9_fits 78 = .ok (.bipush 10, 2) := by decide +kernel
theorem dX9_fits_80 : decode cX9_fits 80 = .ok (.irem, 1) := by decide +kernel
theorem dX9_fits_81 : decode cX9_fits 81 = .ok (.iadd, 1) := by decide +kernel
theorem dX9_fits_82 : decode cX9_fits 82 = .ok (.istore 4, 2) := by decide +kernel
theorem dX9_fits_84 : decode cX9_fits 84 = .ok (.aload_n 0, 1) := by decide +kernel
theorem dX9_fits_85 : decode cX9_fits 85 = .ok (.getfield 9, 3) := by decide +kernel
theorem dX9_fits_88 : decode cX9_fits 88 = .ok (.iload 4, 2) := by decide +kernel
theorem dX9_fits_90 : decode cX9_fits 90 = .ok (.iaload, 1) := by decide +kernel
theorem dX9_fits_91 : decode cX9_fits 91 = .ok (.istore 5, 2) := by decide +kernel
theorem dX9_fits_93 : decode cX9_fits 93 = .ok (.iconst 0, 1) := by decide +kernel
theorem dX9_fits_94 : decode cX9_fits 94 = .ok (.istore 6, 2) := by decide +kernel
theorem dX9_fits_96 : decode cX9_fits 96 = .ok (.bipush (-2), 2) := by decide +kernel
theorem dX9_fits_98 : decode cX9_fits 98 = .ok (.istore 7, 2) := by decide +kernel
theorem dX9_fits_100 : decode cX9_fits 100 = .ok (.iconst 0, 1) := by decide +kernel
theorem dX9_fits_101 : decode cX9_fits 101 = .ok (.istore 8, 2) := by decide +kernel
theorem dX9_fits_103 : decode cX9_fits 103 = .ok (.iload 8, 2) := by decide +kernel
theorem dX9_fits_105 : decode cX9_fits 105 = .ok (.iload_n 3, 1) := by decide +kernel
theorem dX9_fits_106 : decode cX9_fits 106 = .ok (.iconst 2, 1) := by decide +kernel
theorem dX9_fits_107 : decode cX9_fits 107 = .ok (.if_icmp .ge 8, 3) := by decide +kernel
theorem dX9_fits_110 : decode cX9_fits 110 = .ok (.bipush 9, 2) := by decide +kernel
theorem dX9_fits_112 : decode cX9_fits 112 = .ok (.goto 5, 3) := by decide +kernel
theorem dX9_fits_115 : decode cX9_fits 115 = .ok (.bipush 99, 2) := by decide +kernel
theorem dX9_fits_117 : decode cX9_fits 117 = .ok (.if_icmp .gt 49, 3) := by decide +kernel
theorem dX9_fits_120 : decode cX9_fits 120 = .ok (.aload_n 0, 1) := by decide +kernel
theorem dX9_fits_121 : decode cX9_fits 121 = .ok (.getfield 9, 3) := by decide +kernel
theorem dX9_fits_124 : decode cX9_fits 124 = .ok (.iload 4, 2) := by decide +kernel
theorem dX9_fits_126 : decode cX9_fits 126 = .ok (.iload 8, 2) := by decide +kernel
theorem dX9_fits_128 : decode cX9_fits 128 = .ok (.iastore, 1) := by decide +kernel
theorem dX9_fits_129 : decode cX9_fits 129 = .ok (.aload_n 0, 1) := by decide +kernel
theorem dX9_fits_130 : decode cX9_fits 130 = .ok (.iload_n 1, 1) := by decide +kernel
theorem dX9_fits_131 : decode cX9_fits 131 = .ok (.iload_n 2, 1) := by decide +kernel
theorem dX9_fits_132 : decode cX9_fits 132 = .ok (.bipush 10, 2) := by decide +kernel
theorem dX9_fits_134 : decode cX9_fits 134 = .ok (.idiv, 1) := by decide +kernel
theorem dX9_fits_135 : decode cX9_fits 135 = .ok (.invokevirtual 297, 3) := by decide +kernel
theorem dX9_fits_138 : decode cX9_fits 138 = .ok (.bipush (-2), 2) := by decide +kernel
theorem dX9_fits_140 : decode cX9_fits 140 = .ok (.if_icmp .ne 20, 3) := by decide +kernel
theorem dX9_fits_143 : decode cX9_fits 143 = .ok (.iload 6, 2) := by decide +kernel
theorem dX9_fits_145 : decode cX9_fits 145 = .ok (.ifCond .ne 8, 3) := by decide +kernel
theorem dX9_fits_148 : decode cX9_fits 148 = .ok (.iload 8, 2) := by decide +kernel
theorem dX9_fits_150 : decode cX9_fits 150 = .ok (.goto 5, 3) := by decide +kernel
theorem dX9_fits_153 : decode cX9_fits 153 = .ok (.iload 7, 2) := by decide +kernel
theorem dX9_fits_155 : decode cX9_fits 155 = .ok (.istore 7, 2) := by decide +kernel
theorem dX9_fits_157 : decode cX9_fits 157 = .ok (.iinc 6 1, 3) := by decide +kernel
theorem dX9_fits_160 : decode cX9_fits 160 = .ok (.iinc 8 1, 3) := by decide +kernel
theorem dX9_fits_163 : decode cX9_fits 163 = .ok (.goto (-60), 3) := by decide +kernel
theorem dX9_fits_166 : decode cX9_fits 166 = .ok (.aload_n 0, 1) := by decide +kernel
theorem dX9_fits_167 : decode cX9_fits 167 = .ok (.getfield 9, 3) := by decide +kernel
theorem dX9_fits_170 : decode cX9_fits 170 = .ok (.iload 4, 2) := by decide +kernel
theorem dX9_fits_172 : decode cX9_fits 172 = .ok (.iload 5, 2) := by decide +kernel
theorem dX9_fits_174 : decode cX9_fits 174 = .ok (.iastore, 1) := by decide +kernel
theorem dX9_fits_175 : decode cX9_fits 175 = .ok (.iload_n 3, 1) := by decide +kernel
theorem dX9_fits_176 : decode cX9_fits 176 = .ok (.iconst 2, 1) := by decide +kernel
theorem dX9_fits_177 : decode cX9_fits 177 = .ok (.irem, 1) := by decide +kernel
theorem dX9_fits_178 : decode cX9_fits 178 = .ok (.ifCond .ne 8, 3) := by decide +kernel
theorem dX9_fits_181 : decode cX9_fits 181 = .ok (.iload 6, 2) := by decide +kernel
theorem dX9_fits_183 : decode cX9_fits 183 = .ok (.goto 5, 3) := by decide +kernel
theorem dX9_fits_186 : decode cX9_fits 186 = .ok (.iload 7, 2) := by decide +kernel
theorem dX9_fits_188 : decode cX9_fits 188 = .ok (.ireturn, 1) := by decide +kernel
theorem dX9_dealt_0 : decode cX9_dealt 0 = .ok (.iload_n 1, 1) := by decide +kernel
theorem dX9_dealt_1 : decode cX9_dealt 1 = .ok (.i2l, 1) := by decide +kernel
theorem dX9_dealt_2 : decode cX9_dealt 2 = .ok (.lconst 0, 1) := by decide +kernel
theorem dX9_dealt_3 : decode cX9_dealt 3 = .ok (.lconst 1, 1) := by decide +kernel
theorem dX9_dealt_4 : decode cX9_dealt 4 = .ok (.invokestatic 98, 3) := by decide +kernel
theorem dX9_dealt_7 : decode cX9_dealt 7 = .ok (.ifCond .ne 5, 3) := by decide +kernel
theorem dX9_dealt_10 : decode cX9_dealt 10 = .ok (.iconst (-1), 1) := by decide +kernel
theorem dX9_dealt_11 : decode cX9_dealt 11 = .ok (.ireturn, 1) := by decide +kernel
theorem dX9_dealt_12 : decode cX9_dealt 12 = .ok (.bipush (-9), 2) := by decide +kernel
theorem dX9_dealt_14 : decode cX9_dealt 14 = .ok (.istore_n 2, 1) := by decide +kernel
theorem dX9_dealt_15 : decode cX9_dealt 15 = .ok (.aload_n 0, 1) := by decide +kernel
theorem dX9_dealt_16 : decode cX9_dealt 16 = .ok (.invokevirtual 233, 3) := by decide +kernel
theorem dX9_dealt_19 : decode cX9_dealt 19 = .ok (.aload_n 0, 1) := by decide +kernel
theorem dX9_dealt_20 : decode cX9_dealt 20 = .ok (.iconst (-1), 1) := by decide +kernel
theorem dX9_dealt_21 : decode cX9_dealt 21 = .ok (.putfield 204, 3) := by decide +kernel
theorem dX9_dealt_24 : decode cX9_dealt 24 = .ok (.aload_n 0, 1) := by decide +kernel
theorem dX9_dealt_25 : decode cX9_dealt 25 = .ok (.invokevirtual 236, 3) := by decide +kernel
theorem dX9_dealt_28 : decode cX9_dealt 28 = .ok (.aload_n 0, 1) := by decide +kernel
theorem dX9_dealt_29 : decode cX9_dealt 29 = .ok (.invokevirtual 256, 3) := by decide +kernel
theorem dX9_dealt_32 : decode cX9_dealt 32 = .ok (.istore_n 3, 1) := by decide +kernel
theorem dX9_dealt_33 : decode cX9_dealt 33 = .ok (.aload_n 0, 1) := by decide +kernel
theorem dX9_dealt_34 : decode cX9_dealt 34 = .ok (.invokevirtual 253, 3) := by decide +kernel
theorem dX9_dealt_37 : decode cX9_dealt 37 = .ok (.istore 4, 2) := by decide +kernel
theorem dX9_dealt_39 : decode cX9_dealt 39 = .ok (.iconst 0, 1) := by decide +kernel
theorem dX9_dealt_40 : decode cX9_dealt 40 = .ok (.istore 5, 2) := by decide +kernel
theorem dX9_dealt_42 : decode cX9_dealt 42 = .ok (.iload 5, 2) := by decide +kernel
theorem dX9_dealt_44 : decode cX9_dealt 44 = .ok (.bipush 12, 2) := by decide +kernel
theorem dX9_dealt_46 : decode cX9_dealt 46 = .ok (.if_icmp .ge 118, 3) := by decide +kernel
theorem dX9_dealt_49 : decode cX9_dealt 49 = .ok (.iload 5, 2) := by decide +kernel
theorem dX9_dealt_51 : decode cX9_dealt 51 = .ok (.iconst 1, 1) := by decide +kernel
theorem dX9_dealt_52 : decode cX9_dealt 52 = .ok (.iadd, 1) := by decide +kernel
theorem dX9_dealt_53 : decode cX9_dealt 53 = .ok (.istore 6, 2) := by decide +kernel
theorem dX9_dealt_55 : decode cX9_dealt 55 = .ok (.iload 6, 2) := by decide +kernel
theorem dX9_dealt_57 : decode cX9_dealt 57 = .ok (.bipush 12, 2) := by decide +kernel
theorem dX9_dealt_59 : decode cX9_dealt 59 = .ok (.if_icmp .ge 99, 3) := by decide +kernel
theorem dX9_dealt_62 : decode cX9_dealt 62 = .ok (.aload_n 0, 1) := by decide +kernel
theorem dX9_dealt_63 : decode cX9_dealt 63 = .ok (.invokevirtual 233, 3) := by decide +kernel
theorem dX9_dealt_66 : decode cX9_dealt 66 = .ok (.aload_n 0, 1) := by decide +kernel
theorem dX9_dealt_67 : decode cX9_dealt 67 = .ok (.iconst (-1), 1) := by decide +kernel
theorem dX9_dealt_68 : decode cX9_dealt 68 = .ok (.putfield 204, 3) := by decide +kernel
theorem dX9_dealt_71 : decode cX9_dealt 71 = .ok (.aload_n 0, 1) := by decide +kernel
theorem dX9_dealt_72 : decode cX9_dealt 72 = .ok (.getfield 31, 3) := by decide +kernel
theorem dX9_dealt_75 : decode cX9_dealt 75 = .ok (.iload 5, 2) := by decide +kernel
theorem dX9_dealt_77 : decode cX9_dealt 77 = .ok (.iaload, 1) := by decide +kernel
theorem dX9_dealt_78 : decode cX9_dealt 78 = .ok (.istore 7, 2) := by decide +kernel
theorem dX9_dealt_80 : decode cX9_dealt 80 = .ok (.aload_n 0, 1) := by decide +kernel
theorem dX9_dealt_81 : decode cX9_dealt 81 = .ok (.getfield 31, 3) := by decide +kernel
theorem dX9_dealt_84 : decode cX9_dealt 84 = .ok (.iload 5, 2) := by decide +kernel
theorem dX9_dealt_86 : decode cX9_dealt 86 = .ok (.aload_n 0, 1) := by decide +kernel
theorem dX9_dealt_87 : decode cX9_dealt 87 = .ok (.getfield 31, 3) := by decide +kernel
theorem dX9_dealt_90 : decode cX9_dealt 90 = .ok (.iload 6, 2) := by decide +kernel
theorem dX9_dealt_92 : decode cX9_dealt 92 = .ok (.iaload, 1) := by decide +kernel
theorem dX9_dealt_93 : decode cX9_dealt 93 = .ok (.iastore, 1) := by decide +kernel
theorem dX9_dealt_94 : decode cX9_dealt 94 = .ok (.aload_n 0, 1) := by decide +kernel
theorem dX9_dealt_95 : decode cX9_dealt 95 = .ok (.getfield 31, 3) := by decide +kernel
theorem dX9_dealt_98 : decode cX9_dealt 98 = .ok (.iload 6, 2) := by decide +kernel
theorem dX9_dealt_100 : decode cX9_dealt 100 = .ok (.iload 7, 2) := by decide +kernel
theorem dX9_dealt_102 : decode cX9_dealt 102 = .ok (.iastore, 1) := by decide +kernel
theorem dX9_dealt_103 : decode cX9_dealt 103 = .ok (.aload_n 0, 1) := by decide +kernel
theorem dX9_dealt_104 : decode cX9_dealt 104 = .ok (.invokevirtual 236, 3) := by decide +kernel
theorem dX9_dealt_107 : decode cX9_dealt 107 = .ok (.aload_n 0, 1) := by decide +kernel
theorem dX9_dealt_108 : decode cX9_dealt 108 = .ok (.invokevirtual 256, 3) := by decide +kernel
theorem dX9_dealt_111 : decode cX9_dealt 111 = .ok (.iload_n 3, 1) := by decide +kernel
theorem dX9_dealt_112 : decode cX9_dealt 112 = .ok (.if_icmp .lt 20, 3) := by decide +kernel
theorem dX9_dealt_115 : decode cX9_dealt 115 = .ok (.aload_n 0, 1) := by decide +kernel
theorem dX9_dealt_116 : decode cX9_dealt 116 = .ok (.invokevirtual 256, 3) := by decide +kernel
theorem dX9_dealt_119 : decode cX9_dealt 119 = .ok (.iload_n 3, 1) := by decide +kernel
theorem dX9_dealt_120 : decode cX9_dealt 120 = .ok (.if_icmp .ne 32, 3) := by decide +kernel
theorem dX9_dealt_123 : decode cX9_dealt 123 = .ok (.aload_n 0, 1) := by decide +kernel
theorem dX9_dealt_124 : decode cX9_dealt 124 = .ok (.invokevirtual 253, 3) := by decide +kernel
theorem dX9_dealt_127 : decode cX9_dealt 127 = .ok (.iload 4, 2) := by decide +kernel
theorem dX9_dealt_129 : decode cX9_dealt 129 = .ok (.if_icmp .ge 23, 3) := by decide +kernel
theorem dX9_dealt_132 : decode cX9_dealt 132 = .ok (.aload_n 0, 1) := by decide +kernel
theorem dX9_dealt_133 : decode cX9_dealt 133 = .ok (.invokevirtual 256, 3) := by decide +kernel
theorem dX9_dealt_136 : decode cX9_dealt 136 = .ok (.istore_n 3, 1) := by decide +kernel
theorem dX9_dealt_137 : decode cX9_dealt 137 = .ok (.aload_n 0, 1) := by decide +kernel
theorem dX9_dealt_138 : decode cX9_dealt 138 = .ok (.invokevirtual 253, 3) := by decide +kernel
theorem dX9_dealt_141 : decode cX9_dealt 141 = .ok (.istore 4, 2) := by decide +kernel
theorem dX9_dealt_143 : decode cX9_dealt 143 = .ok (.bipush 12, 2) := by decide +kernel
theorem dX9_dealt_145 : decode cX9_dealt 145 = .ok (.iload 5, 2) := by decide +kernel
theorem dX9_dealt_147 : decode cX9_dealt 147 = .ok (.imul, 1) := by decide +kernel
theorem dX9_dealt_148 : decode cX9_dealt 148 = .ok (.iload 6, 2) := by decide +kernel
theorem dX9_dealt_150 : decode cX9_dealt 150 = .ok (.iadd, 1) := by decide +kernel
theorem dX9_dealt_151 : decode cX9_dealt 151 = .ok (.istore_n 2, 1) := by decide +kernel
theorem dX9_dealt_152 : decode cX9_dealt 152 = .ok (.iinc 6 1, 3) := by decide +kernel
theorem dX9_dealt_155 : decode cX9_dealt 155 = .ok (.goto (-100), 3) := by decide +kernel
theorem dX9_dealt_158 : decode cX9_dealt 158 = .ok (.iinc 5 1, 3) := by decide +kernel
theorem dX9_dealt_161 : decode cX9_dealt 161 = .ok (.goto (-119), 3) := by decide +kernel
theorem dX9_dealt_164 : decode cX9_dealt 164 = .ok (.iload_n 1, 1) := by decide +kernel
theorem dX9_dealt_165 : decode cX9_dealt 165 = .ok (.ifCond .ne 7, 3) := by decide +kernel
theorem dX9_dealt_168 : decode cX9_dealt 168 = .ok (.iload_n 3, 1) := by decide +kernel
theorem dX9_dealt_169 : decode cX9_dealt 169 = .ok (.goto 4, 3) := by decide +kernel
theorem dX9_dealt_172 : decode cX9_dealt 172 = .ok (.iload_n 2, 1) := by decide +kernel
theorem dX9_dealt_173 : decode cX9_dealt 173 = .ok (.ireturn, 1) := by decide +kernel
theorem dX9_lines_0 : decode cX9_lines 0 = .ok (.iload_n 1, 1) := by decide +kernel
theorem dX9_lines_1 : decode cX9_lines 1 = .ok (.i2l, 1) := by decide +kernel
theorem dX9_lines_2 : decode cX9_lines 2 = .ok (.ldc2_w 270, 3) := by decide +kernel
theorem dX9_lines_5 : decode cX9_lines 5 = .ok (.ldc2_w 300, 3) := by decide +kernel
theorem dX9_lines_8 : decode cX9_lines 8 = .ok (.invokestatic 98, 3) := by decide +kernel
theorem dX9_lines_11 : decode cX9_lines 11 = .ok (.ifCond .ne 5, 3) := by decide +kernel
theorem dX9_lines_14 : decode cX9_lines 14 = .ok (.iconst (-1), 1) := by decide +kernel
theorem dX9_lines_15 : decode cX9_lines 15 = .ok (.ireturn, 1) := by decide +kernel
theorem dX9_lines_16 : decode cX9_lines 16 = .ok (.aload_n 0, 1) := by decide +kernel
theorem dX9_lines_17 : decode cX9_lines 17 = .ok (.invokevirtual 233, 3) := by decide +kernel
theorem dX9_lines_20 : decode cX9_lines 20 = .ok (.iload_n 1, 1) := by decide +kernel
theorem dX9_lines_21 : decode cX9_lines 21 = .ok (.ifCond .lt 106, 3) := by decide +kernel
theorem dX9_lines_24 : decode cX9_lines 24 = .ok (.iconst 0, 1) := by decide +kernel
theorem dX9_lines_25 : decode cX9_lines 25 = .ok (.istore_n 2, 1) := by decide +kernel
theorem dX9_lines_26 : decode cX9_lines 26 = .ok (.iconst 0, 1) := by decide +kernel
theorem dX9_lines_27 : decode cX9_lines 27 = .ok (.istore_n 3, 1) := by decide +kernel
theorem dX9_lines_28 : decode cX9_lines 28 = .ok (.iload_n 3, 1) := by decide +kernel
theorem dX9_lines_29 : decode cX9_lines 29 = .ok (.bipush 12, 2) := by decide +kernel
theorem dX9_lines_31 : decode cX9_lines 31 = .ok (.if_icmp .ge 94, 3) := by decide +kernel
theorem dX9_lines_34 : decode cX9_lines 34 = .ok (.iconst 0, 1) := by decide +kernel
theorem dX9_lines_35 : decode cX9_lines 35 = .ok (.istore 4, 2) := by decide +kernel
theorem dX9_lines_37 : decode cX9_lines 37 = .ok (.iload 4, 2) := by decide +kernel
theorem dX9_lines_39 : decode cX9_lines 39 = .ok (.iload_n 3, 1) := by decide +kernel
theorem dX9_lines_40 : decode cX9_lines 40 = .ok (.if_icmp .ge 79, 3) := by decide +kernel
theorem dX9_lines_43 : decode cX9_lines 43 = .ok (.iload_n 2, 1) := by decide +kernel
theorem dX9_lines_44 : decode cX9_lines 44 = .ok (.iload_n 3, 1) := by decide +kernel
theorem dX9_lines_45 : decode cX9_lines 45 = .ok (.iload 4, 2) := by decide +kernel
theorem dX9_lines_47 : decode cX9_lines 47 = .ok (.invokestatic 210, 3) := by decide +kernel
theorem dX9_lines_50 : decode cX9_lines 50 = .ok (.ifCond .eq 60, 3) := by decide +kernel
theorem dX9_lines_53 : decode cX9_lines 53 = .ok (.aload_n 0, 1) := by decide +kernel
theorem dX9_lines_54 : decode cX9_lines 54 = .ok (.getfield 31, 3) := by decide +kernel
theorem dX9_lines_57 : decode cX9_lines 57 = .ok (.iload_n 3, 1) := by decide +kernel
theorem dX9_lines_58 : decode cX9_lines 58 = .ok (.iaload, 1) := by decide +kernel
theorem dX9_lines_59 : decode cX9_lines 59 = .ok (.ifCond .lt 51, 3) := by decide +kernel
theorem dX9_lines_62 : decode cX9_lines 62 = .ok (.aload_n 0, 1) := by decide +kernel
theorem dX9_lines_63 : decode cX9_lines 63 = .ok (.getfield 31, 3) := by decide +kernel
theorem dX9_lines_66 : decode cX9_lines 66 = .ok (.iload 4, 2) := by decide +kernel
theorem dX9_lines_68 : decode cX9_lines 68 = .ok (.iaload, 1) := by decide +kernel
theorem dX9_lines_69 : decode cX9_lines 69 = .ok (.ifCond .lt 41, 3) := by decide +kernel
theorem dX9_lines_72 : decode cX9_lines 72 = .ok (.aload_n 0, 1) := by decide +kernel
theorem dX9_lines_73 : decode cX9_lines 73 = .ok (.getfield 9, 3) := by decide +kernel
theorem dX9_lines_76 : decode cX9_lines 76 = .ok (.bipush 10, 2) := by decide +kernel
theorem dX9_lines_78 : decode cX9_lines 78 = .ok (.aload_n 0, 1) := by decide +kernel
theorem dX9_lines_79 : decode cX9_lines 79 = .ok (.getfield 31, 3) := by decide +kernel
theorem dX9_lines_82 : decode cX9_lines 82 = .ok (.iload_n 3, 1) := by decide +kernel
theorem dX9_lines_83 : decode cX9_lines 83 = .ok (.iaload, 1) := by decide +kernel
theorem dX9_lines_84 : decode cX9_lines 84 = .ok (.iadd, 1) := by decide +kernel
theorem dX9_lines_85 : decode cX9_lines 85 = .ok (.iaload, 1) := by decide +kernel
theorem dX9_lines_86 : decode cX9_lines 86 = .ok (.aload_n 0, 1) := by decide +kernel
theorem dX9_lines_87 : decode cX9_lines 87 = .ok (.getfield 9, 3) := by decide +kernel
theorem dX9_lines_90 : decode cX9_lines 90 = .ok (.bipush 10, 2) := by decide +kernel
theorem dX9_lines_92 : decode cX9_lines 92 = .ok (.aload_n 0, 1) := by decide +kernel
theorem dX9_lines_93 : decode cX9_lines 93 = .ok (.getfield 31, 3) := by decide +kernel
theorem dX9_lines_96 : decode cX9_lines 96 = .ok (.iload 4, 2) := by decide +kernel
theorem dX9_lines_98 : decode cX9_lines 98 = .ok (.iaload, 1) := by decide +kernel
theorem dX9_lines_99 : decode cX9_lines 99 = .ok (.iadd, 1) := by decide +kernel
theorem dX9_lines_100 : decode cX9_lines 100 = .ok (.iaload, 1) := by decide +kernel
theorem dX9_lines_101 : decode cX9_lines 101 = .ok (.iadd, 1) := by decide +kernel
theorem dX9_lines_102 : decode cX9_lines 102 = .ok (.iload_n 1, 1) := by decide +kernel
theorem dX9_lines_103 : decode cX9_lines 103 = .ok (.if_icmp .lt 7, 3) := by decide +kernel
theorem dX9_lines_106 : decode cX9_lines 106 = .ok (.iconst 1, 1) := by decide +kernel
theorem dX9_lines_107 : decode cX9_lines 107 = .ok (.goto 4, 3) := by decide +kernel
theorem dX9_lines_110 : decode cX9_lines 110 = .ok (.iconst 0, 1) := by decide +kernel
theorem dX9_lines_111 : decode cX9_lines 111 = .ok (.iadd, 1) := by decide +kernel
theorem dX9_lines_112 : decode cX9_lines 112 = .ok (.istore_n 2, 1) := by decide +kernel
theorem dX9_lines_113 : decode cX9_lines 113 = .ok (.iinc 4 1, 3) := by decide +kernel
theorem dX9_lines_116 : decode cX9_lines 116 = .ok (.goto (-79), 3) := by decide +kernel
theorem dX9_lines_119 : decode cX9_lines 119 = .ok (.iinc 3 1, 3) := by decide +kernel
theorem dX9_lines_122 : decode cX9_lines 122 = .ok (.goto (-94), 3) := by decide +kernel
theorem dX9_lines_125 : decode cX9_lines 125 = .ok (.iload_n 2, 1) := by decide +kernel
theorem dX9_lines_126 : decode cX9_lines 126 = .ok (.ireturn, 1) := by decide +kernel
theorem dX9_lines_127 : decode cX9_lines 127 = .ok (.iconst 0, 1) := by decide +kernel
theorem dX9_lines_128 : decode cX9_lines 128 = .ok (.istore_n 2, 1) := by decide +kernel
theorem dX9_lines_129 : decode cX9_lines 129 = .ok (.iconst 0, 1) := by decide +kernel
theorem dX9_lines_130 : decode cX9_lines 130 = .ok (.istore_n 3, 1) := by decide +kernel
theorem dX9_lines_131 : decode cX9_lines 131 = .ok (.iload_n 3, 1) := by decide +kernel
theorem dX9_lines_132 : decode cX9_lines 132 = .ok (.sipush 4096, 3) := by decide +kernel
theorem dX9_lines_135 : decode cX9_lines 135 = .ok (.if_icmp .ge 141, 3) := by decide +kernel
theorem dX9_lines_138 : decode cX9_lines 138 = .ok (.iload_n 3, 1) := by decide +kernel
theorem dX9_lines_139 : decode cX9_lines 139 = .ok (.invokestatic 229, 3) := by decide +kernel
theorem dX9_lines_142 : decode cX9_lines 142 = .ok (.iload_n 2, 1) := by decide +kernel
theorem dX9_lines_143 : decode cX9_lines 143 = .ok (.invokestatic 229, 3) := by decide +kernel
theorem dX9_lines_146 : decode cX9_lines 146 = .ok (.if_icmp .le 7, 3) := by decide +kernel
theorem dX9_lines_149 : decode cX9_lines 149 = .ok (.iconst 1, 1) := by decide +kernel
theorem dX9_lines_150 : decode cX9_lines 150 = .ok (.goto 4, 3) := by decide +kernel
theorem dX9_lines_153 : decode cX9_lines 153 = .ok (.iconst 0, 1) := by decide +kernel
theorem dX9_lines_154 : decode cX9_lines 154 = .ok (.istore 4, 2) := by decide +kernel
theorem dX9_lines_156 : decode cX9_lines 156 = .ok (.iconst 0, 1) := by decide +kernel
theorem dX9_lines_157 : decode cX9_lines 157 = .ok (.istore 5, 2) := by decide +kernel
theorem dX9_lines_159 : decode cX9_lines 159 = .ok (.iload 5, 2) := by decide +kernel
theorem dX9_lines_161 : decode cX9_lines 161 = .ok (.bipush 12, 2) := by decide +kernel
theorem dX9_lines_163 : decode cX9_lines 163 = .ok (.if_icmp .ge 96, 3) := by decide +kernel
theorem dX9_lines_166 : decode cX9_lines 166 = .ok (.iload 4, 2) := by decide +kernel
theorem dX9_lines_168 : decode cX9_lines 168 = .ok (.ifCond .eq 91, 3) := by decide +kernel
theorem dX9_lines_171 : decode cX9_lines 171 = .ok (.iload_n 3, 1) := by decide +kernel
theorem dX9_lines_172 : decode cX9_lines 172 = .ok (.iload 5, 2) := by decide +kernel
theorem dX9_lines_174 : decode cX9_lines 174 = .ok (.invokestatic 283, 3) := by decide +kernel
theorem dX9_lines_177 : decode cX9_lines 177 = .ok (.ifCond .eq 13, 3) := by decide +kernel
theorem dX9_lines_180 : decode cX9_lines 180 = .ok (.aload_n 0, 1) := by decide +kernel
theorem dX9_lines_181 : decode cX9_lines 181 = .ok (.getfield 31, 3) := by decide +kernel
theorem dX9_lines_184 : decode cX9_lines 184 = .ok (.iload 5, 2) := by decide +kernel
theorem dX9_lines_186 : decode cX9_lines 186 = .ok (.iaload, 1) := by decide +kernel
theorem dX9_lines_187 : decode cX9_lines 187 = .ok (.ifCond .lt 7, 3) := by decide +kernel
theorem dX9_lines_190 : decode cX9_lines 190 = .ok (.iconst 1, 1) := by decide +kernel
theorem dX9_lines_191 : decode cX9_lines 191 = .ok (.goto 4, 3) := by decide +kernel
theorem dX9_lines_194 : decode cX9_lines 194 = .ok (.iconst 0, 1) := by decide +kernel
theorem dX9_lines_195 : decode cX9_lines 195 = .ok (.istore 4, 2) := by decide +kernel
theorem dX9_lines_197 : decode cX9_lines 197 = .ok (.iconst 0, 1) := by decide +kernel
theorem dX9_lines_198 : decode cX9_lines 198 = .ok (.istore 6, 2) := by decide +kernel
theorem dX9_lines_200 : decode cX9_lines 200 = .ok (.iload 6, 2) := by decide +kernel
theorem dX9_lines_202 : decode cX9_lines 202 = .ok (.iload 5, 2) := by decide +kernel
theorem dX9_lines_204 : decode cX9_lines 204 = .ok (.if_icmp .ge 49, 3) := by decide +kernel
theorem dX9_lines_207 : decode cX9_lines 207 = .ok (.iload 4, 2) := by decide +kernel
theorem dX9_lines_209 : decode cX9_lines 209 = .ok (.ifCond .eq 35, 3) := by decide +kernel
theorem dX9_lines_212 : decode cX9_lines 212 = .ok (.iload_n 3, 1) := by decide +kernel
theorem dX9_lines_213 : decode cX9_lines 213 = .ok (.iload 5, 2) := by decide +kernel
theorem dX9_lines_215 : decode cX9_lines 215 = .ok (.invokestatic 283, 3) := by decide +kernel
theorem dX9_lines_218 : decode cX9_lines 218 = .ok (.ifCond .eq 22, 3) := by decide +kernel
theorem dX9_lines_221 : decode cX9_lines 221 = .ok (.iload_n 3, 1) := by decide +kernel
theorem dX9_lines_222 : decode cX9_lines 222 = .ok (.iload 6, 2) := by decide +kernel
theorem dX9_lines_224 : decode cX9_lines 224 = .ok (.invokestatic 283, 3) := by decide +kernel
theorem dX9_lines_227 : decode cX9_lines 227 = .ok (.ifCond .eq 13, 3) := by decide +kernel
theorem dX9_lines_230 : decode cX9_lines 230 = .ok (.iload 5, 2) := by decide +kernel
theorem dX9_lines_232 : decode cX9_lines 232 = .ok (.iload 6, 2) := by decide +kernel
theorem dX9_lines_234 : decode cX9_lines 234 = .ok (.invokestatic 210, 3) := by decide +kernel
theorem dX9_lines_237 : decode cX9_lines 237 = .ok (.ifCond .ne 7, 3) := by decide +kernel
theorem dX9_lines_240 : decode cX9_lines 240 = .ok (.iconst 1, 1) := by decide +kernel
theorem dX9_lines_241 : decode cX9_lines 241 = .ok (.goto 4, 3) := by decide +kernel
theorem dX9_lines_244 : decode cX9_lines 244 = .ok (.iconst 0, 1) := by decide +kernel
theorem dX9_lines_245 : decode cX9_lines 245 = .ok (.istore 4, 2) := by decide +kernel
theorem dX9_lines_247 : decode cX9_lines 247 = .ok (.iinc 6 1, 3) := by decide +kernel
theorem dX9_lines_250 : decode cX9_lines 250 = .ok (.goto (-50), 3) := by decide +kernel
theorem dX9_lines_253 : decode cX9_lines 253 = .ok (.iinc 5 1, 3) := by decide +kernel
theorem dX9_lines_256 : decode cX9_lines 256 = .ok (.goto (-97), 3) := by decide +kernel
theorem dX9_lines_259 : decode cX9_lines 259 = .ok (.iload 4, 2) := by decide +kernel
theorem dX9_lines_261 : decode cX9_lines 261 = .ok (.ifCond .eq 7, 3) := by decide +kernel
theorem dX9_lines_264 : decode cX9_lines 264 = .ok (.iload_n 3, 1) := by decide +kernel
theorem dX9_lines_265 : decode cX9_lines 265 = .ok (.goto 4, 3) := by decide +kernel
theorem dX9_lines_268 : decode cX9_lines 268 = .ok (.iload_n 2, 1) := by decide +kernel
theorem dX9_lines_269 : decode cX9_lines 269 = .ok (.istore_n 2, 1) := by decide +kernel
theorem dX9_lines_270 : decode cX9_lines 270 = .ok (.iinc 3 1, 3) := by decide +kernel
theorem dX9_lines_273 : decode cX9_lines 273 = .ok (.goto (-142), 3) := by decide +kernel
theorem dX9_lines_276 : decode cX9_lines 276 = .ok (.iload_n 1, 1) := by decide +kernel
theorem dX9_lines_277 : decode cX9_lines 277 = .ok (.iconst (-1), 1) := by decide +kernel
theorem dX9_lines_278 : decode cX9_lines 278 = .ok (.if_icmp .ne 10, 3) := by decide +kernel
theorem dX9_lines_281 : decode cX9_lines 281 = .ok (.iload_n 2, 1) := by decide +kernel
theorem dX9_lines_282 : decode cX9_lines 282 = .ok (.invokestatic 229, 3) := by decide +kernel
theorem dX9_lines_285 : decode cX9_lines 285 = .ok (.goto 4, 3) := by decide +kernel
theorem dX9_lines_288 : decode cX9_lines 288 = .ok (.iload_n 2, 1) := by decide +kernel
theorem dX9_lines_289 : decode cX9_lines 289 = .ok (.ireturn, 1) := by decide +kernel
theorem dX9_playsFrom_0 : decode cX9_playsFrom 0 = .ok (.iload_n 1, 1) := by decide +kernel
theorem dX9_playsFrom_1 : decode cX9_playsFrom 1 = .ok (.iload_n 2, 1) := by decide +kernel
theorem dX9_playsFrom_2 : decode cX9_playsFrom 2 = .ok (.if_icmp .ne 81, 3) := by decide +kernel
theorem dX9_playsFrom_5 : decode cX9_playsFrom 5 = .ok (.aload_n 0, 1) := by decide +kernel
theorem dX9_playsFrom_6 : decode cX9_playsFrom 6 = .ok (.invokevirtual 233, 3) := by decide +kernel
theorem dX9_playsFrom_9 : decode cX9_playsFrom 9 = .ok (.iconst 0, 1) := by decide +kernel
theorem dX9_playsFrom_10 : decode cX9_playsFrom 10 = .ok (.istore_n 3, 1) := by decide +kernel
theorem dX9_playsFrom_11 : decode cX9_playsFrom 11 = .ok (.iload_n 3, 1) := by decide +kernel
theorem dX9_playsFrom_12 : decode cX9_playsFrom 12 = .ok (.iload_n 2, 1) := by decide +kernel
theorem dX9_playsFrom_13 : decode cX9_playsFrom 13 = .ok (.if_icmp .ge 65, 3) := by decide +kernel
theorem dX9_playsFrom_16 : decode cX9_playsFrom 16 = .ok (.aload_n 0, 1) := by decide +kernel
theorem dX9_playsFrom_17 : decode cX9_playsFrom 17 = .ok (.getfield 43, 3) := by decide +kernel
theorem dX9_playsFrom_20 : decode cX9_playsFrom 20 = .ok (.iload_n 3, 1) := by decide +kernel
theorem dX9_playsFrom_21 : decode cX9_playsFrom 21 = .ok (.iaload, 1) := by decide +kernel
theorem dX9_playsFrom_22 : decode cX9_playsFrom 22 = .ok (.bipush 12, 2) := by decide +kernel
theorem dX9_playsFrom_24 : decode cX9_playsFrom 24 = .ok (.if_icmp .ge 20, 3) := by decide +kernel
theorem dX9_playsFrom_27 : decode cX9_playsFrom 27 = .ok (.iload_n 3, 1) := by decide +kernel
theorem dX9_playsFrom_28 : decode cX9_playsFrom 28 = .ok (.iconst 2, 1) := by decide +kernel
theorem dX9_playsFrom_29 : decode cX9_playsFrom 29 = .ok (.irem, 1) := by decide +kernel
theorem dX9_playsFrom_30 : decode cX9_playsFrom 30 = .ok (.ifCond .ne 14, 3) := by decide +kernel
theorem dX9_playsFrom_33 : decode cX9_playsFrom 33 = .ok (.aload_n 0, 1) := by decide +kernel
theorem dX9_playsFrom_34 : decode cX9_playsFrom 34 = .ok (.aload_n 0, 1) := by decide +kernel
theorem dX9_playsFrom_35 : decode cX9_playsFrom 35 = .ok (.getfield 43, 3) := by decide +kernel
theorem dX9_playsFrom_38 : decode cX9_playsFrom 38 = .ok (.iload_n 3, 1) := by decide +kernel
theorem dX9_playsFrom_39 : decode cX9_playsFrom 39 = .ok (.iaload, 1) := by decide +kernel
theorem dX9_playsFrom_40 : decode cX9_playsFrom 40 = .ok (.iconst 4, 1) := by decide +kernel
theorem dX9_playsFrom_41 : decode cX9_playsFrom 41 = .ok (.invokevirtual 273, 3) := by decide +kernel
theorem dX9_playsFrom_44 : decode cX9_playsFrom 44 = .ok (.aload_n 0, 1) := by decide +kernel
theorem dX9_playsFrom_45 : decode cX9_playsFrom 45 = .ok (.getfield 43, 3) := by decide +kernel
theorem dX9_playsFrom_48 : decode cX9_playsFrom 48 = .ok (.iload_n 3, 1) := by decide +kernel
theorem dX9_playsFrom_49 : decode cX9_playsFrom 49 = .ok (.iaload, 1) := by decide +kernel
theorem dX9_playsFrom_50 : decode cX9_playsFrom 50 = .ok (.bipush 12, 2) := by decide +kernel
theorem dX9_playsFrom_52 : decode cX9_playsFrom 52 = .ok (.if_icmp .ge 20, 3) := by decide +kernel
theorem dX9_playsFrom_55 : decode cX9_playsFrom 55 = .ok (.iload_n 3, 1) := by decide +kernel
theorem dX9_playsFrom_56 : decode cX9_playsFrom 56 = .ok (.iconst 2, 1) := by decide +kernel
theorem dX9_playsFrom_57 : decode cX9_playsFrom 57 = .ok (.irem, 1) := by decide +kernel
theorem dX9_playsFrom_58 : decode cX9_playsFrom 58 = .ok (.iconst 1, 1) := by decide +kernel
theorem dX9_playsFrom_59 : decode cX9_playsFrom 59 = .ok (.if_icmp .ne 13, 3) := by decide +kernel
theorem dX9_playsFrom_62 : decode cX9_playsFrom 62 = .ok (.aload_n 0, 1) := by decide +kernel
theorem dX9_playsFrom_63 : decode cX9_playsFrom 63 = .ok (.aload_n 0, 1) := by decide +kernel
theorem dX9_playsFrom_64 : decode cX9_playsFrom 64 = .ok (.getfield 43, 3) := by decide +kernel
theorem dX9_playsFrom_67 : decode cX9_playsFrom 67 = .ok (.iload_n 3, 1) := by decide +kernel
theorem dX9_playsFrom_68 : decode cX9_playsFrom 68 = .ok (.iaload, 1) := by decide +kernel
theorem dX9_playsFrom_69 : decode cX9_playsFrom 69 = .ok (.invokevirtual 276, 3) := by decide +kernel
theorem dX9_playsFrom_72 : decode cX9_playsFrom 72 = .ok (.iinc 3 1, 3) := by decide +kernel
theorem dX9_playsFrom_75 : decode cX9_playsFrom 75 = .ok (.goto (-64), 3) := by decide +kernel
theorem dX9_playsFrom_78 : decode cX9_playsFrom 78 = .ok (.aload_n 0, 1) := by decide +kernel
theorem dX9_playsFrom_79 : decode cX9_playsFrom 79 = .ok (.invokevirtual 256, 3) := by decide +kernel
theorem dX9_playsFrom_82 : decode cX9_playsFrom 82 = .ok (.ireturn, 1) := by decide +kernel
theorem dX9_playsFrom_83 : decode cX9_playsFrom 83 = .ok (.aload_n 0, 1) := by decide +kernel
theorem dX9_playsFrom_84 : decode cX9_playsFrom 84 = .ok (.getfield 43, 3) := by decide +kernel
theorem dX9_playsFrom_87 : decode cX9_playsFrom 87 = .ok (.iload_n 1, 1) := by decide +kernel
theorem dX9_playsFrom_88 : decode cX9_playsFrom 88 = .ok (.bipush 12, 2) := by decide +kernel
theorem dX9_playsFrom_90 : decode cX9_playsFrom 90 = .ok (.iastore, 1) := by decide +kernel
theorem dX9_playsFrom_91 : decode cX9_playsFrom 91 = .ok (.aload_n 0, 1) := by decide +kernel
theorem dX9_playsFrom_92 : decode cX9_playsFrom 92 = .ok (.iload_n 1, 1) := by decide +kernel
theorem dX9_playsFrom_93 : decode cX9_playsFrom 93 = .ok (.iconst 1, 1) := by decide +kernel
theorem dX9_playsFrom_94 : decode cX9_playsFrom 94 = .ok (.iadd, 1) := by decide +kernel
theorem dX9_playsFrom_95 : decode cX9_playsFrom 95 = .ok (.iload_n 2, 1) := by decide +kernel
theorem dX9_playsFrom_96 : decode cX9_playsFrom 96 = .ok (.invokevirtual 302, 3) := by decide +kernel
theorem dX9_playsFrom_99 : decode cX9_playsFrom 99 = .ok (.istore_n 3, 1) := by decide +kernel
theorem dX9_playsFrom_100 : decode cX9_playsFrom 100 = .ok (.iconst 0, 1) := by decide +kernel
theorem dX9_playsFrom_101 : decode cX9_playsFrom 101 = .ok (.istore 4, 2) := by decide +kernel
theorem dX9_playsFrom_103 : decode cX9_playsFrom 103 = .ok (.iload 4, 2) := by decide +kernel
theorem dX9_playsFrom_105 : decode cX9_playsFrom 105 = .ok (.bipush 6, 2) := by decide +kernel
theorem dX9_playsFrom_107 : decode cX9_playsFrom 107 = .ok (.if_icmp .ge 75, 3) := by decide +kernel
theorem dX9_playsFrom_110 : decode cX9_playsFrom 110 = .ok (.aload_n 0, 1) := by decide +kernel
theorem dX9_playsFrom_111 : decode cX9_playsFrom 111 = .ok (.getfield 43, 3) := by decide +kernel
theorem dX9_playsFrom_114 : decode cX9_playsFrom 114 = .ok (.iload_n 1, 1) := by decide +kernel
theorem dX9_playsFrom_115 : decode cX9_playsFrom 115 = .ok (.iload_n 1, 1) := by decide +kernel
theorem dX9_playsFrom_116 : decode cX9_playsFrom 116 = .ok (.iconst 2, 1) := by decide +kernel
theorem dX9_playsFrom_117 : decode cX9_playsFrom 117 = .ok (.irem, 1) := by decide +kernel
theorem dX9_playsFrom_118 : decode cX9_playsFrom 118 = .ok (.ifCond .ne 8, 3) := by decide +kernel
theorem dX9_playsFrom_121 : decode cX9_playsFrom 121 = .ok (.iload 4, 2) := by decide +kernel
theorem dX9_playsFrom_123 : decode cX9_playsFrom 123 = .ok (.goto 8, 3) := by decide +kernel
theorem dX9_playsFrom_126 : decode cX9_playsFrom 126 = .ok (.bipush 6, 2) := by decide +kernel
theorem dX9_playsFrom_128 : decode cX9_playsFrom 128 = .ok (.iload 4, 2) := by decide +kernel
theorem dX9_playsFrom_130 : decode cX9_playsFrom 130 = .ok (.iadd, 1) := by decide +kernel
theorem dX9_playsFrom_131 : decode cX9_playsFrom 131 = .ok (.iastore, 1) := by decide +kernel
theorem dX9_playsFrom_132 : decode cX9_playsFrom 132 = .ok (.aload_n 0, 1) := by decide +kernel
theorem dX9_playsFrom_133 : decode cX9_playsFrom 133 = .ok (.iload_n 1, 1) := by decide +kernel
theorem dX9_playsFrom_134 : decode cX9_playsFrom 134 = .ok (.iconst 1, 1) := by decide +kernel
theorem dX9_playsFrom_135 : decode cX9_playsFrom 135 = .ok (.iadd, 1) := by decide +kernel
theorem dX9_playsFrom_136 : decode cX9_playsFrom 136 = .ok (.iload_n 2, 1) := by decide +kernel
theorem dX9_playsFrom_137 : decode cX9_playsFrom 137 = .ok (.invokevirtual 302, 3) := by decide +kernel
theorem dX9_playsFrom_140 : decode cX9_playsFrom 140 = .ok (.istore 5, 2) := by decide +kernel
theorem dX9_playsFrom_142 : decode cX9_playsFrom 142 = .ok (.iload_n 1, 1) := by decide +kernel
theorem dX9_playsFrom_143 : decode cX9_playsFrom 143 = .ok (.iconst 2, 1) := by decide +kernel
theorem dX9_playsFrom_144 : decode cX9_playsFrom 144 = .ok (.irem, 1) := by decide +kernel
theorem dX9_playsFrom_145 : decode cX9_playsFrom 145 = .ok (.ifCond .ne 18, 3) := by decide +kernel
theorem dX9_playsFrom_148 : decode cX9_playsFrom 148 = .ok (.iload 5, 2) := by decide +kernel
theorem dX9_playsFrom_150 : decode cX9_playsFrom 150 = .ok (.iload_n 3, 1) := by decide +kernel
theorem dX9_playsFrom_151 : decode cX9_playsFrom 151 = .ok (.if_icmp .ge 8, 3) := by decide +kernel
theorem dX9_playsFrom_154 : decode cX9_playsFrom 154 = .ok (.iload 5, 2) := by decide +kernel
theorem dX9_playsFrom_156 : decode cX9_playsFrom 156 = .ok (.goto 19, 3) := by decide +kernel
theorem dX9_playsFrom_159 : decode cX9_playsFrom 159 = .ok (.iload_n 3, 1) := by decide +kernel
theorem dX9_playsFrom_160 : decode cX9_playsFrom 160 = .ok (.goto 15, 3) := by decide +kernel
theorem dX9_playsFrom_163 : decode cX9_playsFrom 163 = .ok (.iload 5, 2) := by decide +kernel
theorem dX9_playsFrom_165 : decode cX9_playsFrom 165 = .ok (.iload_n 3, 1) := by decide +kernel
theorem dX9_playsFrom_166 : decode cX9_playsFrom 166 = .ok (.if_icmp .le 8, 3) := by decide +kernel
theorem dX9_playsFrom_169 : decode cX9_playsFrom 169 = .ok (.iload 5, 2) := by decide +kernel
theorem dX9_playsFrom_171 : decode cX9_playsFrom 171 = .ok (.goto 4, 3) := by decide +kernel
theorem dX9_playsFrom_174 : decode cX9_playsFrom 174 = .ok (.iload_n 3, 1) := by decide +kernel
theorem dX9_playsFrom_175 : decode cX9_playsFrom 175 = .ok (.istore_n 3, 1) := by decide +kernel
theorem dX9_playsFrom_176 : decode cX9_playsFrom 176 = .ok (.iinc 4 1, 3) := by decide +kernel
theorem dX9_playsFrom_179 : decode cX9_playsFrom 179 = .ok (.goto (-76), 3) := by decide +kernel
theorem dX9_playsFrom_182 : decode cX9_playsFrom 182 = .ok (.iload_n 3, 1) := by decide +kernel
theorem dX9_playsFrom_183 : decode cX9_playsFrom 183 = .ok (.ireturn, 1) := by decide +kernel
theorem dX9_byTurns_0 : decode cX9_byTurns 0 = .ok (.iload_n 1, 1) := by decide +kernel
theorem dX9_byTurns_1 : decode cX9_byTurns 1 = .ok (.i2l, 1) := by decide +kernel
theorem dX9_byTurns_2 : decode cX9_byTurns 2 = .ok (.lconst 1, 1) := by decide +kernel
theorem dX9_byTurns_3 : decode cX9_byTurns 3 = .ok (.ldc2_w 125, 3) := by decide +kernel
theorem dX9_byTurns_6 : decode cX9_byTurns 6 = .ok (.invokestatic 98, 3) := by decide +kernel
theorem dX9_byTurns_9 : decode cX9_byTurns 9 = .ok (.ifCond .eq 13, 3) := by decide +kernel
theorem dX9_byTurns_12 : decode cX9_byTurns 12 = .ok (.iload_n 2, 1) := by decide +kernel
theorem dX9_byTurns_13 : decode cX9_byTurns 13 = .ok (.i2l, 1) := by decide +kernel
theorem dX9_byTurns_14 : decode cX9_byTurns 14 = .ok (.lconst 0, 1) := by decide +kernel
theorem dX9_byTurns_15 : decode cX9_byTurns 15 = .ok (.lconst 1, 1) := by decide +kernel
theorem dX9_byTurns_16 : decode cX9_byTurns 16 = .ok (.invokestatic 98, 3) := by decide +kernel
theorem dX9_byTurns_19 : decode cX9_byTurns 19 = .ok (.ifCond .ne 5, 3) := by decide +kernel
theorem dX9_byTurns_22 : decode cX9_byTurns 22 = .ok (.iconst (-1), 1) := by decide +kernel
theorem dX9_byTurns_23 : decode cX9_byTurns 23 = .ok (.ireturn, 1) := by decide +kernel
theorem dX9_byTurns_24 : decode cX9_byTurns 24 = .ok (.aload_n 0, 1) := by decide +kernel
theorem dX9_byTurns_25 : decode cX9_byTurns 25 = .ok (.iconst 0, 1) := by decide +kernel
theorem dX9_byTurns_26 : decode cX9_byTurns 26 = .ok (.iload_n 1, 1) := by decide +kernel
theorem dX9_byTurns_27 : decode cX9_byTurns 27 = .ok (.invokevirtual 302, 3) := by decide +kernel
theorem dX9_byTurns_30 : decode cX9_byTurns 30 = .ok (.istore_n 3, 1) := by decide +kernel
theorem dX9_byTurns_31 : decode cX9_byTurns 31 = .ok (.iload_n 2, 1) := by decide +kernel
theorem dX9_byTurns_32 : decode cX9_byTurns 32 = .ok (.ifCond .ne 5, 3) := by decide +kernel
theorem dX9_byTurns_35 : decode cX9_byTurns 35 = .ok (.iload_n 3, 1) := by decide +kernel
theorem dX9_byTurns_36 : decode cX9_byTurns 36 = .ok (.ireturn, 1) := by decide +kernel
theorem dX9_byTurns_37 : decode cX9_byTurns 37 = .ok (.iconst (-1), 1) := by decide +kernel
theorem dX9_byTurns_38 : decode cX9_byTurns 38 = .ok (.istore 4, 2) := by decide +kernel
theorem dX9_byTurns_40 : decode cX9_byTurns 40 = .ok (.iconst 0, 1) := by decide +kernel
theorem dX9_byTurns_41 : decode cX9_byTurns 41 = .ok (.istore 5, 2) := by decide +kernel
theorem dX9_byTurns_43 : decode cX9_byTurns 43 = .ok (.iload 5, 2) := by decide +kernel
theorem dX9_byTurns_45 : decode cX9_byTurns 45 = .ok (.bipush 6, 2) := by decide +kernel
theorem dX9_byTurns_47 : decode cX9_byTurns 47 = .ok (.if_icmp .gt 64, 3) := by decide +kernel
theorem dX9_byTurns_50 : decode cX9_byTurns 50 = .ok (.iload 4, 2) := by decide +kernel
theorem dX9_byTurns_52 : decode cX9_byTurns 52 = .ok (.ifCond .ge 59, 3) := by decide +kernel
theorem dX9_byTurns_55 : decode cX9_byTurns 55 = .ok (.aload_n 0, 1) := by decide +kernel
theorem dX9_byTurns_56 : decode cX9_byTurns 56 = .ok (.getfield 43, 3) := by decide +kernel
theorem dX9_byTurns_59 : decode cX9_byTurns 59 = .ok (.iconst 0, 1) := by decide +kernel
theorem dX9_byTurns_60 : decode cX9_byTurns 60 = .ok (.iload 5, 2) := by decide +kernel
theorem dX9_byTurns_62 : decode cX9_byTurns 62 = .ok (.ifCond .ne 8, 3) := by decide +kernel
theorem dX9_byTurns_65 : decode cX9_byTurns 65 = .ok (.bipush 12, 2) := by decide +kernel
theorem dX9_byTurns_67 : decode cX9_byTurns 67 = .ok (.goto 7, 3) := by decide +kernel
theorem dX9_byTurns_70 : decode cX9_byTurns 70 = .ok (.iload 5, 2) := by decide +kernel
theorem dX9_byTurns_72 : decode cX9_byTurns 72 = .ok (.iconst 1, 1) := by decide +kernel
theorem dX9_byTurns_73 : decode cX9_byTurns 73 = .ok (.isub, 1) := by decide +kernel
theorem dX9_byTurns_74 : decode cX9_byTurns 74 = .ok (.iastore, 1) := by decide +kernel
theorem dX9_byTurns_75 : decode cX9_byTurns 75 = .ok (.aload_n 0, 1) := by decide +kernel
theorem dX9_byTurns_76 : decode cX9_byTurns 76 = .ok (.iconst 1, 1) := by decide +kernel
theorem dX9_byTurns_77 : decode cX9_byTurns 77 = .ok (.iload_n 1, 1) := by decide +kernel
theorem dX9_byTurns_78 : decode cX9_byTurns 78 = .ok (.invokevirtual 302, 3) := by decide +kernel
theorem dX9_byTurns_81 : decode cX9_byTurns 81 = .ok (.iload_n 3, 1) := by decide +kernel
theorem dX9_byTurns_82 : decode cX9_byTurns 82 = .ok (.if_icmp .ne 20, 3) := by decide +kernel
theorem dX9_byTurns_85 : decode cX9_byTurns 85 = .ok (.iload 5, 2) := by decide +kernel
theorem dX9_byTurns_87 : decode cX9_byTurns 87 = .ok (.ifCond .ne 8, 3) := by decide +kernel
theorem dX9_byTurns_90 : decode cX9_byTurns 90 = .ok (.bipush 12, 2) := by decide +kernel
theorem dX9_byTurns_92 : decode cX9_byTurns 92 = .ok (.goto 11, 3) := by decide +kernel
theorem dX9_byTurns_95 : decode cX9_byTurns 95 = .ok (.iload 5, 2) := by decide +kernel
theorem dX9_byTurns_97 : decode cX9_byTurns 97 = .ok (.iconst 1, 1) := by decide +kernel
theorem dX9_byTurns_98 : decode cX9_byTurns 98 = .ok (.isub, 1) := by decide +kernel
theorem dX9_byTurns_99 : decode cX9_byTurns 99 = .ok (.goto 4, 3) := by decide +kernel
theorem dX9_byTurns_102 : decode cX9_byTurns 102 = .ok (.iconst (-1), 1) := by decide +kernel
theorem dX9_byTurns_103 : decode cX9_byTurns 103 = .ok (.istore 4, 2) := by decide +kernel
theorem dX9_byTurns_105 : decode cX9_byTurns 105 = .ok (.iinc 5 1, 3) := by decide +kernel
theorem dX9_byTurns_108 : decode cX9_byTurns 108 = .ok (.goto (-65), 3) := by decide +kernel
theorem dX9_byTurns_111 : decode cX9_byTurns 111 = .ok (.iload 4, 2) := by decide +kernel
theorem dX9_byTurns_113 : decode cX9_byTurns 113 = .ok (.ireturn, 1) := by decide +kernel
theorem dX9_drawn_0 : decode cX9_drawn 0 = .ok (.iload_n 2, 1) := by decide +kernel
theorem dX9_drawn_1 : decode cX9_drawn 1 = .ok (.ifCond .lt 66, 3) := by decide +kernel
theorem dX9_drawn_4 : decode cX9_drawn 4 = .ok (.iload_n 2, 1) := by decide +kernel
theorem dX9_drawn_5 : decode cX9_drawn 5 = .ok (.sipush 10000, 3) := by decide +kernel
theorem dX9_drawn_8 : decode cX9_drawn 8 = .ok (.idiv, 1) := by decide +kernel
theorem dX9_drawn_9 : decode cX9_drawn 9 = .ok (.i2l, 1) := by decide +kernel
theorem dX9_drawn_10 : decode cX9_drawn 10 = .ok (.lconst 1, 1) := by decide +kernel
theorem dX9_drawn_11 : decode cX9_drawn 11 = .ok (.ldc2_w 305, 3) := by decide +kernel
theorem dX9_drawn_14 : decode cX9_drawn 14 = .ok (.invokestatic 98, 3) := by decide +kernel
theorem dX9_drawn_17 : decode cX9_drawn 17 = .ok (.ifCond .eq 50, 3) := by decide +kernel
theorem dX9_drawn_20 : decode cX9_drawn 20 = .ok (.iload_n 2, 1) := by decide +kernel
theorem dX9_drawn_21 : decode cX9_drawn 21 = .ok (.bipush 100, 2) := by decide +kernel
theorem dX9_drawn_23 : decode cX9_drawn 23 = .ok (.idiv, 1) := by decide +kernel
theorem dX9_drawn_24 : decode cX9_drawn 24 = .ok (.bipush 100, 2) := by decide +kernel
theorem dX9_drawn_26 : decode cX9_drawn 26 = .ok (.irem, 1) := by decide +kernel
theorem dX9_drawn_27 : decode cX9_drawn 27 = .ok (.i2l, 1) := by decide +kernel
theorem dX9_drawn_28 : decode cX9_drawn 28 = .ok (.lconst 1, 1) := by decide +kernel
theorem dX9_drawn_29 : decode cX9_drawn 29 = .ok (.ldc2_w 248, 3) := by decide +kernel
theorem dX9_drawn_32 : decode cX9_drawn 32 = .ok (.invokestatic 98, 3) := by decide +kernel
theorem dX9_drawn_35 : decode cX9_drawn 35 = .ok (.ifCond .eq 32, 3) := by decide +kernel
theorem dX9_drawn_38 : decode cX9_drawn 38 = .ok (.iload_n 2, 1) := by decide +kernel
theorem dX9_drawn_39 : decode cX9_drawn 39 = .ok (.bipush 100, 2) := by decide +kernel
theorem dX9_drawn_41 : decode cX9_drawn 41 = .ok (.irem, 1) := by decide +kernel
theorem dX9_drawn_42 : decode cX9_drawn 42 = .ok (.i2l, 1) := by decide +kernel
theorem dX9_drawn_43 : decode cX9_drawn 43 = .ok (.lconst 0, 1) := by decide +kernel
theorem dX9_drawn_44 : decode cX9_drawn 44 = .ok (.ldc2_w 307, 3) := by decide +kernel
theorem dX9_drawn_47 : decode cX9_drawn 47 = .ok (.invokestatic 98, 3) := by decide +kernel
theorem dX9_drawn_50 : decode cX9_drawn 50 = .ok (.ifCond .eq 17, 3) := by decide +kernel
theorem dX9_drawn_53 : decode cX9_drawn 53 = .ok (.iload_n 3, 1) := by decide +kernel
theorem dX9_drawn_54 : decode cX9_drawn 54 = .ok (.iconst (-1), 1) := by decide +kernel
theorem dX9_drawn_55 : decode cX9_drawn 55 = .ok (.if_icmp .eq 14, 3) := by decide +kernel
theorem dX9_drawn_58 : decode cX9_drawn 58 = .ok (.aload_n 0, 1) := by decide +kernel
theorem dX9_drawn_59 : decode cX9_drawn 59 = .ok (.iload_n 3, 1) := by decide +kernel
theorem dX9_drawn_60 : decode cX9_drawn 60 = .ok (.i2l, 1) := by decide +kernel
theorem dX9_drawn_61 : decode cX9_drawn 61 = .ok (.invokevirtual 127, 3) := by decide +kernel
theorem dX9_drawn_64 : decode cX9_drawn 64 = .ok (.ifCond .ne 5, 3) := by decide +kernel
theorem dX9_drawn_67 : decode cX9_drawn 67 = .ok (.iconst (-1), 1) := by decide +kernel
theorem dX9_drawn_68 : decode cX9_drawn 68 = .ok (.ireturn, 1) := by decide +kernel
theorem dX9_drawn_69 : decode cX9_drawn 69 = .ok (.iload_n 1, 1) := by decide +kernel
theorem dX9_drawn_70 : decode cX9_drawn 70 = .ok (.istore 4, 2) := by decide +kernel
theorem dX9_drawn_72 : decode cX9_drawn 72 = .ok (.iconst 0, 1) := by decide +kernel
theorem dX9_drawn_73 : decode cX9_drawn 73 = .ok (.istore 5, 2) := by decide +kernel
theorem dX9_drawn_75 : decode cX9_drawn 75 = .ok (.iconst 0, 1) := by decide +kernel
theorem dX9_drawn_76 : decode cX9_drawn 76 = .ok (.istore 6, 2) := by decide +kernel
theorem dX9_drawn_78 : decode cX9_drawn 78 = .ok (.iload 6, 2) := by decide +kernel
theorem dX9_drawn_80 : decode cX9_drawn 80 = .ok (.iload_n 2, 1) := by decide +kernel
theorem dX9_drawn_81 : decode cX9_drawn 81 = .ok (.sipush 10000, 3) := by decide +kernel
theorem dX9_drawn_84 : decode cX9_drawn 84 = .ok (.idiv, 1) := by decide +kernel
theorem dX9_drawn_85 : decode cX9_drawn 85 = .ok (.if_icmp .ge 111, 3) := by decide +kernel
theorem dX9_drawn_88 : decode cX9_drawn 88 = .ok (.aload_n 0, 1) := by decide +kernel
theorem dX9_drawn_89 : decode cX9_drawn 89 = .ok (.invokevirtual 233, 3) := by decide +kernel
theorem dX9_drawn_92 : decode cX9_drawn 92 = .ok (.iconst 0, 1) := by decide +kernel
theorem dX9_drawn_93 : decode cX9_drawn 93 = .ok (.istore 7, 2) := by decide +kernel
theorem dX9_drawn_95 : decode cX9_drawn 95 = .ok (.iload 7, 2) := by decide +kernel
theorem dX9_drawn_97 : decode cX9_drawn 97 = .ok (.iload_n 2, 1) := by decide +kernel
theorem dX9_drawn_98 : decode cX9_drawn 98 = .ok (.bipush 100, 2) := by decide +kernel
theorem dX9_drawn_100 : decode cX9_drawn 100 = .ok (.idiv, 1) := by decide +kernel
theorem dX9_drawn_101 : decode cX9_drawn 101 = .ok (.bipush 100, 2) := by decide +kernel
theorem dX9_drawn_103 : decode cX9_drawn 103 = .ok (.irem, 1) := by decide +kernel
theorem dX9_drawn_104 : decode cX9_drawn 104 = .ok (.if_icmp .ge 64, 3) := by decide +kernel
theorem dX9_drawn_107 : decode cX9_drawn 107 = .ok (.iload 4, 2) := by decide +kernel
theorem dX9_drawn_109 : decode cX9_drawn 109 = .ok (.ldc_w 309, 3) := by decide +kernel
theorem dX9_drawn_112 : decode cX9_drawn 112 = .ok (.imul, 1) := by decide +kernel
theorem dX9_drawn_113 : decode cX9_drawn 113 = .ok (.sipush 12345, 3) := by decide +kernel
theorem dX9_drawn_116 : decode cX9_drawn 116 = .ok (.iadd, 1) := by decide +kernel
theorem dX9_drawn_117 : decode cX9_drawn 117 = .ok (.istore 4, 2) := by decide +kernel
theorem dX9_drawn_119 : decode cX9_drawn 119 = .ok (.aload_n 0, 1) := by decide +kernel
theorem dX9_drawn_120 : decode cX9_drawn 120 = .ok (.iload 4, 2) := by decide +kernel
theorem dX9_drawn_122 : decode cX9_drawn 122 = .ok (.bipush 8, 2) := by decide +kernel
theorem dX9_drawn_124 : decode cX9_drawn 124 = .ok (.iushr, 1) := by decide +kernel
theorem dX9_drawn_125 : decode cX9_drawn 125 = .ok (.bipush 12, 2) := by decide +kernel
theorem dX9_drawn_127 : decode cX9_drawn 127 = .ok (.irem, 1) := by decide +kernel
theorem dX9_drawn_128 : decode cX9_drawn 128 = .ok (.putfield 204, 3) := by decide +kernel
theorem dX9_drawn_131 : decode cX9_drawn 131 = .ok (.iload 4, 2) := by decide +kernel
theorem dX9_drawn_133 : decode cX9_drawn 133 = .ok (.bipush 20, 2) := by decide +kernel
theorem dX9_drawn_135 : decode cX9_drawn 135 = .ok (.iushr, 1) := by decide +kernel
theorem dX9_drawn_136 : decode cX9_drawn 136 = .ok (.bipush 12, 2) := by decide +kernel
theorem dX9_drawn_138 : decode cX9_drawn 138 = .ok (.irem, 1) := by decide +kernel
theorem dX9_drawn_139 : decode cX9_drawn 139 = .ok (.iload_n 2, 1) := by decide +kernel
theorem dX9_drawn_140 : decode cX9_drawn 140 = .ok (.bipush 100, 2) := by decide +kernel
theorem dX9_drawn_142 : decode cX9_drawn 142 = .ok (.irem, 1) := by decide +kernel
theorem dX9_drawn_143 : decode cX9_drawn 143 = .ok (.if_icmp .ge 15, 3) := by decide +kernel
theorem dX9_drawn_146 : decode cX9_drawn 146 = .ok (.aload_n 0, 1) := by decide +kernel
theorem dX9_drawn_147 : decode cX9_drawn 147 = .ok (.iload 4, 2) := by decide +kernel
theorem dX9_drawn_149 : decode cX9_drawn 149 = .ok (.bipush 16, 2) := by decide +kernel
theorem dX9_drawn_151 : decode cX9_drawn 151 = .ok (.iushr, 1) := by decide +kernel
theorem dX9_drawn_152 : decode cX9_drawn 152 = .ok (.bipush 12, 2) := by decide +kernel
theorem dX9_drawn_154 : decode cX9_drawn 154 = .ok (.irem, 1) := by decide +kernel
theorem dX9_drawn_155 : decode cX9_drawn 155 = .ok (.invokevirtual 276, 3) := by decide +kernel
theorem dX9_drawn_158 : decode cX9_drawn 158 = .ok (.aload_n 0, 1) := by decide +kernel
theorem dX9_drawn_159 : decode cX9_drawn 159 = .ok (.invokevirtual 236, 3) := by decide +kernel
theorem dX9_drawn_162 : decode cX9_drawn 162 = .ok (.iinc 7 1, 3) := by decide +kernel
theorem dX9_drawn_165 : decode cX9_drawn 165 = .ok (.goto (-70), 3) := by decide +kernel
theorem dX9_drawn_168 : decode cX9_drawn 168 = .ok (.iload 5, 2) := by decide +kernel
theorem dX9_drawn_170 : decode cX9_drawn 170 = .ok (.iload_n 3, 1) := by decide +kernel
theorem dX9_drawn_171 : decode cX9_drawn 171 = .ok (.ifCond .ge 10, 3) := by decide +kernel
theorem dX9_drawn_174 : decode cX9_drawn 174 = .ok (.aload_n 0, 1) := by decide +kernel
theorem dX9_drawn_175 : decode cX9_drawn 175 = .ok (.invokevirtual 256, 3) := by decide +kernel
theorem dX9_drawn_178 : decode cX9_drawn 178 = .ok (.goto 9, 3) := by decide +kernel
theorem dX9_drawn_181 : decode cX9_drawn 181 = .ok (.aload_n 0, 1) := by decide +kernel
theorem dX9_drawn_182 : decode cX9_drawn 182 = .ok (.getfield 34, 3) := by decide +kernel
theorem dX9_drawn_185 : decode cX9_drawn 185 = .ok (.iload_n 3, 1) := by decide +kernel
theorem dX9_drawn_186 : decode cX9_drawn 186 = .ok (.iaload, 1) := by decide +kernel
theorem dX9_drawn_187 : decode cX9_drawn 187 = .ok (.iadd, 1) := by decide +kernel
theorem dX9_drawn_188 : decode cX9_drawn 188 = .ok (.istore 5, 2) := by decide +kernel
theorem dX9_drawn_190 : decode cX9_drawn 190 = .ok (.iinc 6 1, 3) := by decide +kernel
theorem dX9_drawn_193 : decode cX9_drawn 193 = .ok (.goto (-115), 3) := by decide +kernel
theorem dX9_drawn_196 : decode cX9_drawn 196 = .ok (.iload 5, 2) := by decide +kernel
theorem dX9_drawn_198 : decode cX9_drawn 198 = .ok (.ireturn, 1) := by decide +kernel
theorem dX9_keepsMind_0 : decode cX9_keepsMind 0 = .ok (.iconst 0, 1) := by decide +kernel
theorem dX9_keepsMind_1 : decode cX9_keepsMind 1 = .ok (.istore_n 1, 1) := by decide +kernel
theorem dX9_keepsMind_2 : decode cX9_keepsMind 2 = .ok (.iload_n 1, 1) := by decide +kernel
theorem dX9_keepsMind_3 : decode cX9_keepsMind 3 = .ok (.aload_n 0, 1) := by decide +kernel
theorem dX9_keepsMind_4 : decode cX9_keepsMind 4 = .ok (.getfield 95, 3) := by decide +kernel
theorem dX9_keepsMind_7 : decode cX9_keepsMind 7 = .ok (.if_icmp .ge 24, 3) := by decide +kernel
theorem dX9_keepsMind_10 : decode cX9_keepsMind 10 = .ok (.aload_n 0, 1) := by decide +kernel
theorem dX9_keepsMind_11 : decode cX9_keepsMind 11 = .ok (.getfield 9, 3) := by decide +kernel
theorem dX9_keepsMind_14 : decode cX9_keepsMind 14 = .ok (.bipush 30, 2) := by decide +kernel
theorem dX9_keepsMind_16 : decode cX9_keepsMind 16 = .ok (.iload_n 1, 1) := by decide +kernel
theorem dX9_keepsMind_17 : decode cX9_keepsMind 17 = .ok (.iadd, 1) := by decide +kernel
theorem dX9_keepsMind_18 : decode cX9_keepsMind 18 = .ok (.aload_n 0, 1) := by decide +kernel
theorem dX9_keepsMind_19 : decode cX9_keepsMind 19 = .ok (.getfield 34, 3) := by decide +kernel
theorem dX9_keepsMind_22 : decode cX9_keepsMind 22 = .ok (.iload_n 1, 1) := by decide +kernel
theorem dX9_keepsMind_23 : decode cX9_keepsMind 23 = .ok (.iaload, 1) := by decide +kernel
theorem dX9_keepsMind_24 : decode cX9_keepsMind 24 = .ok (.iastore, 1) := by decide +kernel
theorem dX9_keepsMind_25 : decode cX9_keepsMind 25 = .ok (.iinc 1 1, 3) := by decide +kernel
theorem dX9_keepsMind_28 : decode cX9_keepsMind 28 = .ok (.goto (-26), 3) := by decide +kernel
theorem dX9_keepsMind_31 : decode cX9_keepsMind 31 = .ok (.return_, 1) := by decide +kernel
theorem dX9_hour_0 : decode cX9_hour 0 = .ok (.iload_n 1, 1) := by decide +kernel
theorem dX9_hour_1 : decode cX9_hour 1 = .ok (.i2l, 1) := by decide +kernel
theorem dX9_hour_2 : decode cX9_hour 2 = .ok (.invokestatic 104, 3) := by decide +kernel
theorem dX9_hour_5 : decode cX9_hour 5 = .ok (.ifCond .ne 5, 3) := by decide +kernel
theorem dX9_hour_8 : decode cX9_hour 8 = .ok (.iconst (-1), 1) := by decide +kernel
theorem dX9_hour_9 : decode cX9_hour 9 = .ok (.ireturn, 1) := by decide +kernel
theorem dX9_hour_10 : decode cX9_hour 10 = .ok (.aload_n 0, 1) := by decide +kernel
theorem dX9_hour_11 : decode cX9_hour 11 = .ok (.invokevirtual 233, 3) := by decide +kernel
theorem dX9_hour_14 : decode cX9_hour 14 = .ok (.aload_n 0, 1) := by decide +kernel
theorem dX9_hour_15 : decode cX9_hour 15 = .ok (.invokevirtual 226, 3) := by decide +kernel
theorem dX9_hour_18 : decode cX9_hour 18 = .ok (.istore_n 2, 1) := by decide +kernel
theorem dX9_hour_19 : decode cX9_hour 19 = .ok (.aload_n 0, 1) := by decide +kernel
theorem dX9_hour_20 : decode cX9_hour 20 = .ok (.iload_n 1, 1) := by decide +kernel
theorem dX9_hour_21 : decode cX9_hour 21 = .ok (.putfield 204, 3) := by decide +kernel
theorem dX9_hour_24 : decode cX9_hour 24 = .ok (.aload_n 0, 1) := by decide +kernel
theorem dX9_hour_25 : decode cX9_hour 25 = .ok (.invokevirtual 236, 3) := by decide +kernel
theorem dX9_hour_28 : decode cX9_hour 28 = .ok (.aload_n 0, 1) := by decide +kernel
theorem dX9_hour_29 : decode cX9_hour 29 = .ok (.invokevirtual 310, 3) := by decide +kernel
theorem dX9_hour_32 : decode cX9_hour 32 = .ok (.aload_n 0, 1) := by decide +kernel
theorem dX9_hour_33 : decode cX9_hour 33 = .ok (.getfield 9, 3) := by decide +kernel
theorem dX9_hour_36 : decode cX9_hour 36 = .ok (.bipush 50, 2) := by decide +kernel
theorem dX9_hour_38 : decode cX9_hour 38 = .ok (.aload_n 0, 1) := by decide +kernel
theorem dX9_hour_39 : decode cX9_hour 39 = .ok (.getfield 201, 3) := by decide +kernel
theorem dX9_hour_42 : decode cX9_hour 42 = .ok (.iastore, 1) := by decide +kernel
theorem dX9_hour_43 : decode cX9_hour 43 = .ok (.aload_n 0, 1) := by decide +kernel
theorem dX9_hour_44 : decode cX9_hour 44 = .ok (.getfield 9, 3) := by decide +kernel
theorem dX9_hour_47 : decode cX9_hour 47 = .ok (.bipush 52, 2) := by decide +kernel
theorem dX9_hour_49 : decode cX9_hour 49 = .ok (.iload_n 1, 1) := by decide +kernel
theorem dX9_hour_50 : decode cX9_hour 50 = .ok (.iastore, 1) := by decide +kernel
theorem dX9_hour_51 : decode cX9_hour 51 = .ok (.aload_n 0, 1) := by decide +kernel
theorem dX9_hour_52 : decode cX9_hour 52 = .ok (.getfield 49, 3) := by decide +kernel
theorem dX9_hour_55 : decode cX9_hour 55 = .ok (.iconst 0, 1) := by decide +kernel
theorem dX9_hour_56 : decode cX9_hour 56 = .ok (.dup2, 1) := by decide +kernel
theorem dX9_hour_57 : decode cX9_hour 57 = .ok (.iaload, 1) := by decide +kernel
theorem dX9_hour_58 : decode cX9_hour 58 = .ok (.iconst 1, 1) := by decide +kernel
theorem dX9_hour_59 : decode cX9_hour 59 = .ok (.iadd, 1) := by decide +kernel
theorem dX9_hour_60 : decode cX9_hour 60 = .ok (.iastore, 1) := by decide +kernel
theorem dX9_hour_61 : decode cX9_hour 61 = .ok (.aload_n 0, 1) := by decide +kernel
theorem dX9_hour_62 : decode cX9_hour 62 = .ok (.getfield 49, 3) := by decide +kernel
theorem dX9_hour_65 : decode cX9_hour 65 = .ok (.iconst 4, 1) := by decide +kernel
theorem dX9_hour_66 : decode cX9_hour 66 = .ok (.dup2, 1) := by decide +kernel
theorem dX9_hour_67 : decode cX9_hour 67 = .ok (.iaload, 1) := by decide +kernel
theorem dX9_hour_68 : decode cX9_hour 68 = .ok (.aload_n 0, 1) := by decide +kernel
theorem dX9_hour_69 : decode cX9_hour 69 = .ok (.invokevirtual 226, 3) := by decide +kernel
theorem dX9_hour_72 : decode cX9_hour 72 = .ok (.iload_n 2, 1) := by decide +kernel
theorem dX9_hour_73 : decode cX9_hour 73 = .ok (.iconst (-1), 1) := by decide +kernel
theorem dX9_hour_74 : decode cX9_hour 74 = .ok (.ixor, 1) := by decide +kernel
theorem dX9_hour_75 : decode cX9_hour 75 = .ok (.iand, 1) := by decide +kernel
theorem dX9_hour_76 : decode cX9_hour 76 = .ok (.invokestatic 229, 3) := by decide +kernel
theorem dX9_hour_79 : decode cX9_hour 79 = .ok (.iadd, 1) := by decide +kernel
theorem dX9_hour_80 : decode cX9_hour 80 = .ok (.iastore, 1) := by decide +kernel
theorem dX9_hour_81 : decode cX9_hour 81 = .ok (.aload_n 0, 1) := by decide +kernel
theorem dX9_hour_82 : decode cX9_hour 82 = .ok (.invokevirtual 256, 3) := by decide +kernel
theorem dX9_hour_85 : decode cX9_hour 85 = .ok (.ireturn, 1) := by decide +kernel
theorem dX9_telling_0 : decode cX9_telling 0 = .ok (.iload_n 1, 1) := by decide +kernel
theorem dX9_telling_1 : decode cX9_telling 1 = .ok (.i2l, 1) := by decide +kernel
theorem dX9_telling_2 : decode cX9_telling 2 = .ok (.invokestatic 104, 3) := by decide +kernel
theorem dX9_telling_5 : decode cX9_telling 5 = .ok (.ifCond .eq 15, 3) := by decide +kernel
theorem dX9_telling_8 : decode cX9_telling 8 = .ok (.iload_n 2, 1) := by decide +kernel
theorem dX9_telling_9 : decode cX9_telling 9 = .ok (.i2l, 1) := by decide +kernel
theorem dX9_telling_10 : decode cX9_telling 10 = .ok (.lconst 0, 1) := by decide +kernel
theorem dX9_telling_11 : decode cX9_telling 11 = .ok (.ldc2_w 108, 3) := by decide +kernel
theorem dX9_telling_14 : decode cX9_telling 14 = .ok (.invokestatic 98, 3) := by decide +kernel
theorem dX9_telling_17 : decode cX9_telling 17 = .ok (.ifCond .ne 5, 3) := by decide +kernel
theorem dX9_telling_20 : decode cX9_telling 20 = .ok (.iconst (-1), 1) := by decide +kernel
theorem dX9_telling_21 : decode cX9_telling 21 = .ok (.ireturn, 1) := by decide +kernel
theorem dX9_telling_22 : decode cX9_telling 22 = .ok (.aload_n 0, 1) := by decide +kernel
theorem dX9_telling_23 : decode cX9_telling 23 = .ok (.invokevirtual 233, 3) := by decide +kernel
theorem dX9_telling_26 : decode cX9_telling 26 = .ok (.aload_n 0, 1) := by decide +kernel
theorem dX9_telling_27 : decode cX9_telling 27 = .ok (.getfield 31, 3) := by decide +kernel
theorem dX9_telling_30 : decode cX9_telling 30 = .ok (.iload_n 1, 1) := by decide +kernel
theorem dX9_telling_31 : decode cX9_telling 31 = .ok (.iaload, 1) := by decide +kernel
theorem dX9_telling_32 : decode cX9_telling 32 = .ok (.ifCond .ge 6, 3) := by decide +kernel
theorem dX9_telling_35 : decode cX9_telling 35 = .ok (.bipush (-5), 2) := by decide +kernel
theorem dX9_telling_37 : decode cX9_telling 37 = .ok (.ireturn, 1) := by decide +kernel
theorem dX9_telling_38 : decode cX9_telling 38 = .ok (.aload_n 0, 1) := by decide +kernel
theorem dX9_telling_39 : decode cX9_telling 39 = .ok (.iload_n 1, 1) := by decide +kernel
theorem dX9_telling_40 : decode cX9_telling 40 = .ok (.iload_n 2, 1) := by decide +kernel
theorem dX9_telling_41 : decode cX9_telling 41 = .ok (.invokevirtual 273, 3) := by decide +kernel
theorem dX9_telling_44 : decode cX9_telling 44 = .ok (.aload_n 0, 1) := by decide +kernel
theorem dX9_telling_45 : decode cX9_telling 45 = .ok (.invokevirtual 310, 3) := by decide +kernel
theorem dX9_telling_48 : decode cX9_telling 48 = .ok (.aload_n 0, 1) := by decide +kernel
theorem dX9_telling_49 : decode cX9_telling 49 = .ok (.getfield 49, 3) := by decide +kernel
theorem dX9_telling_52 : decode cX9_telling 52 = .ok (.iconst 1, 1) := by decide +kernel
theorem dX9_telling_53 : decode cX9_telling 53 = .ok (.dup2, 1) := by decide +kernel
theorem dX9_telling_54 : decode cX9_telling 54 = .ok (.iaload, 1) := by decide +kernel
theorem dX9_telling_55 : decode cX9_telling 55 = .ok (.iconst 1, 1) := by decide +kernel
theorem dX9_telling_56 : decode cX9_telling 56 = .ok (.iadd, 1) := by decide +kernel
theorem dX9_telling_57 : decode cX9_telling 57 = .ok (.iastore, 1) := by decide +kernel
theorem dX9_telling_58 : decode cX9_telling 58 = .ok (.aload_n 0, 1) := by decide +kernel
theorem dX9_telling_59 : decode cX9_telling 59 = .ok (.getfield 34, 3) := by decide +kernel
theorem dX9_telling_62 : decode cX9_telling 62 = .ok (.aload_n 0, 1) := by decide +kernel
theorem dX9_telling_63 : decode cX9_telling 63 = .ok (.getfield 31, 3) := by decide +kernel
theorem dX9_telling_66 : decode cX9_telling 66 = .ok (.iload_n 1, 1) := by decide +kernel
theorem dX9_telling_67 : decode cX9_telling 67 = .ok (.iaload, 1) := by decide +kernel
theorem dX9_telling_68 : decode cX9_telling 68 = .ok (.iaload, 1) := by decide +kernel
theorem dX9_telling_69 : decode cX9_telling 69 = .ok (.ireturn, 1) := by decide +kernel
theorem dX9_touch_0 : decode cX9_touch 0 = .ok (.iload_n 1, 1) := by decide +kernel
theorem dX9_touch_1 : decode cX9_touch 1 = .ok (.i2l, 1) := by decide +kernel
theorem dX9_touch_2 : decode cX9_touch 2 = .ok (.invokestatic 104, 3) := by decide +kernel
theorem dX9_touch_5 : decode cX9_touch 5 = .ok (.ifCond .ne 5, 3) := by decide +kernel
theorem dX9_touch_8 : decode cX9_touch 8 = .ok (.iconst (-1), 1) := by decide +kernel
theorem dX9_touch_9 : decode cX9_touch 9 = .ok (.ireturn, 1) := by decide +kernel
theorem dX9_touch_10 : decode cX9_touch 10 = .ok (.aload_n 0, 1) := by decide +kernel
theorem dX9_touch_11 : decode cX9_touch 11 = .ok (.invokevirtual 233, 3) := by decide +kernel
theorem dX9_touch_14 : decode cX9_touch 14 = .ok (.aload_n 0, 1) := by decide +kernel
theorem dX9_touch_15 : decode cX9_touch 15 = .ok (.getfield 31, 3) := by decide +kernel
theorem dX9_touch_18 : decode cX9_touch 18 = .ok (.iload_n 1, 1) := by decide +kernel
theorem dX9_touch_19 : decode cX9_touch 19 = .ok (.iaload, 1) := by decide +kernel
theorem dX9_touch_20 : decode cX9_touch 20 = .ok (.ifCond .ge 6, 3) := by decide +kernel
theorem dX9_touch_23 : decode cX9_touch 23 = .ok (.bipush (-5), 2) := by decide +kernel
theorem dX9_touch_25 : decode cX9_touch 25 = .ok (.ireturn, 1) := by decide +kernel
theorem dX9_touch_26 : decode cX9_touch 26 = .ok (.aload_n 0, 1) := by decide +kernel
theorem dX9_touch_27 : decode cX9_touch 27 = .ok (.invokevirtual 226, 3) := by decide +kernel
theorem dX9_touch_30 : decode cX9_touch 30 = .ok (.istore_n 2, 1) := by decide +kernel
theorem dX9_touch_31 : decode cX9_touch 31 = .ok (.aload_n 0, 1) := by decide +kernel
theorem dX9_touch_32 : decode cX9_touch 32 = .ok (.iload_n 1, 1) := by decide +kernel
theorem dX9_touch_33 : decode cX9_touch 33 = .ok (.invokevirtual 276, 3) := by decide +kernel
theorem dX9_touch_36 : decode cX9_touch 36 = .ok (.aload_n 0, 1) := by decide +kernel
theorem dX9_touch_37 : decode cX9_touch 37 = .ok (.invokevirtual 310, 3) := by decide +kernel
theorem dX9_touch_40 : decode cX9_touch 40 = .ok (.aload_n 0, 1) := by decide +kernel
theorem dX9_touch_41 : decode cX9_touch 41 = .ok (.invokevirtual 226, 3) := by decide +kernel
theorem dX9_touch_44 : decode cX9_touch 44 = .ok (.iload_n 2, 1) := by decide +kernel
theorem dX9_touch_45 : decode cX9_touch 45 = .ok (.iconst (-1), 1) := by decide +kernel
theorem dX9_touch_46 : decode cX9_touch 46 = .ok (.ixor, 1) := by decide +kernel
theorem dX9_touch_47 : decode cX9_touch 47 = .ok (.iand, 1) := by decide +kernel
theorem dX9_touch_48 : decode cX9_touch 48 = .ok (.invokestatic 229, 3) := by decide +kernel
theorem dX9_touch_51 : decode cX9_touch 51 = .ok (.istore_n 3, 1) := by decide +kernel
theorem dX9_touch_52 : decode cX9_touch 52 = .ok (.aload_n 0, 1) := by decide +kernel
theorem dX9_touch_53 : decode cX9_touch 53 = .ok (.getfield 49, 3) := by decide +kernel
theorem dX9_touch_56 : decode cX9_touch 56 = .ok (.iconst 2, 1) := by decide +kernel
theorem dX9_touch_57 : decode cX9_touch 57 = .ok (.dup2, 1) := by decide +kernel
theorem dX9_touch_58 : decode cX9_touch 58 = .ok (.iaload, 1) := by decide +kernel
theorem dX9_touch_59 : decode cX9_touch 59 = .ok (.iconst 1, 1) := by decide +kernel
theorem dX9_touch_60 : decode cX9_touch 60 = .ok (.iadd, 1) := by decide +kernel
theorem dX9_touch_61 : decode cX9_touch 61 = .ok (.iastore, 1) := by decide +kernel
theorem dX9_touch_62 : decode cX9_touch 62 = .ok (.aload_n 0, 1) := by decide +kernel
theorem dX9_touch_63 : decode cX9_touch 63 = .ok (.getfield 49, 3) := by decide +kernel
theorem dX9_touch_66 : decode cX9_touch 66 = .ok (.iconst 3, 1) := by decide +kernel
theorem dX9_touch_67 : decode cX9_touch 67 = .ok (.dup2, 1) := by decide +kernel
theorem dX9_touch_68 : decode cX9_touch 68 = .ok (.iaload, 1) := by decide +kernel
theorem dX9_touch_69 : decode cX9_touch 69 = .ok (.iload_n 3, 1) := by decide +kernel
theorem dX9_touch_70 : decode cX9_touch 70 = .ok (.iadd, 1) := by decide +kernel
theorem dX9_touch_71 : decode cX9_touch 71 = .ok (.iastore, 1) := by decide +kernel
theorem dX9_touch_72 : decode cX9_touch 72 = .ok (.iload_n 3, 1) := by decide +kernel
theorem dX9_touch_73 : decode cX9_touch 73 = .ok (.ireturn, 1) := by decide +kernel
theorem dX9_hold_0 : decode cX9_hold 0 = .ok (.aload_n 0, 1) := by decide +kernel
theorem dX9_hold_1 : decode cX9_hold 1 = .ok (.iload_n 1, 1) := by decide +kernel
theorem dX9_hold_2 : decode cX9_hold 2 = .ok (.i2l, 1) := by decide +kernel
theorem dX9_hold_3 : decode cX9_hold 3 = .ok (.invokevirtual 127, 3) := by decide +kernel
theorem dX9_hold_6 : decode cX9_hold 6 = .ok (.ifCond .eq 13, 3) := by decide +kernel
theorem dX9_hold_9 : decode cX9_hold 9 = .ok (.iload_n 2, 1) := by decide +kernel
theorem dX9_hold_10 : decode cX9_hold 10 = .ok (.i2l, 1) := by decide +kernel
theorem dX9_hold_11 : decode cX9_hold 11 = .ok (.lconst 0, 1) := by decide +kernel
theorem dX9_hold_12 : decode cX9_hold 12 = .ok (.lconst 1, 1) := by decide +kernel
theorem dX9_hold_13 : decode cX9_hold 13 = .ok (.invokestatic 98, 3) := by decide +kernel
theorem dX9_hold_16 : decode cX9_hold 16 = .ok (.ifCond .ne 5, 3) := by decide +kernel
theorem dX9_hold_19 : decode cX9_hold 19 = .ok (.iconst (-1), 1) := by decide +kernel
theorem dX9_hold_20 : decode cX9_hold 20 = .ok (.ireturn, 1) := by decide +kernel
theorem dX9_hold_21 : decode cX9_hold 21 = .ok (.aload_n 0, 1) := by decide +kernel
theorem dX9_hold_22 : decode cX9_hold 22 = .ok (.getfield 9, 3) := by decide +kernel
theorem dX9_hold_25 : decode cX9_hold 25 = .ok (.bipush 40, 2) := by decide +kernel
theorem dX9_hold_27 : decode cX9_hold 27 = .ok (.iload_n 1, 1) := by decide +kernel
theorem dX9_hold_28 : decode cX9_hold 28 = .ok (.iadd, 1) := by decide +kernel
theorem dX9_hold_29 : decode cX9_hold 29 = .ok (.iaload, 1) := by decide +kernel
theorem dX9_hold_30 : decode cX9_hold 30 = .ok (.istore_n 3, 1) := by decide +kernel
theorem dX9_hold_31 : decode cX9_hold 31 = .ok (.aload_n 0, 1) := by decide +kernel
theorem dX9_hold_32 : decode cX9_hold 32 = .ok (.getfield 9, 3) := by decide +kernel
theorem dX9_hold_35 : decode cX9_hold 35 = .ok (.bipush 40, 2) := by decide +kernel
theorem dX9_hold_37 : decode cX9_hold 37 = .ok (.iload_n 1, 1) := by decide +kernel
theorem dX9_hold_38 : decode cX9_hold 38 = .ok (.iadd, 1) := by decide +kernel
theorem dX9_hold_39 : decode cX9_hold 39 = .ok (.iload_n 2, 1) := by decide +kernel
theorem dX9_hold_40 : decode cX9_hold 40 = .ok (.iastore, 1) := by decide +kernel
theorem dX9_hold_41 : decode cX9_hold 41 = .ok (.iload_n 3, 1) := by decide +kernel
theorem dX9_hold_42 : decode cX9_hold 42 = .ok (.ireturn, 1) := by decide +kernel
theorem dX9_led_0 : decode cX9_led 0 = .ok (.iload_n 1, 1) := by decide +kernel
theorem dX9_led_1 : decode cX9_led 1 = .ok (.i2l, 1) := by decide +kernel
theorem dX9_led_2 : decode cX9_led 2 = .ok (.lconst 0, 1) := by decide +kernel
theorem dX9_led_3 : decode cX9_led 3 = .ok (.ldc2_w 125, 3) := by decide +kernel
theorem dX9_led_6 : decode cX9_led 6 = .ok (.invokestatic 98, 3) := by decide +kernel
theorem dX9_led_9 : decode cX9_led 9 = .ok (.ifCond .eq 12, 3) := by decide +kernel
theorem dX9_led_12 : decode cX9_led 12 = .ok (.aload_n 0, 1) := by decide +kernel
theorem dX9_led_13 : decode cX9_led 13 = .ok (.getfield 49, 3) := by decide +kernel
theorem dX9_led_16 : decode cX9_led 16 = .ok (.iload_n 1, 1) := by decide +kernel
theorem dX9_led_17 : decode cX9_led 17 = .ok (.iaload, 1) := by decide +kernel
theorem dX9_led_18 : decode cX9_led 18 = .ok (.goto 4, 3) := by decide +kernel
theorem dX9_led_21 : decode cX9_led 21 = .ok (.iconst (-1), 1) := by decide +kernel
theorem dX9_led_22 : decode cX9_led 22 = .ok (.ireturn, 1) := by decide +kernel
theorem dX9_image_0 : decode cX9_image 0 = .ok (.aload_n 0, 1) := by decide +kernel
theorem dX9_image_1 : decode cX9_image 1 = .ok (.iconst 1, 1) := by decide +kernel
theorem dX9_image_2 : decode cX9_image 2 = .ok (.putfield 313, 3) := by decide +kernel
theorem dX9_image_5 : decode cX9_image 5 = .ok (.aload_n 0, 1) := by decide +kernel
theorem dX9_image_6 : decode cX9_image 6 = .ok (.aload_n 0, 1) := by decide +kernel
theorem dX9_image_7 : decode cX9_image 7 = .ok (.getfield 95, 3) := by decide +kernel
theorem dX9_image_10 : decode cX9_image 10 = .ok (.putfield 317, 3) := by decide +kernel
theorem dX9_image_13 : decode cX9_image 13 = .ok (.iconst 0, 1) := by decide +kernel
theorem dX9_image_14 : decode cX9_image 14 = .ok (.istore_n 1, 1) := by decide +kernel
theorem dX9_image_15 : decode cX9_image 15 = .ok (.iload_n 1, 1) := by decide +kernel
theorem dX9_image_16 : decode cX9_image 16 = .ok (.bipush 52, 2) := by decide +kernel
theorem dX9_image_18 : decode cX9_image 18 = .ok (.if_icmp .gt 21, 3) := by decide +kernel
theorem dX9_image_21 : decode cX9_image 21 = .ok (.aload_n 0, 1) := by decide +kernel
theorem dX9_image_22 : decode cX9_image 22 = .ok (.getfield 52, 3) := by decide +kernel
theorem dX9_image_25 : decode cX9_image 25 = .ok (.iload_n 1, 1) := by decide +kernel
theorem dX9_image_26 : decode cX9_image 26 = .ok (.aload_n 0, 1) := by decide +kernel
theorem dX9_image_27 : decode cX9_image 27 = .ok (.getfield 9, 3) := by decide +kernel
theorem dX9_image_30 : decode cX9_image 30 = .ok (.iload_n 1, 1) := by decide +kernel
theorem dX9_image_31 : decode cX9_image 31 = .ok (.iaload, 1) := by decide +kernel
theorem dX9_image_32 : decode cX9_image 32 = .ok (.iastore, 1) := by decide +kernel
theorem dX9_image_33 : decode cX9_image 33 = .ok (.iinc 1 1, 3) := by decide +kernel
theorem dX9_image_36 : decode cX9_image 36 = .ok (.goto (-21), 3) := by decide +kernel
theorem dX9_image_39 : decode cX9_image 39 = .ok (.iconst 0, 1) := by decide +kernel
theorem dX9_image_40 : decode cX9_image 40 = .ok (.istore_n 1, 1) := by decide +kernel
theorem dX9_image_41 : decode cX9_image 41 = .ok (.iload_n 1, 1) := by decide +kernel
theorem dX9_image_42 : decode cX9_image 42 = .ok (.iconst 5, 1) := by decide +kernel
theorem dX9_image_43 : decode cX9_image 43 = .ok (.if_icmp .ge 21, 3) := by decide +kernel
theorem dX9_image_46 : decode cX9_image 46 = .ok (.aload_n 0, 1) := by decide +kernel
theorem dX9_image_47 : decode cX9_image 47 = .ok (.getfield 55, 3) := by decide +kernel
theorem dX9_image_50 : decode cX9_image 50 = .ok (.iload_n 1, 1) := by decide +kernel
theorem dX9_image_51 : decode cX9_image 51 = .ok (.aload_n 0, 1) := by decide +kernel
theorem dX9_image_52 : decode cX9_image 52 = .ok (.getfield 49, 3) := by decide +kernel
theorem dX9_image_55 : decode cX9_image 55 = .ok (.iload_n 1, 1) := by decide +kernel
theorem dX9_image_56 : decode cX9_image 56 = .ok (.iaload, 1) := by decide +kernel
theorem dX9_image_57 : decode cX9_image 57 = .ok (.iastore, 1) := by decide +kernel
theorem dX9_image_58 : decode cX9_image 58 = .ok (.iinc 1 1, 3) := by decide +kernel
theorem dX9_image_61 : decode cX9_image 61 = .ok (.goto (-20), 3) := by decide +kernel
theorem dX9_image_64 : decode cX9_image 64 = .ok (.aload_n 0, 1) := by decide +kernel
theorem dX9_image_65 : decode cX9_image 65 = .ok (.getfield 49, 3) := by decide +kernel
theorem dX9_image_68 : decode cX9_image 68 = .ok (.iconst 0, 1) := by decide +kernel
theorem dX9_image_69 : decode cX9_image 69 = .ok (.iaload, 1) := by decide +kernel
theorem dX9_image_70 : decode cX9_image 70 = .ok (.ireturn, 1) := by decide +kernel
theorem dX9_back_0 : decode cX9_back 0 = .ok (.aload_n 0, 1) := by decide +kernel
theorem dX9_back_1 : decode cX9_back 1 = .ok (.getfield 313, 3) := by decide +kernel
theorem dX9_back_4 : decode cX9_back 4 = .ok (.ifCond .ne 6, 3) := by decide +kernel
theorem dX9_back_7 : decode cX9_back 7 = .ok (.bipush (-5), 2) := by decide +kernel
theorem dX9_back_9 : decode cX9_back 9 = .ok (.ireturn, 1) := by decide +kernel
theorem dX9_back_10 : decode cX9_back 10 = .ok (.iconst 0, 1) := by decide +kernel
theorem dX9_back_11 : decode cX9_back 11 = .ok (.istore_n 1, 1) := by decide +kernel
theorem dX9_back_12 : decode cX9_back 12 = .ok (.iload_n 1, 1) := by decide +kernel
theorem dX9_back_13 : decode cX9_back 13 = .ok (.aload_n 0, 1) := by decide +kernel
theorem dX9_back_14 : decode cX9_back 14 = .ok (.getfield 317, 3) := by decide +kernel
theorem dX9_back_17 : decode cX9_back 17 = .ok (.if_icmp .ge 45, 3) := by decide +kernel
theorem dX9_back_20 : decode cX9_back 20 = .ok (.aload_n 0, 1) := by decide +kernel
theorem dX9_back_21 : decode cX9_back 21 = .ok (.getfield 9, 3) := by decide +kernel
theorem dX9_back_24 : decode cX9_back 24 = .ok (.bipush 30, 2) := by decide +kernel
theorem dX9_back_26 : decode cX9_back 26 = .ok (.iload_n 1, 1) := by decide +kernel
theorem dX9_back_27 : decode cX9_back 27 = .ok (.iadd, 1) := by decide +kernel
theorem dX9_back_28 : decode cX9_back 28 = .ok (.aload_n 0, 1) := by decide +kernel
theorem dX9_back_29 : decode cX9_back 29 = .ok (.getfield 52, 3) := by decide +kernel
theorem dX9_back_32 : decode cX9_back 32 = .ok (.bipush 30, 2) := by decide +kernel
theorem dX9_back_34 : decode cX9_back 34 = .ok (.iload_n 1, 1) := by decide +kernel
theorem dX9_back_35 : decode cX9_back 35 = .ok (.iadd, 1) := by decide +kernel
theorem dX9_back_36 : decode cX9_back 36 = .ok (.iaload, 1) := by decide +kernel
theorem dX9_back_37 : decode cX9_back 37 = .ok (.iastore, 1) := by decide +kernel
theorem dX9_back_38 : decode cX9_back 38 = .ok (.aload_n 0, 1) := by decide +kernel
theorem dX9_back_39 : decode cX9_back 39 = .ok (.getfield 9, 3) := by decide +kernel
theorem dX9_back_42 : decode cX9_back 42 = .ok (.bipush 40, 2) := by decide +kernel
theorem dX9_back_44 : decode cX9_back 44 = .ok (.iload_n 1, 1) := by decide +kernel
theorem dX9_back_45 : decode cX9_back 45 = .ok (.iadd, 1) := by decide +kernel
theorem dX9_back_46 : decode cX9_back 46 = .ok (.aload_n 0, 1) := by decide +kernel
theorem dX9_back_47 : decode cX9_back 47 = .ok (.getfield 52, 3) := by decide +kernel
theorem dX9_back_50 : decode cX9_back 50 = .ok (.bipush 40, 2) := by decide +kernel
theorem dX9_back_52 : decode cX9_back 52 = .ok (.iload_n 1, 1) := by decide +kernel
theorem dX9_back_53 : decode cX9_back 53 = .ok (.iadd, 1) := by decide +kernel
theorem dX9_back_54 : decode cX9_back 54 = .ok (.iaload, 1) := by decide +kernel
theorem dX9_back_55 : decode cX9_back 55 = .ok (.iastore, 1) := by decide +kernel
theorem dX9_back_56 : decode cX9_back 56 = .ok (.iinc 1 1, 3) := by decide +kernel
theorem dX9_back_59 : decode cX9_back 59 = .ok (.goto (-47), 3) := by decide +kernel
theorem dX9_back_62 : decode cX9_back 62 = .ok (.aload_n 0, 1) := by decide +kernel
theorem dX9_back_63 : decode cX9_back 63 = .ok (.getfield 9, 3) := by decide +kernel
theorem dX9_back_66 : decode cX9_back 66 = .ok (.bipush 50, 2) := by decide +kernel
theorem dX9_back_68 : decode cX9_back 68 = .ok (.aload_n 0, 1) := by decide +kernel
theorem dX9_back_69 : decode cX9_back 69 = .ok (.getfield 52, 3) := by decide +kernel
theorem dX9_back_72 : decode cX9_back 72 = .ok (.bipush 50, 2) := by decide +kernel
theorem dX9_back_74 : decode cX9_back 74 = .ok (.iaload, 1) := by decide +kernel
theorem dX9_back_75 : decode cX9_back 75 = .ok (.iastore, 1) := by decide +kernel
theorem dX9_back_76 : decode cX9_back 76 = .ok (.aload_n 0, 1) := by decide +kernel
theorem dX9_back_77 : decode cX9_back 77 = .ok (.getfield 9, 3) := by decide +kernel
theorem dX9_back_80 : decode cX9_back 80 = .ok (.bipush 52, 2) := by decide +kernel
theorem dX9_back_82 : decode cX9_back 82 = .ok (.aload_n 0, 1) := by decide +kernel
theorem dX9_back_83 : decode cX9_back 83 = .ok (.getfield 52, 3) := by decide +kernel
theorem dX9_back_86 : decode cX9_back 86 = .ok (.bipush 52, 2) := by decide +kernel
theorem dX9_back_88 : decode cX9_back 88 = .ok (.iaload, 1) := by decide +kernel
theorem dX9_back_89 : decode cX9_back 89 = .ok (.iastore, 1) := by decide +kernel
theorem dX9_back_90 : decode cX9_back 90 = .ok (.iconst 0, 1) := by decide +kernel
theorem dX9_back_91 : decode cX9_back 91 = .ok (.istore_n 1, 1) := by decide +kernel
theorem dX9_back_92 : decode cX9_back 92 = .ok (.iload_n 1, 1) := by decide +kernel
theorem dX9_back_93 : decode cX9_back 93 = .ok (.iconst 5, 1) := by decide +kernel
theorem dX9_back_94 : decode cX9_back 94 = .ok (.if_icmp .ge 21, 3) := by decide +kernel
theorem dX9_back_97 : decode cX9_back 97 = .ok (.aload_n 0, 1) := by decide +kernel
theorem dX9_back_98 : decode cX9_back 98 = .ok (.getfield 49, 3) := by decide +kernel
theorem dX9_back_101 : decode cX9_back 101 = .ok (.iload_n 1, 1) := by decide +kernel
theorem dX9_back_102 : decode cX9_back 102 = .ok (.aload_n 0, 1) := by decide +kernel
theorem dX9_back_103 : decode cX9_back 103 = .ok (.getfield 55, 3) := by decide +kernel
theorem dX9_back_106 : decode cX9_back 106 = .ok (.iload_n 1, 1) := by decide +kernel
theorem dX9_back_107 : decode cX9_back 107 = .ok (.iaload, 1) := by decide +kernel
theorem dX9_back_108 : decode cX9_back 108 = .ok (.iastore, 1) := by decide +kernel
theorem dX9_back_109 : decode cX9_back 109 = .ok (.iinc 1 1, 3) := by decide +kernel
theorem dX9_back_112 : decode cX9_back 112 = .ok (.goto (-20), 3) := by decide +kernel
theorem dX9_back_115 : decode cX9_back 115 = .ok (.aload_n 0, 1) := by decide +kernel
theorem dX9_back_116 : decode cX9_back 116 = .ok (.getfield 49, 3) := by decide +kernel
theorem dX9_back_119 : decode cX9_back 119 = .ok (.iconst 0, 1) := by decide +kernel
theorem dX9_back_120 : decode cX9_back 120 = .ok (.iaload, 1) := by decide +kernel
theorem dX9_back_121 : decode cX9_back 121 = .ok (.ireturn, 1) := by decide +kernel
theorem dX9_manyAwake_0 : decode cX9_manyAwake 0 = .ok (.aload_n 0, 1) := by decide +kernel
theorem dX9_manyAwake_1 : decode cX9_manyAwake 1 = .ok (.invokevirtual 233, 3) := by decide +kernel
theorem dX9_manyAwake_4 : decode cX9_manyAwake 4 = .ok (.aload_n 0, 1) := by decide +kernel
theorem dX9_manyAwake_5 : decode cX9_manyAwake 5 = .ok (.invokevirtual 256, 3) := by decide +kernel
theorem dX9_manyAwake_8 : decode cX9_manyAwake 8 = .ok (.ireturn, 1) := by decide +kernel
theorem dX9_isBody_0 : decode cX9_isBody 0 = .ok (.iload_n 1, 1) := by decide +kernel
theorem dX9_isBody_1 : decode cX9_isBody 1 = .ok (.i2l, 1) := by decide +kernel
theorem dX9_isBody_2 : decode cX9_isBody 2 = .ok (.lconst 0, 1) := by decide +kernel
theorem dX9_isBody_3 : decode cX9_isBody 3 = .ok (.aload_n 0, 1) := by decide +kernel
theorem dX9_isBody_4 : decode cX9_isBody 4 = .ok (.getfield 320, 3) := by decide +kernel
theorem dX9_isBody_7 : decode cX9_isBody 7 = .ok (.iconst 1, 1) := by decide +kernel
theorem dX9_isBody_8 : decode cX9_isBody 8 = .ok (.isub, 1) := by decide +kernel
theorem dX9_isBody_9 : decode cX9_isBody 9 = .ok (.i2l, 1) := by decide +kernel
theorem dX9_isBody_10 : decode cX9_isBody 10 = .ok (.invokestatic 98, 3) := by decide +kernel
theorem dX9_isBody_13 : decode cX9_isBody 13 = .ok (.ireturn, 1) := by decide +kernel
theorem dX9_kindOf_0 : decode cX9_kindOf 0 = .ok (.aload_n 0, 1) := by decide +kernel
theorem dX9_kindOf_1 : decode cX9_kindOf 1 = .ok (.getfield 58, 3) := by decide +kernel
theorem dX9_kindOf_4 : decode cX9_kindOf 4 = .ok (.iload_n 1, 1) := by decide +kernel
theorem dX9_kindOf_5 : decode cX9_kindOf 5 = .ok (.iaload, 1) := by decide +kernel
theorem dX9_kindOf_6 : decode cX9_kindOf 6 = .ok (.ireturn, 1) := by decide +kernel
theorem dX9_body_0 : decode cX9_body 0 = .ok (.iload_n 1, 1) := by decide +kernel
theorem dX9_body_1 : decode cX9_body 1 = .ok (.i2l, 1) := by decide +kernel
theorem dX9_body_2 : decode cX9_body 2 = .ok (.lconst 0, 1) := by decide +kernel
theorem dX9_body_3 : decode cX9_body 3 = .ok (.ldc2_w 132, 3) := by decide +kernel
theorem dX9_body_6 : decode cX9_body 6 = .ok (.invokestatic 98, 3) := by decide +kernel
theorem dX9_body_9 : decode cX9_body 9 = .ok (.ifCond .ne 5, 3) := by decide +kernel
theorem dX9_body_12 : decode cX9_body 12 = .ok (.iconst (-1), 1) := by decide +kernel
theorem dX9_body_13 : decode cX9_body 13 = .ok (.ireturn, 1) := by decide +kernel
theorem dX9_body_14 : decode cX9_body 14 = .ok (.aload_n 0, 1) := by decide +kernel
theorem dX9_body_15 : decode cX9_body 15 = .ok (.getfield 320, 3) := by decide +kernel
theorem dX9_body_18 : decode cX9_body 18 = .ok (.bipush 50, 2) := by decide +kernel
theorem dX9_body_20 : decode cX9_body 20 = .ok (.if_icmp .ne 6, 3) := by decide +kernel
theorem dX9_body_23 : decode cX9_body 23 = .ok (.bipush (-3), 2) := by decide +kernel
theorem dX9_body_25 : decode cX9_body 25 = .ok (.ireturn, 1) := by decide +kernel
theorem dX9_body_26 : decode cX9_body 26 = .ok (.aload_n 0, 1) := by decide +kernel
theorem dX9_body_27 : decode cX9_body 27 = .ok (.getfield 58, 3) := by decide +kernel
theorem dX9_body_30 : decode cX9_body 30 = .ok (.aload_n 0, 1) := by decide +kernel
theorem dX9_body_31 : decode cX9_body 31 = .ok (.getfield 320, 3) := by decide +kernel
theorem dX9_body_34 : decode cX9_body 34 = .ok (.iload_n 1, 1) := by decide +kernel
theorem dX9_body_35 : decode cX9_body 35 = .ok (.iastore, 1) := by decide +kernel
theorem dX9_body_36 : decode cX9_body 36 = .ok (.aload_n 0, 1) := by decide +kernel
theorem dX9_body_37 : decode cX9_body 37 = .ok (.dup, 1) := by decide +kernel
theorem dX9_body_38 : decode cX9_body 38 = .ok (.getfield 320, 3) := by decide +kernel
theorem dX9_body_41 : decode cX9_body 41 = .ok (.iconst 1, 1) := by decide +kernel
theorem dX9_body_42 : decode cX9_body 42 = .ok (.iadd, 1) := by decide +kernel
theorem dX9_body_43 : decode cX9_body 43 = .ok (.putfield 320, 3) := by decide +kernel
theorem dX9_body_46 : decode cX9_body 46 = .ok (.aload_n 0, 1) := by decide +kernel
theorem dX9_body_47 : decode cX9_body 47 = .ok (.getfield 320, 3) := by decide +kernel
theorem dX9_body_50 : decode cX9_body 50 = .ok (.iconst 1, 1) := by decide +kernel
theorem dX9_body_51 : decode cX9_body 51 = .ok (.isub, 1) := by decide +kernel
theorem dX9_body_52 : decode cX9_body 52 = .ok (.ireturn, 1) := by decide +kernel
theorem dX9_above_0 : decode cX9_above 0 = .ok (.iload_n 0, 1) := by decide +kernel
theorem dX9_above_1 : decode cX9_above 1 = .ok (.iconst 3, 1) := by decide +kernel
theorem dX9_above_2 : decode cX9_above 2 = .ok (.if_icmp .ne 7, 3) := by decide +kernel
theorem dX9_above_5 : decode cX9_above 5 = .ok (.iconst 2, 1) := by decide +kernel
theorem dX9_above_6 : decode cX9_above 6 = .ok (.goto 32, 3) := by decide +kernel
theorem dX9_above_9 : decode cX9_above 9 = .ok (.iload_n 0, 1) := by decide +kernel
theorem dX9_above_10 : decode cX9_above 10 = .ok (.iconst 4, 1) := by decide +kernel
theorem dX9_above_11 : decode cX9_above 11 = .ok (.if_icmp .ne 7, 3) := by decide +kernel
theorem dX9_above_14 : decode cX9_above 14 = .ok (.iconst 1, 1) := by decide +kernel
theorem dX9_above_15 : decode cX9_above 15 = .ok (.goto 23, 3) := by decide +kernel
theorem dX9_above_18 : decode cX9_above 18 = .ok (.iload_n 0, 1) := by decide +kernel
theorem dX9_above_19 : decode cX9_above 19 = .ok (.iconst 5, 1) := by decide +kernel
theorem dX9_above_20 : decode cX9_above 20 = .ok (.if_icmp .ne 7, 3) := by decide +kernel
theorem dX9_above_23 : decode cX9_above 23 = .ok (.iconst 3, 1) := by decide +kernel
theorem dX9_above_24 : decode cX9_above 24 = .ok (.goto 14, 3) := by decide +kernel
theorem dX9_above_27 : decode cX9_above 27 = .ok (.iload_n 0, 1) := by decide +kernel
theorem dX9_above_28 : decode cX9_above 28 = .ok (.bipush 7, 2) := by decide +kernel
theorem dX9_above_30 : decode cX9_above 30 = .ok (.if_icmp .ne 7, 3) := by decide +kernel
theorem dX9_above_33 : decode cX9_above 33 = .ok (.iconst 4, 1) := by decide +kernel
theorem dX9_above_34 : decode cX9_above 34 = .ok (.goto 4, 3) := by decide +kernel
theorem dX9_above_37 : decode cX9_above 37 = .ok (.iconst 0, 1) := by decide +kernel
theorem dX9_above_38 : decode cX9_above 38 = .ok (.ireturn, 1) := by decide +kernel
theorem dX9_runs_0 : decode cX9_runs 0 = .ok (.aload_n 0, 1) := by decide +kernel
theorem dX9_runs_1 : decode cX9_runs 1 = .ok (.getfield 323, 3) := by decide +kernel
theorem dX9_runs_4 : decode cX9_runs 4 = .ok (.bipush 24, 2) := by decide +kernel
theorem dX9_runs_6 : decode cX9_runs 6 = .ok (.if_icmp .ge 13, 3) := by decide +kernel
theorem dX9_runs_9 : decode cX9_runs 9 = .ok (.aload_n 0, 1) := by decide +kernel
theorem dX9_runs_10 : decode cX9_runs 10 = .ok (.getfield 61, 3) := by decide +kernel
theorem dX9_runs_13 : decode cX9_runs 13 = .ok (.aload_n 0, 1) := by decide +kernel
theorem dX9_runs_14 : decode cX9_runs 14 = .ok (.getfield 323, 3) := by decide +kernel
theorem dX9_runs_17 : decode cX9_runs 17 = .ok (.iload_n 1, 1) := by decide +kernel
theorem dX9_runs_18 : decode cX9_runs 18 = .ok (.iastore, 1) := by decide +kernel
theorem dX9_runs_19 : decode cX9_runs 19 = .ok (.aload_n 0, 1) := by decide +kernel
theorem dX9_runs_20 : decode cX9_runs 20 = .ok (.dup, 1) := by decide +kernel
theorem dX9_runs_21 : decode cX9_runs 21 = .ok (.getfield 323, 3) := by decide +kernel
theorem dX9_runs_24 : decode cX9_runs 24 = .ok (.iconst 1, 1) := by decide +kernel
theorem dX9_runs_25 : decode cX9_runs 25 = .ok (.iadd, 1) := by decide +kernel
theorem dX9_runs_26 : decode cX9_runs 26 = .ok (.putfield 323, 3) := by decide +kernel
theorem dX9_runs_29 : decode cX9_runs 29 = .ok (.return_, 1) := by decide +kernel
theorem dX9_wakesAs_0 : decode cX9_wakesAs 0 = .ok (.iload_n 1, 1) := by decide +kernel
theorem dX9_wakesAs_1 : decode cX9_wakesAs 1 = .ok (.iconst 1, 1) := by decide +kernel
theorem dX9_wakesAs_2 : decode cX9_wakesAs 2 = .ok (.if_icmp .eq 14, 3) := by decide +kernel
theorem dX9_wakesAs_5 : decode cX9_wakesAs 5 = .ok (.iload_n 1, 1) := by decide +kernel
theorem dX9_wakesAs_6 : decode cX9_wakesAs 6 = .ok (.iconst 4, 1) := by decide +kernel
theorem dX9_wakesAs_7 : decode cX9_wakesAs 7 = .ok (.if_icmp .eq 9, 3) := by decide +kernel
theorem dX9_wakesAs_10 : decode cX9_wakesAs 10 = .ok (.iload_n 1, 1) := by decide +kernel
theorem dX9_wakesAs_11 : decode cX9_wakesAs 11 = .ok (.bipush 7, 2) := by decide +kernel
theorem dX9_wakesAs_13 : decode cX9_wakesAs 13 = .ok (.if_icmp .ne 18, 3) := by decide +kernel
theorem dX9_wakesAs_16 : decode cX9_wakesAs 16 = .ok (.aload_n 0, 1) := by decide +kernel
theorem dX9_wakesAs_17 : decode cX9_wakesAs 17 = .ok (.bipush 20, 2) := by decide +kernel
theorem dX9_wakesAs_19 : decode cX9_wakesAs 19 = .ok (.invokevirtual 326, 3) := by decide +kernel
theorem dX9_wakesAs_22 : decode cX9_wakesAs 22 = .ok (.aload_n 0, 1) := by decide +kernel
theorem dX9_wakesAs_23 : decode cX9_wakesAs 23 = .ok (.iconst 0, 1) := by decide +kernel
theorem dX9_wakesAs_24 : decode cX9_wakesAs 24 = .ok (.iload_n 2, 1) := by decide +kernel
theorem dX9_wakesAs_25 : decode cX9_wakesAs 25 = .ok (.invokevirtual 329, 3) := by decide +kernel
theorem dX9_wakesAs_28 : decode cX9_wakesAs 28 = .ok (.iconst 3, 1) := by decide +kernel
theorem dX9_wakesAs_29 : decode cX9_wakesAs 29 = .ok (.iadd, 1) := by decide +kernel
theorem dX9_wakesAs_30 : decode cX9_wakesAs 30 = .ok (.ireturn, 1) := by decide +kernel
theorem dX9_wakesAs_31 : decode cX9_wakesAs 31 = .ok (.iload_n 1, 1) := by decide +kernel
theorem dX9_wakesAs_32 : decode cX9_wakesAs 32 = .ok (.bipush 6, 2) := by decide +kernel
theorem dX9_wakesAs_34 : decode cX9_wakesAs 34 = .ok (.if_icmp .ne 18, 3) := by decide +kernel
theorem dX9_wakesAs_37 : decode cX9_wakesAs 37 = .ok (.aload_n 0, 1) := by decide +kernel
theorem dX9_wakesAs_38 : decode cX9_wakesAs 38 = .ok (.bipush 70, 2) := by decide +kernel
theorem dX9_wakesAs_40 : decode cX9_wakesAs 40 = .ok (.invokevirtual 326, 3) := by decide +kernel
theorem dX9_wakesAs_43 : decode cX9_wakesAs 43 = .ok (.aload_n 0, 1) := by decide +kernel
theorem dX9_wakesAs_44 : decode cX9_wakesAs 44 = .ok (.iconst 0, 1) := by decide +kernel
theorem dX9_wakesAs_45 : decode cX9_wakesAs 45 = .ok (.iload_n 2, 1) := by decide +kernel
theorem dX9_wakesAs_46 : decode cX9_wakesAs 46 = .ok (.invokevirtual 329, 3) := by decide +kernel
theorem dX9_wakesAs_49 : decode cX9_wakesAs 49 = .ok (.iconst 2, 1) := by decide +kernel
theorem dX9_wakesAs_50 : decode cX9_wakesAs 50 = .ok (.imul, 1) := by decide +kernel
theorem dX9_wakesAs_51 : decode cX9_wakesAs 51 = .ok (.ireturn, 1) := by decide +kernel
theorem dX9_wakesAs_52 : decode cX9_wakesAs 52 = .ok (.aload_n 0, 1) := by decide +kernel
theorem dX9_wakesAs_53 : decode cX9_wakesAs 53 = .ok (.iconst 1, 1) := by decide +kernel
theorem dX9_wakesAs_54 : decode cX9_wakesAs 54 = .ok (.invokevirtual 326, 3) := by decide +kernel
theorem dX9_wakesAs_57 : decode cX9_wakesAs 57 = .ok (.iload_n 2, 1) := by decide +kernel
theorem dX9_wakesAs_58 : decode cX9_wakesAs 58 = .ok (.aload_n 0, 1) := by decide +kernel
theorem dX9_wakesAs_59 : decode cX9_wakesAs 59 = .ok (.getfield 332, 3) := by decide +kernel
theorem dX9_wakesAs_62 : decode cX9_wakesAs 62 = .ok (.iadd, 1) := by decide +kernel
theorem dX9_wakesAs_63 : decode cX9_wakesAs 63 = .ok (.ireturn, 1) := by decide +kernel
theorem dX9_hushesAs_0 : decode cX9_hushesAs 0 = .ok (.iload_n 1, 1) := by decide +kernel
theorem dX9_hushesAs_1 : decode cX9_hushesAs 1 = .ok (.iconst 3, 1) := by decide +kernel
theorem dX9_hushesAs_2 : decode cX9_hushesAs 2 = .ok (.if_icmp .eq 8, 3) := by decide +kernel
theorem dX9_hushesAs_5 : decode cX9_hushesAs 5 = .ok (.iload_n 1, 1) := by decide +kernel
theorem dX9_hushesAs_6 : decode cX9_hushesAs 6 = .ok (.iconst 5, 1) := by decide +kernel
theorem dX9_hushesAs_7 : decode cX9_hushesAs 7 = .ok (.if_icmp .ne 18, 3) := by decide +kernel
theorem dX9_hushesAs_10 : decode cX9_hushesAs 10 = .ok (.aload_n 0, 1) := by decide +kernel
theorem dX9_hushesAs_11 : decode cX9_hushesAs 11 = .ok (.bipush 41, 2) := by decide +kernel
theorem dX9_hushesAs_13 : decode cX9_hushesAs 13 = .ok (.invokevirtual 326, 3) := by decide +kernel
theorem dX9_hushesAs_16 : decode cX9_hushesAs 16 = .ok (.aload_n 0, 1) := by decide +kernel
theorem dX9_hushesAs_17 : decode cX9_hushesAs 17 = .ok (.iconst 2, 1) := by decide +kernel
theorem dX9_hushesAs_18 : decode cX9_hushesAs 18 = .ok (.iload_n 2, 1) := by decide +kernel
theorem dX9_hushesAs_19 : decode cX9_hushesAs 19 = .ok (.iconst 1, 1) := by decide +kernel
theorem dX9_hushesAs_20 : decode cX9_hushesAs 20 = .ok (.iadd, 1) := by decide +kernel
theorem dX9_hushesAs_21 : decode cX9_hushesAs 21 = .ok (.invokevirtual 335, 3) := by decide +kernel
theorem dX9_hushesAs_24 : decode cX9_hushesAs 24 = .ok (.ireturn, 1) := by decide +kernel
theorem dX9_hushesAs_25 : decode cX9_hushesAs 25 = .ok (.iload_n 1, 1) := by decide +kernel
theorem dX9_hushesAs_26 : decode cX9_hushesAs 26 = .ok (.iconst 2, 1) := by decide +kernel
theorem dX9_hushesAs_27 : decode cX9_hushesAs 27 = .ok (.if_icmp .ne 17, 3) := by decide +kernel
theorem dX9_hushesAs_30 : decode cX9_hushesAs 30 = .ok (.aload_n 0, 1) := by decide +kernel
theorem dX9_hushesAs_31 : decode cX9_hushesAs 31 = .ok (.bipush 30, 2) := by decide +kernel
theorem dX9_hushesAs_33 : decode cX9_hushesAs 33 = .ok (.invokevirtual 326, 3) := by decide +kernel
theorem dX9_hushesAs_36 : decode cX9_hushesAs 36 = .ok (.aload_n 0, 1) := by decide +kernel
theorem dX9_hushesAs_37 : decode cX9_hushesAs 37 = .ok (.iconst 0, 1) := by decide +kernel
theorem dX9_hushesAs_38 : decode cX9_hushesAs 38 = .ok (.iload_n 2, 1) := by decide +kernel
theorem dX9_hushesAs_39 : decode cX9_hushesAs 39 = .ok (.invokevirtual 335, 3) := by decide +kernel
theorem dX9_hushesAs_42 : decode cX9_hushesAs 42 = .ok (.ineg, 1) := by decide +kernel
theorem dX9_hushesAs_43 : decode cX9_hushesAs 43 = .ok (.ireturn, 1) := by decide +kernel
theorem dX9_hushesAs_44 : decode cX9_hushesAs 44 = .ok (.iload_n 1, 1) := by decide +kernel
theorem dX9_hushesAs_45 : decode cX9_hushesAs 45 = .ok (.bipush 7, 2) := by decide +kernel
theorem dX9_hushesAs_47 : decode cX9_hushesAs 47 = .ok (.if_icmp .ne 28, 3) := by decide +kernel
theorem dX9_hushesAs_50 : decode cX9_hushesAs 50 = .ok (.aload_n 0, 1) := by decide +kernel
theorem dX9_hushesAs_51 : decode cX9_hushesAs 51 = .ok (.bipush 80, 2) := by decide +kernel
theorem dX9_hushesAs_53 : decode cX9_hushesAs 53 = .ok (.invokevirtual 326, 3) := by decide +kernel
theorem dX9_hushesAs_56 : decode cX9_hushesAs 56 = .ok (.aload_n 0, 1) := by decide +kernel
theorem dX9_hushesAs_57 : decode cX9_hushesAs 57 = .ok (.iconst 4, 1) := by decide +kernel
theorem dX9_hushesAs_58 : decode cX9_hushesAs 58 = .ok (.iload_n 2, 1) := by decide +kernel
theorem dX9_hushesAs_59 : decode cX9_hushesAs 59 = .ok (.invokevirtual 335, 3) := by decide +kernel
theorem dX9_hushesAs_62 : decode cX9_hushesAs 62 = .ok (.istore_n 3, 1) := by decide +kernel
theorem dX9_hushesAs_63 : decode cX9_hushesAs 63 = .ok (.iload_n 3, 1) := by decide +kernel
theorem dX9_hushesAs_64 : decode cX9_hushesAs 64 = .ok (.aload_n 0, 1) := by decide +kernel
theorem dX9_hushesAs_65 : decode cX9_hushesAs 65 = .ok (.aload_n 0, 1) := by decide +kernel
theorem dX9_hushesAs_66 : decode cX9_hushesAs 66 = .ok (.getfield 338, 3) := by decide +kernel
theorem dX9_hushesAs_69 : decode cX9_hushesAs 69 = .ok (.iconst 2, 1) := by decide +kernel
theorem dX9_hushesAs_70 : decode cX9_hushesAs 70 = .ok (.invokevirtual 341, 3) := by decide +kernel
theorem dX9_hushesAs_73 : decode cX9_hushesAs 73 = .ok (.iadd, 1) := by decide +kernel
theorem dX9_hushesAs_74 : decode cX9_hushesAs 74 = .ok (.ireturn, 1) := by decide +kernel
theorem dX9_hushesAs_75 : decode cX9_hushesAs 75 = .ok (.aload_n 0, 1) := by decide +kernel
theorem dX9_hushesAs_76 : decode cX9_hushesAs 76 = .ok (.bipush 10, 2) := by decide +kernel
theorem dX9_hushesAs_78 : decode cX9_hushesAs 78 = .ok (.invokevirtual 326, 3) := by decide +kernel
theorem dX9_hushesAs_81 : decode cX9_hushesAs 81 = .ok (.aload_n 0, 1) := by decide +kernel
theorem dX9_hushesAs_82 : decode cX9_hushesAs 82 = .ok (.aload_n 0, 1) := by decide +kernel
theorem dX9_hushesAs_83 : decode cX9_hushesAs 83 = .ok (.getfield 338, 3) := by decide +kernel
theorem dX9_hushesAs_86 : decode cX9_hushesAs 86 = .ok (.iload_n 2, 1) := by decide +kernel
theorem dX9_hushesAs_87 : decode cX9_hushesAs 87 = .ok (.invokevirtual 329, 3) := by decide +kernel
theorem dX9_hushesAs_90 : decode cX9_hushesAs 90 = .ok (.iconst 2, 1) := by decide +kernel
theorem dX9_hushesAs_91 : decode cX9_hushesAs 91 = .ok (.imul, 1) := by decide +kernel
theorem dX9_hushesAs_92 : decode cX9_hushesAs 92 = .ok (.ireturn, 1) := by decide +kernel
theorem dX9_criesAs_0 : decode cX9_criesAs 0 = .ok (.iload_n 1, 1) := by decide +kernel
theorem dX9_criesAs_1 : decode cX9_criesAs 1 = .ok (.iconst 3, 1) := by decide +kernel
theorem dX9_criesAs_2 : decode cX9_criesAs 2 = .ok (.if_icmp .eq 8, 3) := by decide +kernel
theorem dX9_criesAs_5 : decode cX9_criesAs 5 = .ok (.iload_n 1, 1) := by decide +kernel
theorem dX9_criesAs_6 : decode cX9_criesAs 6 = .ok (.iconst 5, 1) := by decide +kernel
theorem dX9_criesAs_7 : decode cX9_criesAs 7 = .ok (.if_icmp .ne 18, 3) := by decide +kernel
theorem dX9_criesAs_10 : decode cX9_criesAs 10 = .ok (.aload_n 0, 1) := by decide +kernel
theorem dX9_criesAs_11 : decode cX9_criesAs 11 = .ok (.bipush 40, 2) := by decide +kernel
theorem dX9_criesAs_13 : decode cX9_criesAs 13 = .ok (.invokevirtual 326, 3) := by decide +kernel
theorem dX9_criesAs_16 : decode cX9_criesAs 16 = .ok (.aload_n 0, 1) := by decide +kernel
theorem dX9_criesAs_17 : decode cX9_criesAs 17 = .ok (.iconst 2, 1) := by decide +kernel
theorem dX9_criesAs_18 : decode cX9_criesAs 18 = .ok (.iload_n 2, 1) := by decide +kernel
theorem dX9_criesAs_19 : decode cX9_criesAs 19 = .ok (.invokevirtual 341, 3) := by decide +kernel
theorem dX9_criesAs_22 : decode cX9_criesAs 22 = .ok (.iconst 3, 1) := by decide +kernel
theorem dX9_criesAs_23 : decode cX9_criesAs 23 = .ok (.imul, 1) := by decide +kernel
theorem dX9_criesAs_24 : decode cX9_criesAs 24 = .ok (.ireturn, 1) := by decide +kernel
theorem dX9_criesAs_25 : decode cX9_criesAs 25 = .ok (.iload_n 1, 1) := by decide +kernel
theorem dX9_criesAs_26 : decode cX9_criesAs 26 = .ok (.iconst 4, 1) := by decide +kernel
theorem dX9_criesAs_27 : decode cX9_criesAs 27 = .ok (.if_icmp .eq 9, 3) := by decide +kernel
theorem dX9_criesAs_30 : decode cX9_criesAs 30 = .ok (.iload_n 1, 1) := by decide +kernel
theorem dX9_criesAs_31 : decode cX9_criesAs 31 = .ok (.bipush 7, 2) := by decide +kernel
theorem dX9_criesAs_33 : decode cX9_criesAs 33 = .ok (.if_icmp .ne 28, 3) := by decide +kernel
theorem dX9_criesAs_36 : decode cX9_criesAs 36 = .ok (.aload_n 0, 1) := by decide +kernel
theorem dX9_criesAs_37 : decode cX9_criesAs 37 = .ok (.bipush 50, 2) := by decide +kernel
theorem dX9_criesAs_39 : decode cX9_criesAs 39 = .ok (.invokevirtual 326, 3) := by decide +kernel
theorem dX9_criesAs_42 : decode cX9_criesAs 42 = .ok (.aload_n 0, 1) := by decide +kernel
theorem dX9_criesAs_43 : decode cX9_criesAs 43 = .ok (.iconst 1, 1) := by decide +kernel
theorem dX9_criesAs_44 : decode cX9_criesAs 44 = .ok (.iload_n 2, 1) := by decide +kernel
theorem dX9_criesAs_45 : decode cX9_criesAs 45 = .ok (.invokevirtual 341, 3) := by decide +kernel
theorem dX9_criesAs_48 : decode cX9_criesAs 48 = .ok (.istore_n 3, 1) := by decide +kernel
theorem dX9_criesAs_49 : decode cX9_criesAs 49 = .ok (.iload_n 3, 1) := by decide +kernel
theorem dX9_criesAs_50 : decode cX9_criesAs 50 = .ok (.aload_n 0, 1) := by decide +kernel
theorem dX9_criesAs_51 : decode cX9_criesAs 51 = .ok (.aload_n 0, 1) := by decide +kernel
theorem dX9_criesAs_52 : decode cX9_criesAs 52 = .ok (.getfield 338, 3) := by decide +kernel
theorem dX9_criesAs_55 : decode cX9_criesAs 55 = .ok (.iconst 2, 1) := by decide +kernel
theorem dX9_criesAs_56 : decode cX9_criesAs 56 = .ok (.invokevirtual 329, 3) := by decide +kernel
theorem dX9_criesAs_59 : decode cX9_criesAs 59 = .ok (.isub, 1) := by decide +kernel
theorem dX9_criesAs_60 : decode cX9_criesAs 60 = .ok (.ireturn, 1) := by decide +kernel
theorem dX9_criesAs_61 : decode cX9_criesAs 61 = .ok (.aload_n 0, 1) := by decide +kernel
theorem dX9_criesAs_62 : decode cX9_criesAs 62 = .ok (.bipush 11, 2) := by decide +kernel
theorem dX9_criesAs_64 : decode cX9_criesAs 64 = .ok (.invokevirtual 326, 3) := by decide +kernel
theorem dX9_criesAs_67 : decode cX9_criesAs 67 = .ok (.iload_n 2, 1) := by decide +kernel
theorem dX9_criesAs_68 : decode cX9_criesAs 68 = .ok (.aload_n 0, 1) := by decide +kernel
theorem dX9_criesAs_69 : decode cX9_criesAs 69 = .ok (.getfield 332, 3) := by decide +kernel
theorem dX9_criesAs_72 : decode cX9_criesAs 72 = .ok (.ixor, 1) := by decide +kernel
theorem dX9_criesAs_73 : decode cX9_criesAs 73 = .ok (.ireturn, 1) := by decide +kernel
theorem dX9_tellsAs_0 : decode cX9_tellsAs 0 = .ok (.iload_n 1, 1) := by decide +kernel
theorem dX9_tellsAs_1 : decode cX9_tellsAs 1 = .ok (.iconst 5, 1) := by decide +kernel
theorem dX9_tellsAs_2 : decode cX9_tellsAs 2 = .ok (.if_icmp .ne 18, 3) := by decide +kernel
theorem dX9_tellsAs_5 : decode cX9_tellsAs 5 = .ok (.aload_n 0, 1) := by decide +kernel
theorem dX9_tellsAs_6 : decode cX9_tellsAs 6 = .ok (.bipush 60, 2) := by decide +kernel
theorem dX9_tellsAs_8 : decode cX9_tellsAs 8 = .ok (.invokevirtual 326, 3) := by decide +kernel
theorem dX9_tellsAs_11 : decode cX9_tellsAs 11 = .ok (.aload_n 0, 1) := by decide +kernel
theorem dX9_tellsAs_12 : decode cX9_tellsAs 12 = .ok (.iconst 3, 1) := by decide +kernel
theorem dX9_tellsAs_13 : decode cX9_tellsAs 13 = .ok (.iload_n 2, 1) := by decide +kernel
theorem dX9_tellsAs_14 : decode cX9_tellsAs 14 = .ok (.invokevirtual 344, 3) := by decide +kernel
theorem dX9_tellsAs_17 : decode cX9_tellsAs 17 = .ok (.iconst 5, 1) := by decide +kernel
theorem dX9_tellsAs_18 : decode cX9_tellsAs 18 = .ok (.ixor, 1) := by decide +kernel
theorem dX9_tellsAs_19 : decode cX9_tellsAs 19 = .ok (.ireturn, 1) := by decide +kernel
theorem dX9_tellsAs_20 : decode cX9_tellsAs 20 = .ok (.iload_n 1, 1) := by decide +kernel
theorem dX9_tellsAs_21 : decode cX9_tellsAs 21 = .ok (.bipush 7, 2) := by decide +kernel
theorem dX9_tellsAs_23 : decode cX9_tellsAs 23 = .ok (.if_icmp .ne 18, 3) := by decide +kernel
theorem dX9_tellsAs_26 : decode cX9_tellsAs 26 = .ok (.aload_n 0, 1) := by decide +kernel
theorem dX9_tellsAs_27 : decode cX9_tellsAs 27 = .ok (.bipush 81, 2) := by decide +kernel
