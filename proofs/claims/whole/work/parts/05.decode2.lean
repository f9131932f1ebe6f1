theorem dX7_outcomeOf_22 : decode cX7_outcomeOf 22 = .ok (.iconst 2, 1) := by decide +kernel
theorem dX7_outcomeOf_23 : decode cX7_outcomeOf 23 = .ok (.irem, 1) := by decide +kernel
theorem dX7_outcomeOf_24 : decode cX7_outcomeOf 24 = .ok (.ifCond .ne 13, 3) := by decide +kernel
theorem dX7_outcomeOf_27 : decode cX7_outcomeOf 27 = .ok (.aload 4, 2) := by decide +kernel
theorem dX7_outcomeOf_29 : decode cX7_outcomeOf 29 = .ok (.iload_n 3, 1) := by decide +kernel
theorem dX7_outcomeOf_30 : decode cX7_outcomeOf 30 = .ok (.iconst 4, 1) := by decide +kernel
theorem dX7_outcomeOf_31 : decode cX7_outcomeOf 31 = .ok (.invokevirtual 174, 3) := by decide +kernel
theorem dX7_outcomeOf_34 : decode cX7_outcomeOf 34 = .ok (.goto 10, 3) := by decide +kernel
theorem dX7_outcomeOf_37 : decode cX7_outcomeOf 37 = .ok (.aload 4, 2) := by decide +kernel
theorem dX7_outcomeOf_39 : decode cX7_outcomeOf 39 = .ok (.iload_n 3, 1) := by decide +kernel
theorem dX7_outcomeOf_40 : decode cX7_outcomeOf 40 = .ok (.invokevirtual 177, 3) := by decide +kernel
theorem dX7_outcomeOf_43 : decode cX7_outcomeOf 43 = .ok (.pop, 1) := by decide +kernel
theorem dX7_outcomeOf_44 : decode cX7_outcomeOf 44 = .ok (.aload_n 0, 1) := by decide +kernel
theorem dX7_outcomeOf_45 : decode cX7_outcomeOf 45 = .ok (.iload_n 1, 1) := by decide +kernel
theorem dX7_outcomeOf_46 : decode cX7_outcomeOf 46 = .ok (.iconst 1, 1) := by decide +kernel
theorem dX7_outcomeOf_47 : decode cX7_outcomeOf 47 = .ok (.iadd, 1) := by decide +kernel
theorem dX7_outcomeOf_48 : decode cX7_outcomeOf 48 = .ok (.iload_n 2, 1) := by decide +kernel
theorem dX7_outcomeOf_49 : decode cX7_outcomeOf 49 = .ok (.invokevirtual 165, 3) := by decide +kernel
theorem dX7_outcomeOf_52 : decode cX7_outcomeOf 52 = .ok (.ireturn, 1) := by decide +kernel
theorem dX7_drawNights_0 : decode cX7_drawNights 0 = .ok (.iload_n 1, 1) := by decide +kernel
theorem dX7_drawNights_1 : decode cX7_drawNights 1 = .ok (.istore 6, 2) := by decide +kernel
theorem dX7_drawNights_3 : decode cX7_drawNights 3 = .ok (.iconst 0, 1) := by decide +kernel
theorem dX7_drawNights_4 : decode cX7_drawNights 4 = .ok (.istore 7, 2) := by decide +kernel
theorem dX7_drawNights_6 : decode cX7_drawNights 6 = .ok (.aload_n 0, 1) := by decide +kernel
theorem dX7_drawNights_7 : decode cX7_drawNights 7 = .ok (.invokevirtual 62, 3) := by decide +kernel
theorem dX7_drawNights_10 : decode cX7_drawNights 10 = .ok (.astore 8, 2) := by decide +kernel
theorem dX7_drawNights_12 : decode cX7_drawNights 12 = .ok (.iconst 0, 1) := by decide +kernel
theorem dX7_drawNights_13 : decode cX7_drawNights 13 = .ok (.istore 9, 2) := by decide +kernel
theorem dX7_drawNights_15 : decode cX7_drawNights 15 = .ok (.iload 9, 2) := by decide +kernel
theorem dX7_drawNights_17 : decode cX7_drawNights 17 = .ok (.iload_n 2, 1) := by decide +kernel
theorem dX7_drawNights_18 : decode cX7_drawNights 18 = .ok (.if_icmp .ge 114, 3) := by decide +kernel
theorem dX7_drawNights_21 : decode cX7_drawNights 21 = .ok (.aload 8, 2) := by decide +kernel
theorem dX7_drawNights_23 : decode cX7_drawNights 23 = .ok (.aload_n 0, 1) := by decide +kernel
theorem dX7_drawNights_24 : decode cX7_drawNights 24 = .ok (.getfield 49, 3) := by decide +kernel
theorem dX7_drawNights_27 : decode cX7_drawNights 27 = .ok (.invokevirtual 168, 3) := by decide +kernel
theorem dX7_drawNights_30 : decode cX7_drawNights 30 = .ok (.iconst 0, 1) := by decide +kernel
theorem dX7_drawNights_31 : decode cX7_drawNights 31 = .ok (.istore 10, 2) := by decide +kernel
theorem dX7_drawNights_33 : decode cX7_drawNights 33 = .ok (.iload 10, 2) := by decide +kernel
theorem dX7_drawNights_35 : decode cX7_drawNights 35 = .ok (.iload_n 3, 1) := by decide +kernel
theorem dX7_drawNights_36 : decode cX7_drawNights 36 = .ok (.if_icmp .ge 64, 3) := by decide +kernel
theorem dX7_drawNights_39 : decode cX7_drawNights 39 = .ok (.iload 6, 2) := by decide +kernel
theorem dX7_drawNights_41 : decode cX7_drawNights 41 = .ok (.ldc 180, 2) := by decide +kernel
theorem dX7_drawNights_43 : decode cX7_drawNights 43 = .ok (.imul, 1) := by decide +kernel
theorem dX7_drawNights_44 : decode cX7_drawNights 44 = .ok (.sipush 12345, 3) := by decide +kernel
theorem dX7_drawNights_47 : decode cX7_drawNights 47 = .ok (.iadd, 1) := by decide +kernel
theorem dX7_drawNights_48 : decode cX7_drawNights 48 = .ok (.istore 6, 2) := by decide +kernel
theorem dX7_drawNights_50 : decode cX7_drawNights 50 = .ok (.iload 6, 2) := by decide +kernel
theorem dX7_drawNights_52 : decode cX7_drawNights 52 = .ok (.bipush 20, 2) := by decide +kernel
theorem dX7_drawNights_54 : decode cX7_drawNights 54 = .ok (.iushr, 1) := by decide +kernel
theorem dX7_drawNights_55 : decode cX7_drawNights 55 = .ok (.bipush 12, 2) := by decide +kernel
theorem dX7_drawNights_57 : decode cX7_drawNights 57 = .ok (.irem, 1) := by decide +kernel
theorem dX7_drawNights_58 : decode cX7_drawNights 58 = .ok (.iload 4, 2) := by decide +kernel
theorem dX7_drawNights_60 : decode cX7_drawNights 60 = .ok (.if_icmp .ge 17, 3) := by decide +kernel
theorem dX7_drawNights_63 : decode cX7_drawNights 63 = .ok (.aload 8, 2) := by decide +kernel
theorem dX7_drawNights_65 : decode cX7_drawNights 65 = .ok (.iload 6, 2) := by decide +kernel
theorem dX7_drawNights_67 : decode cX7_drawNights 67 = .ok (.bipush 16, 2) := by decide +kernel
theorem dX7_drawNights_69 : decode cX7_drawNights 69 = .ok (.iushr, 1) := by decide +kernel
theorem dX7_drawNights_70 : decode cX7_drawNights 70 = .ok (.bipush 12, 2) := by decide +kernel
theorem dX7_drawNights_72 : decode cX7_drawNights 72 = .ok (.irem, 1) := by decide +kernel
theorem dX7_drawNights_73 : decode cX7_drawNights 73 = .ok (.invokevirtual 177, 3) := by decide +kernel
theorem dX7_drawNights_76 : decode cX7_drawNights 76 = .ok (.pop, 1) := by decide +kernel
theorem dX7_drawNights_77 : decode cX7_drawNights 77 = .ok (.aload 8, 2) := by decide +kernel
theorem dX7_drawNights_79 : decode cX7_drawNights 79 = .ok (.aload_n 0, 1) := by decide +kernel
theorem dX7_drawNights_80 : decode cX7_drawNights 80 = .ok (.getfield 53, 3) := by decide +kernel
theorem dX7_drawNights_83 : decode cX7_drawNights 83 = .ok (.iload 6, 2) := by decide +kernel
theorem dX7_drawNights_85 : decode cX7_drawNights 85 = .ok (.bipush 8, 2) := by decide +kernel
theorem dX7_drawNights_87 : decode cX7_drawNights 87 = .ok (.iushr, 1) := by decide +kernel
theorem dX7_drawNights_88 : decode cX7_drawNights 88 = .ok (.bipush 12, 2) := by decide +kernel
theorem dX7_drawNights_90 : decode cX7_drawNights 90 = .ok (.irem, 1) := by decide +kernel
theorem dX7_drawNights_91 : decode cX7_drawNights 91 = .ok (.invokevirtual 82, 3) := by decide +kernel
theorem dX7_drawNights_94 : decode cX7_drawNights 94 = .ok (.iinc 10 1, 3) := by decide +kernel
theorem dX7_drawNights_97 : decode cX7_drawNights 97 = .ok (.goto (-64), 3) := by decide +kernel
theorem dX7_drawNights_100 : decode cX7_drawNights 100 = .ok (.iload 7, 2) := by decide +kernel
theorem dX7_drawNights_102 : decode cX7_drawNights 102 = .ok (.iload 5, 2) := by decide +kernel
theorem dX7_drawNights_104 : decode cX7_drawNights 104 = .ok (.ifCond .ge 11, 3) := by decide +kernel
theorem dX7_drawNights_107 : decode cX7_drawNights 107 = .ok (.aload 8, 2) := by decide +kernel
theorem dX7_drawNights_109 : decode cX7_drawNights 109 = .ok (.invokevirtual 121, 3) := by decide +kernel
theorem dX7_drawNights_112 : decode cX7_drawNights 112 = .ok (.goto 11, 3) := by decide +kernel
theorem dX7_drawNights_115 : decode cX7_drawNights 115 = .ok (.aload 8, 2) := by decide +kernel
theorem dX7_drawNights_117 : decode cX7_drawNights 117 = .ok (.getfield 86, 3) := by decide +kernel
theorem dX7_drawNights_120 : decode cX7_drawNights 120 = .ok (.iload 5, 2) := by decide +kernel
theorem dX7_drawNights_122 : decode cX7_drawNights 122 = .ok (.iaload, 1) := by decide +kernel
theorem dX7_drawNights_123 : decode cX7_drawNights 123 = .ok (.iadd, 1) := by decide +kernel
theorem dX7_drawNights_124 : decode cX7_drawNights 124 = .ok (.istore 7, 2) := by decide +kernel
theorem dX7_drawNights_126 : decode cX7_drawNights 126 = .ok (.iinc 9 1, 3) := by decide +kernel
theorem dX7_drawNights_129 : decode cX7_drawNights 129 = .ok (.goto (-114), 3) := by decide +kernel
theorem dX7_drawNights_132 : decode cX7_drawNights 132 = .ok (.iload 7, 2) := by decide +kernel
theorem dX7_drawNights_134 : decode cX7_drawNights 134 = .ok (.ireturn, 1) := by decide +kernel
theorem dX8_init_0 : decode cX8_init 0 = .ok (.aload_n 0, 1) := by decide +kernel
theorem dX8_init_1 : decode cX8_init 1 = .ok (.invokespecial 1, 3) := by decide +kernel
theorem dX8_init_4 : decode cX8_init 4 = .ok (.aload_n 0, 1) := by decide +kernel
theorem dX8_init_5 : decode cX8_init 5 = .ok (.new 7, 3) := by decide +kernel
theorem dX8_init_8 : decode cX8_init 8 = .ok (.dup, 1) := by decide +kernel
theorem dX8_init_9 : decode cX8_init 9 = .ok (.invokespecial 9, 3) := by decide +kernel
theorem dX8_init_12 : decode cX8_init 12 = .ok (.putfield 10, 3) := by decide +kernel
theorem dX8_init_15 : decode cX8_init 15 = .ok (.aload_n 0, 1) := by decide +kernel
theorem dX8_init_16 : decode cX8_init 16 = .ok (.new 16, 3) := by decide +kernel
theorem dX8_init_19 : decode cX8_init 19 = .ok (.dup, 1) := by decide +kernel
theorem dX8_init_20 : decode cX8_init 20 = .ok (.invokespecial 18, 3) := by decide +kernel
theorem dX8_init_23 : decode cX8_init 23 = .ok (.putfield 19, 3) := by decide +kernel
theorem dX8_init_26 : decode cX8_init 26 = .ok (.aload_n 0, 1) := by decide +kernel
theorem dX8_init_27 : decode cX8_init 27 = .ok (.new 23, 3) := by decide +kernel
theorem dX8_init_30 : decode cX8_init 30 = .ok (.dup, 1) := by decide +kernel
theorem dX8_init_31 : decode cX8_init 31 = .ok (.invokespecial 25, 3) := by decide +kernel
theorem dX8_init_34 : decode cX8_init 34 = .ok (.putfield 26, 3) := by decide +kernel
theorem dX8_init_37 : decode cX8_init 37 = .ok (.aload_n 0, 1) := by decide +kernel
theorem dX8_init_38 : decode cX8_init 38 = .ok (.new 30, 3) := by decide +kernel
theorem dX8_init_41 : decode cX8_init 41 = .ok (.dup, 1) := by decide +kernel
theorem dX8_init_42 : decode cX8_init 42 = .ok (.aload_n 0, 1) := by decide +kernel
theorem dX8_init_43 : decode cX8_init 43 = .ok (.getfield 10, 3) := by decide +kernel
theorem dX8_init_46 : decode cX8_init 46 = .ok (.aload_n 0, 1) := by decide +kernel
theorem dX8_init_47 : decode cX8_init 47 = .ok (.getfield 19, 3) := by decide +kernel
theorem dX8_init_50 : decode cX8_init 50 = .ok (.invokespecial 32, 3) := by decide +kernel
theorem dX8_init_53 : decode cX8_init 53 = .ok (.putfield 35, 3) := by decide +kernel
theorem dX8_init_56 : decode cX8_init 56 = .ok (.aload_n 0, 1) := by decide +kernel
theorem dX8_init_57 : decode cX8_init 57 = .ok (.new 39, 3) := by decide +kernel
theorem dX8_init_60 : decode cX8_init 60 = .ok (.dup, 1) := by decide +kernel
theorem dX8_init_61 : decode cX8_init 61 = .ok (.invokespecial 41, 3) := by decide +kernel
theorem dX8_init_64 : decode cX8_init 64 = .ok (.putfield 42, 3) := by decide +kernel
theorem dX8_init_67 : decode cX8_init 67 = .ok (.aload_n 0, 1) := by decide +kernel
theorem dX8_init_68 : decode cX8_init 68 = .ok (.new 46, 3) := by decide +kernel
theorem dX8_init_71 : decode cX8_init 71 = .ok (.dup, 1) := by decide +kernel
theorem dX8_init_72 : decode cX8_init 72 = .ok (.invokespecial 48, 3) := by decide +kernel
theorem dX8_init_75 : decode cX8_init 75 = .ok (.putfield 49, 3) := by decide +kernel
theorem dX8_init_78 : decode cX8_init 78 = .ok (.aload_n 0, 1) := by decide +kernel
theorem dX8_init_79 : decode cX8_init 79 = .ok (.new 53, 3) := by decide +kernel
theorem dX8_init_82 : decode cX8_init 82 = .ok (.dup, 1) := by decide +kernel
theorem dX8_init_83 : decode cX8_init 83 = .ok (.invokespecial 55, 3) := by decide +kernel
theorem dX8_init_86 : decode cX8_init 86 = .ok (.putfield 56, 3) := by decide +kernel
theorem dX8_init_89 : decode cX8_init 89 = .ok (.aload_n 0, 1) := by decide +kernel
theorem dX8_init_90 : decode cX8_init 90 = .ok (.bipush 6, 2) := by decide +kernel
theorem dX8_init_92 : decode cX8_init 92 = .ok (.anewarray 60, 3) := by decide +kernel
theorem dX8_init_95 : decode cX8_init 95 = .ok (.putfield 62, 3) := by decide +kernel
theorem dX8_init_98 : decode cX8_init 98 = .ok (.iconst 0, 1) := by decide +kernel
theorem dX8_init_99 : decode cX8_init 99 = .ok (.istore_n 1, 1) := by decide +kernel
theorem dX8_init_100 : decode cX8_init 100 = .ok (.iload_n 1, 1) := by decide +kernel
theorem dX8_init_101 : decode cX8_init 101 = .ok (.bipush 6, 2) := by decide +kernel
theorem dX8_init_103 : decode cX8_init 103 = .ok (.if_icmp .ge 22, 3) := by decide +kernel
theorem dX8_init_106 : decode cX8_init 106 = .ok (.aload_n 0, 1) := by decide +kernel
theorem dX8_init_107 : decode cX8_init 107 = .ok (.getfield 62, 3) := by decide +kernel
theorem dX8_init_110 : decode cX8_init 110 = .ok (.iload_n 1, 1) := by decide +kernel
theorem dX8_init_111 : decode cX8_init 111 = .ok (.new 60, 3) := by decide +kernel
theorem dX8_init_114 : decode cX8_init 114 = .ok (.dup, 1) := by decide +kernel
theorem dX8_init_115 : decode cX8_init 115 = .ok (.invokespecial 66, 3) := by decide +kernel
theorem dX8_init_118 : decode cX8_init 118 = .ok (.aastore, 1) := by decide +kernel
theorem dX8_init_119 : decode cX8_init 119 = .ok (.iinc 1 1, 3) := by decide +kernel
theorem dX8_init_122 : decode cX8_init 122 = .ok (.goto (-22), 3) := by decide +kernel
theorem dX8_init_125 : decode cX8_init 125 = .ok (.return_, 1) := by decide +kernel
theorem dX8_sword_0 : decode cX8_sword 0 = .ok (.aload_n 0, 1) := by decide +kernel
theorem dX8_sword_1 : decode cX8_sword 1 = .ok (.getfield 10, 3) := by decide +kernel
theorem dX8_sword_4 : decode cX8_sword 4 = .ok (.iload_n 1, 1) := by decide +kernel
theorem dX8_sword_5 : decode cX8_sword 5 = .ok (.iload_n 2, 1) := by decide +kernel
theorem dX8_sword_6 : decode cX8_sword 6 = .ok (.iconst 0, 1) := by decide +kernel
theorem dX8_sword_7 : decode cX8_sword 7 = .ok (.invokevirtual 67, 3) := by decide +kernel
theorem dX8_sword_10 : decode cX8_sword 10 = .ok (.ifCond .ne 5, 3) := by decide +kernel
theorem dX8_sword_13 : decode cX8_sword 13 = .ok (.iconst (-1), 1) := by decide +kernel
theorem dX8_sword_14 : decode cX8_sword 14 = .ok (.ireturn, 1) := by decide +kernel
theorem dX8_sword_15 : decode cX8_sword 15 = .ok (.aload_n 0, 1) := by decide +kernel
theorem dX8_sword_16 : decode cX8_sword 16 = .ok (.getfield 10, 3) := by decide +kernel
theorem dX8_sword_19 : decode cX8_sword 19 = .ok (.getfield 71, 3) := by decide +kernel
theorem dX8_sword_22 : decode cX8_sword 22 = .ok (.bipush 10, 2) := by decide +kernel
theorem dX8_sword_24 : decode cX8_sword 24 = .ok (.if_icmp .ge 17, 3) := by decide +kernel
theorem dX8_sword_27 : decode cX8_sword 27 = .ok (.aload_n 0, 1) := by decide +kernel
theorem dX8_sword_28 : decode cX8_sword 28 = .ok (.getfield 10, 3) := by decide +kernel
theorem dX8_sword_31 : decode cX8_sword 31 = .ok (.iload_n 1, 1) := by decide +kernel
theorem dX8_sword_32 : decode cX8_sword 32 = .ok (.iload_n 2, 1) := by decide +kernel
theorem dX8_sword_33 : decode cX8_sword 33 = .ok (.bipush 50, 2) := by decide +kernel
theorem dX8_sword_35 : decode cX8_sword 35 = .ok (.invokevirtual 75, 3) := by decide +kernel
theorem dX8_sword_38 : decode cX8_sword 38 = .ok (.goto 5, 3) := by decide +kernel
theorem dX8_sword_41 : decode cX8_sword 41 = .ok (.bipush (-3), 2) := by decide +kernel
theorem dX8_sword_43 : decode cX8_sword 43 = .ok (.ireturn, 1) := by decide +kernel
theorem dX8_swords_0 : decode cX8_swords 0 = .ok (.iload_n 1, 1) := by decide +kernel
theorem dX8_swords_1 : decode cX8_swords 1 = .ok (.invokestatic 79, 3) := by decide +kernel
theorem dX8_swords_4 : decode cX8_swords 4 = .ok (.ifCond .eq 13, 3) := by decide +kernel
theorem dX8_swords_7 : decode cX8_swords 7 = .ok (.iload_n 3, 1) := by decide +kernel
theorem dX8_swords_8 : decode cX8_swords 8 = .ok (.iconst 1, 1) := by decide +kernel
theorem dX8_swords_9 : decode cX8_swords 9 = .ok (.bipush 10, 2) := by decide +kernel
theorem dX8_swords_11 : decode cX8_swords 11 = .ok (.invokestatic 83, 3) := by decide +kernel
theorem dX8_swords_14 : decode cX8_swords 14 = .ok (.ifCond .ne 5, 3) := by decide +kernel
theorem dX8_swords_17 : decode cX8_swords 17 = .ok (.iconst (-1), 1) := by decide +kernel
theorem dX8_swords_18 : decode cX8_swords 18 = .ok (.ireturn, 1) := by decide +kernel
theorem dX8_swords_19 : decode cX8_swords 19 = .ok (.aload_n 0, 1) := by decide +kernel
theorem dX8_swords_20 : decode cX8_swords 20 = .ok (.getfield 62, 3) := by decide +kernel
theorem dX8_swords_23 : decode cX8_swords 23 = .ok (.iload_n 1, 1) := by decide +kernel
theorem dX8_swords_24 : decode cX8_swords 24 = .ok (.aaload, 1) := by decide +kernel
theorem dX8_swords_25 : decode cX8_swords 25 = .ok (.astore 4, 2) := by decide +kernel
theorem dX8_swords_27 : decode cX8_swords 27 = .ok (.aload 4, 2) := by decide +kernel
theorem dX8_swords_29 : decode cX8_swords 29 = .ok (.invokevirtual 86, 3) := by decide +kernel
theorem dX8_swords_32 : decode cX8_swords 32 = .ok (.ifCond .eq 5, 3) := by decide +kernel
theorem dX8_swords_35 : decode cX8_swords 35 = .ok (.iconst 0, 1) := by decide +kernel
theorem dX8_swords_36 : decode cX8_swords 36 = .ok (.ireturn, 1) := by decide +kernel
theorem dX8_swords_37 : decode cX8_swords 37 = .ok (.aload 4, 2) := by decide +kernel
theorem dX8_swords_39 : decode cX8_swords 39 = .ok (.invokevirtual 90, 3) := by decide +kernel
theorem dX8_swords_42 : decode cX8_swords 42 = .ok (.ifCond .eq 17, 3) := by decide +kernel
theorem dX8_swords_45 : decode cX8_swords 45 = .ok (.aload_n 0, 1) := by decide +kernel
theorem dX8_swords_46 : decode cX8_swords 46 = .ok (.getfield 10, 3) := by decide +kernel
theorem dX8_swords_49 : decode cX8_swords 49 = .ok (.aload 4, 2) := by decide +kernel
theorem dX8_swords_51 : decode cX8_swords 51 = .ok (.iload_n 2, 1) := by decide +kernel
theorem dX8_swords_52 : decode cX8_swords 52 = .ok (.iload_n 3, 1) := by decide +kernel
theorem dX8_swords_53 : decode cX8_swords 53 = .ok (.invokevirtual 93, 3) := by decide +kernel
theorem dX8_swords_56 : decode cX8_swords 56 = .ok (.goto 5, 3) := by decide +kernel
theorem dX8_swords_59 : decode cX8_swords 59 = .ok (.bipush (-12), 2) := by decide +kernel
theorem dX8_swords_61 : decode cX8_swords 61 = .ok (.ireturn, 1) := by decide +kernel
theorem dX8_mend_0 : decode cX8_mend 0 = .ok (.aload_n 0, 1) := by decide +kernel
theorem dX8_mend_1 : decode cX8_mend 1 = .ok (.iload_n 1, 1) := by decide +kernel
theorem dX8_mend_2 : decode cX8_mend 2 = .ok (.iload_n 2, 1) := by decide +kernel
theorem dX8_mend_3 : decode cX8_mend 3 = .ok (.invokevirtual 97, 3) := by decide +kernel
theorem dX8_mend_6 : decode cX8_mend 6 = .ok (.ifCond .eq 16, 3) := by decide +kernel
theorem dX8_mend_9 : decode cX8_mend 9 = .ok (.iload_n 3, 1) := by decide +kernel
theorem dX8_mend_10 : decode cX8_mend 10 = .ok (.iconst 0, 1) := by decide +kernel
theorem dX8_mend_11 : decode cX8_mend 11 = .ok (.getstatic 101, 3) := by decide +kernel
theorem dX8_mend_14 : decode cX8_mend 14 = .ok (.iload_n 2, 1) := by decide +kernel
theorem dX8_mend_15 : decode cX8_mend 15 = .ok (.iaload, 1) := by decide +kernel
theorem dX8_mend_16 : decode cX8_mend 16 = .ok (.invokestatic 83, 3) := by decide +kernel
theorem dX8_mend_19 : decode cX8_mend 19 = .ok (.ifCond .ne 5, 3) := by decide +kernel
theorem dX8_mend_22 : decode cX8_mend 22 = .ok (.iconst (-1), 1) := by decide +kernel
theorem dX8_mend_23 : decode cX8_mend 23 = .ok (.ireturn, 1) := by decide +kernel
theorem dX8_mend_24 : decode cX8_mend 24 = .ok (.iload_n 2, 1) := by decide +kernel
theorem dX8_mend_25 : decode cX8_mend 25 = .ok (.ifCond .ne 17, 3) := by decide +kernel
theorem dX8_mend_28 : decode cX8_mend 28 = .ok (.aload_n 0, 1) := by decide +kernel
theorem dX8_mend_29 : decode cX8_mend 29 = .ok (.getfield 10, 3) := by decide +kernel
theorem dX8_mend_32 : decode cX8_mend 32 = .ok (.iload_n 3, 1) := by decide +kernel
theorem dX8_mend_33 : decode cX8_mend 33 = .ok (.iload_n 1, 1) := by decide +kernel
theorem dX8_mend_34 : decode cX8_mend 34 = .ok (.invokevirtual 105, 3) := by decide +kernel
theorem dX8_mend_37 : decode cX8_mend 37 = .ok (.ifCond .eq 5, 3) := by decide +kernel
theorem dX8_mend_40 : decode cX8_mend 40 = .ok (.iconst (-1), 1) := by decide +kernel
theorem dX8_mend_41 : decode cX8_mend 41 = .ok (.ireturn, 1) := by decide +kernel
theorem dX8_mend_42 : decode cX8_mend 42 = .ok (.aload_n 0, 1) := by decide +kernel
theorem dX8_mend_43 : decode cX8_mend 43 = .ok (.getfield 10, 3) := by decide +kernel
theorem dX8_mend_46 : decode cX8_mend 46 = .ok (.iload_n 1, 1) := by decide +kernel
theorem dX8_mend_47 : decode cX8_mend 47 = .ok (.iload_n 2, 1) := by decide +kernel
theorem dX8_mend_48 : decode cX8_mend 48 = .ok (.invokevirtual 108, 3) := by decide +kernel
theorem dX8_mend_51 : decode cX8_mend 51 = .ok (.istore 4, 2) := by decide +kernel
theorem dX8_mend_53 : decode cX8_mend 53 = .ok (.iload 4, 2) := by decide +kernel
theorem dX8_mend_55 : decode cX8_mend 55 = .ok (.iload_n 3, 1) := by decide +kernel
theorem dX8_mend_56 : decode cX8_mend 56 = .ok (.if_icmp .eq 25, 3) := by decide +kernel
theorem dX8_mend_59 : decode cX8_mend 59 = .ok (.aload_n 0, 1) := by decide +kernel
theorem dX8_mend_60 : decode cX8_mend 60 = .ok (.getfield 10, 3) := by decide +kernel
theorem dX8_mend_63 : decode cX8_mend 63 = .ok (.iload_n 1, 1) := by decide +kernel
theorem dX8_mend_64 : decode cX8_mend 64 = .ok (.iload_n 2, 1) := by decide +kernel
theorem dX8_mend_65 : decode cX8_mend 65 = .ok (.iload_n 3, 1) := by decide +kernel
theorem dX8_mend_66 : decode cX8_mend 66 = .ok (.invokevirtual 112, 3) := by decide +kernel
theorem dX8_mend_69 : decode cX8_mend 69 = .ok (.aload_n 0, 1) := by decide +kernel
theorem dX8_mend_70 : decode cX8_mend 70 = .ok (.getfield 42, 3) := by decide +kernel
theorem dX8_mend_73 : decode cX8_mend 73 = .ok (.iload_n 1, 1) := by decide +kernel
theorem dX8_mend_74 : decode cX8_mend 74 = .ok (.iload_n 2, 1) := by decide +kernel
theorem dX8_mend_75 : decode cX8_mend 75 = .ok (.iload 4, 2) := by decide +kernel
theorem dX8_mend_77 : decode cX8_mend 77 = .ok (.iload_n 3, 1) := by decide +kernel
theorem dX8_mend_78 : decode cX8_mend 78 = .ok (.invokevirtual 116, 3) := by decide +kernel
theorem dX8_mend_81 : decode cX8_mend 81 = .ok (.iload 4, 2) := by decide +kernel
theorem dX8_mend_83 : decode cX8_mend 83 = .ok (.ireturn, 1) := by decide +kernel
theorem dX8_of_0 : decode cX8_of 0 = .ok (.iload_n 2, 1) := by decide +kernel
theorem dX8_of_1 : decode cX8_of 1 = .ok (.bipush 8, 2) := by decide +kernel
theorem dX8_of_3 : decode cX8_of 3 = .ok (.if_icmp .ne 41, 3) := by decide +kernel
theorem dX8_of_6 : decode cX8_of 6 = .ok (.iload_n 1, 1) := by decide +kernel
theorem dX8_of_7 : decode cX8_of 7 = .ok (.invokestatic 119, 3) := by decide +kernel
theorem dX8_of_10 : decode cX8_of 10 = .ok (.ifCond .eq 32, 3) := by decide +kernel
theorem dX8_of_13 : decode cX8_of 13 = .ok (.aload_n 0, 1) := by decide +kernel
theorem dX8_of_14 : decode cX8_of 14 = .ok (.getfield 10, 3) := by decide +kernel
theorem dX8_of_17 : decode cX8_of 17 = .ok (.getfield 122, 3) := by decide +kernel
theorem dX8_of_20 : decode cX8_of 20 = .ok (.iload_n 1, 1) := by decide +kernel
theorem dX8_of_21 : decode cX8_of 21 = .ok (.iaload, 1) := by decide +kernel
theorem dX8_of_22 : decode cX8_of 22 = .ok (.ifCond .ge 8, 3) := by decide +kernel
theorem dX8_of_25 : decode cX8_of 25 = .ok (.bipush (-2), 2) := by decide +kernel
theorem dX8_of_27 : decode cX8_of 27 = .ok (.goto 16, 3) := by decide +kernel
theorem dX8_of_30 : decode cX8_of 30 = .ok (.aload_n 0, 1) := by decide +kernel
theorem dX8_of_31 : decode cX8_of 31 = .ok (.getfield 10, 3) := by decide +kernel
theorem dX8_of_34 : decode cX8_of 34 = .ok (.getfield 122, 3) := by decide +kernel
theorem dX8_of_37 : decode cX8_of 37 = .ok (.iload_n 1, 1) := by decide +kernel
theorem dX8_of_38 : decode cX8_of 38 = .ok (.iaload, 1) := by decide +kernel
theorem dX8_of_39 : decode cX8_of 39 = .ok (.goto 4, 3) := by decide +kernel
theorem dX8_of_42 : decode cX8_of 42 = .ok (.iconst (-1), 1) := by decide +kernel
theorem dX8_of_43 : decode cX8_of 43 = .ok (.ireturn, 1) := by decide +kernel
theorem dX8_of_44 : decode cX8_of 44 = .ok (.aload_n 0, 1) := by decide +kernel
theorem dX8_of_45 : decode cX8_of 45 = .ok (.iload_n 1, 1) := by decide +kernel
theorem dX8_of_46 : decode cX8_of 46 = .ok (.iload_n 2, 1) := by decide +kernel
theorem dX8_of_47 : decode cX8_of 47 = .ok (.invokevirtual 97, 3) := by decide +kernel
theorem dX8_of_50 : decode cX8_of 50 = .ok (.ifCond .eq 15, 3) := by decide +kernel
theorem dX8_of_53 : decode cX8_of 53 = .ok (.aload_n 0, 1) := by decide +kernel
theorem dX8_of_54 : decode cX8_of 54 = .ok (.getfield 10, 3) := by decide +kernel
theorem dX8_of_57 : decode cX8_of 57 = .ok (.iload_n 1, 1) := by decide +kernel
theorem dX8_of_58 : decode cX8_of 58 = .ok (.iload_n 2, 1) := by decide +kernel
theorem dX8_of_59 : decode cX8_of 59 = .ok (.invokevirtual 108, 3) := by decide +kernel
theorem dX8_of_62 : decode cX8_of 62 = .ok (.goto 4, 3) := by decide +kernel
theorem dX8_of_65 : decode cX8_of 65 = .ok (.iconst (-1), 1) := by decide +kernel
theorem dX8_of_66 : decode cX8_of 66 = .ok (.ireturn, 1) := by decide +kernel
theorem dX8_feed_0 : decode cX8_feed 0 = .ok (.iload_n 1, 1) := by decide +kernel
theorem dX8_feed_1 : decode cX8_feed 1 = .ok (.iconst 0, 1) := by decide +kernel
theorem dX8_feed_2 : decode cX8_feed 2 = .ok (.sipush 255, 3) := by decide +kernel
theorem dX8_feed_5 : decode cX8_feed 5 = .ok (.invokestatic 83, 3) := by decide +kernel
theorem dX8_feed_8 : decode cX8_feed 8 = .ok (.ifCond .ne 5, 3) := by decide +kernel
theorem dX8_feed_11 : decode cX8_feed 11 = .ok (.iconst (-1), 1) := by decide +kernel
theorem dX8_feed_12 : decode cX8_feed 12 = .ok (.ireturn, 1) := by decide +kernel
theorem dX8_feed_13 : decode cX8_feed 13 = .ok (.aload_n 0, 1) := by decide +kernel
theorem dX8_feed_14 : decode cX8_feed 14 = .ok (.getfield 26, 3) := by decide +kernel
theorem dX8_feed_17 : decode cX8_feed 17 = .ok (.iload_n 1, 1) := by decide +kernel
theorem dX8_feed_18 : decode cX8_feed 18 = .ok (.invokevirtual 125, 3) := by decide +kernel
theorem dX8_feed_21 : decode cX8_feed 21 = .ok (.ifCond .eq 13, 3) := by decide +kernel
theorem dX8_feed_24 : decode cX8_feed 24 = .ok (.aload_n 0, 1) := by decide +kernel
theorem dX8_feed_25 : decode cX8_feed 25 = .ok (.getfield 26, 3) := by decide +kernel
theorem dX8_feed_28 : decode cX8_feed 28 = .ok (.getfield 127, 3) := by decide +kernel
theorem dX8_feed_31 : decode cX8_feed 31 = .ok (.goto 5, 3) := by decide +kernel
theorem dX8_feed_34 : decode cX8_feed 34 = .ok (.bipush (-3), 2) := by decide +kernel
theorem dX8_feed_36 : decode cX8_feed 36 = .ok (.ireturn, 1) := by decide +kernel
theorem dX8_law_0 : decode cX8_law 0 = .ok (.aload_n 0, 1) := by decide +kernel
theorem dX8_law_1 : decode cX8_law 1 = .ok (.getfield 26, 3) := by decide +kernel
theorem dX8_law_4 : decode cX8_law 4 = .ok (.invokevirtual 130, 3) := by decide +kernel
theorem dX8_law_7 : decode cX8_law 7 = .ok (.istore_n 1, 1) := by decide +kernel
theorem dX8_law_8 : decode cX8_law 8 = .ok (.aload_n 0, 1) := by decide +kernel
theorem dX8_law_9 : decode cX8_law 9 = .ok (.getfield 26, 3) := by decide +kernel
theorem dX8_law_12 : decode cX8_law 12 = .ok (.iconst 0, 1) := by decide +kernel
theorem dX8_law_13 : decode cX8_law 13 = .ok (.putfield 127, 3) := by decide +kernel
theorem dX8_law_16 : decode cX8_law 16 = .ok (.iload_n 1, 1) := by decide +kernel
theorem dX8_law_17 : decode cX8_law 17 = .ok (.ifCond .lt 8, 3) := by decide +kernel
theorem dX8_law_20 : decode cX8_law 20 = .ok (.bipush (-100), 2) := by decide +kernel
theorem dX8_law_22 : decode cX8_law 22 = .ok (.iload_n 1, 1) := by decide +kernel
theorem dX8_law_23 : decode cX8_law 23 = .ok (.isub, 1) := by decide +kernel
theorem dX8_law_24 : decode cX8_law 24 = .ok (.ireturn, 1) := by decide +kernel
theorem dX8_law_25 : decode cX8_law 25 = .ok (.aload_n 0, 1) := by decide +kernel
theorem dX8_law_26 : decode cX8_law 26 = .ok (.getfield 19, 3) := by decide +kernel
theorem dX8_law_29 : decode cX8_law 29 = .ok (.aload_n 0, 1) := by decide +kernel
theorem dX8_law_30 : decode cX8_law 30 = .ok (.getfield 26, 3) := by decide +kernel
theorem dX8_law_33 : decode cX8_law 33 = .ok (.getfield 134, 3) := by decide +kernel
theorem dX8_law_36 : decode cX8_law 36 = .ok (.invokevirtual 137, 3) := by decide +kernel
theorem dX8_law_39 : decode cX8_law 39 = .ok (.iconst 1, 1) := by decide +kernel
theorem dX8_law_40 : decode cX8_law 40 = .ok (.ireturn, 1) := by decide +kernel
theorem dX8_grows_0 : decode cX8_grows 0 = .ok (.aload_n 0, 1) := by decide +kernel
theorem dX8_grows_1 : decode cX8_grows 1 = .ok (.iload_n 1, 1) := by decide +kernel
theorem dX8_grows_2 : decode cX8_grows 2 = .ok (.invokevirtual 141, 3) := by decide +kernel
theorem dX8_grows_5 : decode cX8_grows 5 = .ok (.ifCond .eq 18, 3) := by decide +kernel
theorem dX8_grows_8 : decode cX8_grows 8 = .ok (.aload_n 0, 1) := by decide +kernel
theorem dX8_grows_9 : decode cX8_grows 9 = .ok (.getfield 10, 3) := by decide +kernel
theorem dX8_grows_12 : decode cX8_grows 12 = .ok (.aload_n 0, 1) := by decide +kernel
theorem dX8_grows_13 : decode cX8_grows 13 = .ok (.getfield 19, 3) := by decide +kernel
theorem dX8_grows_16 : decode cX8_grows 16 = .ok (.iload_n 1, 1) := by decide +kernel
theorem dX8_grows_17 : decode cX8_grows 17 = .ok (.invokevirtual 144, 3) := by decide +kernel
theorem dX8_grows_20 : decode cX8_grows 20 = .ok (.goto 5, 3) := by decide +kernel
theorem dX8_grows_23 : decode cX8_grows 23 = .ok (.ldc 148, 2) := by decide +kernel
theorem dX8_grows_25 : decode cX8_grows 25 = .ok (.ireturn, 1) := by decide +kernel
theorem dX8_later_0 : decode cX8_later 0 = .ok (.iload_n 1, 1) := by decide +kernel
theorem dX8_later_1 : decode cX8_later 1 = .ok (.invokestatic 79, 3) := by decide +kernel
theorem dX8_later_4 : decode cX8_later 4 = .ok (.ifCond .eq 21, 3) := by decide +kernel
theorem dX8_later_7 : decode cX8_later 7 = .ok (.iload_n 2, 1) := by decide +kernel
theorem dX8_later_8 : decode cX8_later 8 = .ok (.iconst 0, 1) := by decide +kernel
theorem dX8_later_9 : decode cX8_later 9 = .ok (.bipush 24, 2) := by decide +kernel
theorem dX8_later_11 : decode cX8_later 11 = .ok (.invokestatic 83, 3) := by decide +kernel
theorem dX8_later_14 : decode cX8_later 14 = .ok (.ifCond .eq 11, 3) := by decide +kernel
theorem dX8_later_17 : decode cX8_later 17 = .ok (.aload_n 0, 1) := by decide +kernel
theorem dX8_later_18 : decode cX8_later 18 = .ok (.iload_n 3, 1) := by decide +kernel
theorem dX8_later_19 : decode cX8_later 19 = .ok (.invokevirtual 141, 3) := by decide +kernel
theorem dX8_later_22 : decode cX8_later 22 = .ok (.ifCond .ne 5, 3) := by decide +kernel
theorem dX8_later_25 : decode cX8_later 25 = .ok (.iconst (-1), 1) := by decide +kernel
theorem dX8_later_26 : decode cX8_later 26 = .ok (.ireturn, 1) := by decide +kernel
theorem dX8_later_27 : decode cX8_later 27 = .ok (.aload_n 0, 1) := by decide +kernel
theorem dX8_later_28 : decode cX8_later 28 = .ok (.getfield 62, 3) := by decide +kernel
theorem dX8_later_31 : decode cX8_later 31 = .ok (.iload_n 1, 1) := by decide +kernel
theorem dX8_later_32 : decode cX8_later 32 = .ok (.aaload, 1) := by decide +kernel
theorem dX8_later_33 : decode cX8_later 33 = .ok (.invokestatic 149, 3) := by decide +kernel
theorem dX8_later_36 : decode cX8_later 36 = .ok (.istore 4, 2) := by decide +kernel
theorem dX8_later_38 : decode cX8_later 38 = .ok (.iload 4, 2) := by decide +kernel
theorem dX8_later_40 : decode cX8_later 40 = .ok (.ifCond .eq 8, 3) := by decide +kernel
theorem dX8_later_43 : decode cX8_later 43 = .ok (.iload 4, 2) := by decide +kernel
theorem dX8_later_45 : decode cX8_later 45 = .ok (.goto 22, 3) := by decide +kernel
theorem dX8_later_48 : decode cX8_later 48 = .ok (.aload_n 0, 1) := by decide +kernel
theorem dX8_later_49 : decode cX8_later 49 = .ok (.getfield 35, 3) := by decide +kernel
theorem dX8_later_52 : decode cX8_later 52 = .ok (.aload_n 0, 1) := by decide +kernel
theorem dX8_later_53 : decode cX8_later 53 = .ok (.getfield 62, 3) := by decide +kernel
theorem dX8_later_56 : decode cX8_later 56 = .ok (.iload_n 1, 1) := by decide +kernel
theorem dX8_later_57 : decode cX8_later 57 = .ok (.aaload, 1) := by decide +kernel
theorem dX8_later_58 : decode cX8_later 58 = .ok (.iload_n 2, 1) := by decide +kernel
theorem dX8_later_59 : decode cX8_later 59 = .ok (.invokevirtual 153, 3) := by decide +kernel
theorem dX8_later_62 : decode cX8_later 62 = .ok (.getfield 157, 3) := by decide +kernel
theorem dX8_later_65 : decode cX8_later 65 = .ok (.iload_n 3, 1) := by decide +kernel
theorem dX8_later_66 : decode cX8_later 66 = .ok (.iaload, 1) := by decide +kernel
theorem dX8_later_67 : decode cX8_later 67 = .ok (.ireturn, 1) := by decide +kernel
theorem dX8_awake_0 : decode cX8_awake 0 = .ok (.iload_n 1, 1) := by decide +kernel
theorem dX8_awake_1 : decode cX8_awake 1 = .ok (.invokestatic 79, 3) := by decide +kernel
theorem dX8_awake_4 : decode cX8_awake 4 = .ok (.ifCond .eq 22, 3) := by decide +kernel
theorem dX8_awake_7 : decode cX8_awake 7 = .ok (.iload_n 2, 1) := by decide +kernel
theorem dX8_awake_8 : decode cX8_awake 8 = .ok (.iconst 0, 1) := by decide +kernel
theorem dX8_awake_9 : decode cX8_awake 9 = .ok (.bipush 24, 2) := by decide +kernel
theorem dX8_awake_11 : decode cX8_awake 11 = .ok (.invokestatic 83, 3) := by decide +kernel
theorem dX8_awake_14 : decode cX8_awake 14 = .ok (.ifCond .eq 12, 3) := by decide +kernel
theorem dX8_awake_17 : decode cX8_awake 17 = .ok (.iload_n 3, 1) := by decide +kernel
theorem dX8_awake_18 : decode cX8_awake 18 = .ok (.iconst 0, 1) := by decide +kernel
theorem dX8_awake_19 : decode cX8_awake 19 = .ok (.iconst 1, 1) := by decide +kernel
theorem dX8_awake_20 : decode cX8_awake 20 = .ok (.invokestatic 83, 3) := by decide +kernel
theorem dX8_awake_23 : decode cX8_awake 23 = .ok (.ifCond .ne 5, 3) := by decide +kernel
theorem dX8_awake_26 : decode cX8_awake 26 = .ok (.iconst (-1), 1) := by decide +kernel
theorem dX8_awake_27 : decode cX8_awake 27 = .ok (.ireturn, 1) := by decide +kernel
theorem dX8_awake_28 : decode cX8_awake 28 = .ok (.aload_n 0, 1) := by decide +kernel
theorem dX8_awake_29 : decode cX8_awake 29 = .ok (.getfield 62, 3) := by decide +kernel
theorem dX8_awake_32 : decode cX8_awake 32 = .ok (.iload_n 1, 1) := by decide +kernel
theorem dX8_awake_33 : decode cX8_awake 33 = .ok (.aaload, 1) := by decide +kernel
theorem dX8_awake_34 : decode cX8_awake 34 = .ok (.invokestatic 149, 3) := by decide +kernel
theorem dX8_awake_37 : decode cX8_awake 37 = .ok (.istore 4, 2) := by decide +kernel
theorem dX8_awake_39 : decode cX8_awake 39 = .ok (.iload 4, 2) := by decide +kernel
theorem dX8_awake_41 : decode cX8_awake 41 = .ok (.ifCond .eq 6, 3) := by decide +kernel
theorem dX8_awake_44 : decode cX8_awake 44 = .ok (.iload 4, 2) := by decide +kernel
theorem dX8_awake_46 : decode cX8_awake 46 = .ok (.ireturn, 1) := by decide +kernel
theorem dX8_awake_47 : decode cX8_awake 47 = .ok (.aload_n 0, 1) := by decide +kernel
theorem dX8_awake_48 : decode cX8_awake 48 = .ok (.getfield 35, 3) := by decide +kernel
theorem dX8_awake_51 : decode cX8_awake 51 = .ok (.aload_n 0, 1) := by decide +kernel
theorem dX8_awake_52 : decode cX8_awake 52 = .ok (.getfield 62, 3) := by decide +kernel
theorem dX8_awake_55 : decode cX8_awake 55 = .ok (.iload_n 1, 1) := by decide +kernel
theorem dX8_awake_56 : decode cX8_awake 56 = .ok (.aaload, 1) := by decide +kernel
theorem dX8_awake_57 : decode cX8_awake 57 = .ok (.iload_n 2, 1) := by decide +kernel
theorem dX8_awake_58 : decode cX8_awake 58 = .ok (.invokevirtual 153, 3) := by decide +kernel
theorem dX8_awake_61 : decode cX8_awake 61 = .ok (.astore 5, 2) := by decide +kernel
theorem dX8_awake_63 : decode cX8_awake 63 = .ok (.iload_n 3, 1) := by decide +kernel
theorem dX8_awake_64 : decode cX8_awake 64 = .ok (.ifCond .ne 11, 3) := by decide +kernel
theorem dX8_awake_67 : decode cX8_awake 67 = .ok (.aload 5, 2) := by decide +kernel
theorem dX8_awake_69 : decode cX8_awake 69 = .ok (.invokevirtual 160, 3) := by decide +kernel
theorem dX8_awake_72 : decode cX8_awake 72 = .ok (.goto 8, 3) := by decide +kernel
theorem dX8_awake_75 : decode cX8_awake 75 = .ok (.aload 5, 2) := by decide +kernel
theorem dX8_awake_77 : decode cX8_awake 77 = .ok (.invokevirtual 163, 3) := by decide +kernel
theorem dX8_awake_80 : decode cX8_awake 80 = .ok (.ireturn, 1) := by decide +kernel
theorem dX8_cries_0 : decode cX8_cries 0 = .ok (.iload_n 1, 1) := by decide +kernel
theorem dX8_cries_1 : decode cX8_cries 1 = .ok (.invokestatic 79, 3) := by decide +kernel
theorem dX8_cries_4 : decode cX8_cries 4 = .ok (.ifCond .eq 21, 3) := by decide +kernel
theorem dX8_cries_7 : decode cX8_cries 7 = .ok (.aload_n 0, 1) := by decide +kernel
theorem dX8_cries_8 : decode cX8_cries 8 = .ok (.iload_n 2, 1) := by decide +kernel
theorem dX8_cries_9 : decode cX8_cries 9 = .ok (.invokevirtual 141, 3) := by decide +kernel
theorem dX8_cries_12 : decode cX8_cries 12 = .ok (.ifCond .eq 13, 3) := by decide +kernel
theorem dX8_cries_15 : decode cX8_cries 15 = .ok (.iload_n 3, 1) := by decide +kernel
theorem dX8_cries_16 : decode cX8_cries 16 = .ok (.iconst 0, 1) := by decide +kernel
theorem dX8_cries_17 : decode cX8_cries 17 = .ok (.bipush 99, 2) := by decide +kernel
theorem dX8_cries_19 : decode cX8_cries 19 = .ok (.invokestatic 83, 3) := by decide +kernel
theorem dX8_cries_22 : decode cX8_cries 22 = .ok (.ifCond .ne 5, 3) := by decide +kernel
theorem dX8_cries_25 : decode cX8_cries 25 = .ok (.iconst (-1), 1) := by decide +kernel
theorem dX8_cries_26 : decode cX8_cries 26 = .ok (.ireturn, 1) := by decide +kernel
theorem dX8_cries_27 : decode cX8_cries 27 = .ok (.aload_n 0, 1) := by decide +kernel
theorem dX8_cries_28 : decode cX8_cries 28 = .ok (.getfield 62, 3) := by decide +kernel
theorem dX8_cries_31 : decode cX8_cries 31 = .ok (.iload_n 1, 1) := by decide +kernel
theorem dX8_cries_32 : decode cX8_cries 32 = .ok (.aaload, 1) := by decide +kernel
theorem dX8_cries_33 : decode cX8_cries 33 = .ok (.invokestatic 149, 3) := by decide +kernel
theorem dX8_cries_36 : decode cX8_cries 36 = .ok (.istore 4, 2) := by decide +kernel
theorem dX8_cries_38 : decode cX8_cries 38 = .ok (.iload 4, 2) := by decide +kernel
theorem dX8_cries_40 : decode cX8_cries 40 = .ok (.ifCond .eq 8, 3) := by decide +kernel
theorem dX8_cries_43 : decode cX8_cries 43 = .ok (.iload 4, 2) := by decide +kernel
theorem dX8_cries_45 : decode cX8_cries 45 = .ok (.goto 18, 3) := by decide +kernel
theorem dX8_cries_48 : decode cX8_cries 48 = .ok (.aload_n 0, 1) := by decide +kernel
theorem dX8_cries_49 : decode cX8_cries 49 = .ok (.getfield 35, 3) := by decide +kernel
theorem dX8_cries_52 : decode cX8_cries 52 = .ok (.aload_n 0, 1) := by decide +kernel
theorem dX8_cries_53 : decode cX8_cries 53 = .ok (.getfield 62, 3) := by decide +kernel
theorem dX8_cries_56 : decode cX8_cries 56 = .ok (.iload_n 1, 1) := by decide +kernel
theorem dX8_cries_57 : decode cX8_cries 57 = .ok (.aaload, 1) := by decide +kernel
theorem dX8_cries_58 : decode cX8_cries 58 = .ok (.iload_n 2, 1) := by decide +kernel
theorem dX8_cries_59 : decode cX8_cries 59 = .ok (.iload_n 3, 1) := by decide +kernel
theorem dX8_cries_60 : decode cX8_cries 60 = .ok (.invokevirtual 166, 3) := by decide +kernel
theorem dX8_cries_63 : decode cX8_cries 63 = .ok (.ireturn, 1) := by decide +kernel
theorem dX8_asleep_0 : decode cX8_asleep 0 = .ok (.iload_n 1, 1) := by decide +kernel
theorem dX8_asleep_1 : decode cX8_asleep 1 = .ok (.invokestatic 79, 3) := by decide +kernel
theorem dX8_asleep_4 : decode cX8_asleep 4 = .ok (.ifCond .ne 5, 3) := by decide +kernel
theorem dX8_asleep_7 : decode cX8_asleep 7 = .ok (.iconst (-1), 1) := by decide +kernel
theorem dX8_asleep_8 : decode cX8_asleep 8 = .ok (.ireturn, 1) := by decide +kernel
theorem dX8_asleep_9 : decode cX8_asleep 9 = .ok (.aload_n 0, 1) := by decide +kernel
theorem dX8_asleep_10 : decode cX8_asleep 10 = .ok (.getfield 62, 3) := by decide +kernel
theorem dX8_asleep_13 : decode cX8_asleep 13 = .ok (.iload_n 1, 1) := by decide +kernel
theorem dX8_asleep_14 : decode cX8_asleep 14 = .ok (.aaload, 1) := by decide +kernel
theorem dX8_asleep_15 : decode cX8_asleep 15 = .ok (.invokestatic 149, 3) := by decide +kernel
theorem dX8_asleep_18 : decode cX8_asleep 18 = .ok (.istore_n 2, 1) := by decide +kernel
theorem dX8_asleep_19 : decode cX8_asleep 19 = .ok (.iload_n 2, 1) := by decide +kernel
theorem dX8_asleep_20 : decode cX8_asleep 20 = .ok (.ifCond .eq 7, 3) := by decide +kernel
theorem dX8_asleep_23 : decode cX8_asleep 23 = .ok (.iload_n 2, 1) := by decide +kernel
theorem dX8_asleep_24 : decode cX8_asleep 24 = .ok (.goto 16, 3) := by decide +kernel
theorem dX8_asleep_27 : decode cX8_asleep 27 = .ok (.aload_n 0, 1) := by decide +kernel
theorem dX8_asleep_28 : decode cX8_asleep 28 = .ok (.getfield 35, 3) := by decide +kernel
theorem dX8_asleep_31 : decode cX8_asleep 31 = .ok (.aload_n 0, 1) := by decide +kernel
theorem dX8_asleep_32 : decode cX8_asleep 32 = .ok (.getfield 62, 3) := by decide +kernel
theorem dX8_asleep_35 : decode cX8_asleep 35 = .ok (.iload_n 1, 1) := by decide +kernel
theorem dX8_asleep_36 : decode cX8_asleep 36 = .ok (.aaload, 1) := by decide +kernel
theorem dX8_asleep_37 : decode cX8_asleep 37 = .ok (.invokevirtual 169, 3) := by decide +kernel
theorem dX8_asleep_40 : decode cX8_asleep 40 = .ok (.ireturn, 1) := by decide +kernel
theorem dX8_bestRound_0 : decode cX8_bestRound 0 = .ok (.iload_n 1, 1) := by decide +kernel
theorem dX8_bestRound_1 : decode cX8_bestRound 1 = .ok (.iconst 0, 1) := by decide +kernel
theorem dX8_bestRound_2 : decode cX8_bestRound 2 = .ok (.iconst 3, 1) := by decide +kernel
theorem dX8_bestRound_3 : decode cX8_bestRound 3 = .ok (.invokestatic 83, 3) := by decide +kernel
theorem dX8_bestRound_6 : decode cX8_bestRound 6 = .ok (.ifCond .eq 15, 3) := by decide +kernel
theorem dX8_bestRound_9 : decode cX8_bestRound 9 = .ok (.iload_n 2, 1) := by decide +kernel
theorem dX8_bestRound_10 : decode cX8_bestRound 10 = .ok (.bipush (-2), 2) := by decide +kernel
theorem dX8_bestRound_12 : decode cX8_bestRound 12 = .ok (.iload_n 1, 1) := by decide +kernel
theorem dX8_bestRound_13 : decode cX8_bestRound 13 = .ok (.iconst 1, 1) := by decide +kernel
theorem dX8_bestRound_14 : decode cX8_bestRound 14 = .ok (.isub, 1) := by decide +kernel
theorem dX8_bestRound_15 : decode cX8_bestRound 15 = .ok (.invokestatic 83, 3) := by decide +kernel
theorem dX8_bestRound_18 : decode cX8_bestRound 18 = .ok (.ifCond .ne 5, 3) := by decide +kernel
theorem dX8_bestRound_21 : decode cX8_bestRound 21 = .ok (.iconst (-1), 1) := by decide +kernel
theorem dX8_bestRound_22 : decode cX8_bestRound 22 = .ok (.ireturn, 1) := by decide +kernel
theorem dX8_bestRound_23 : decode cX8_bestRound 23 = .ok (.aload_n 0, 1) := by decide +kernel
theorem dX8_bestRound_24 : decode cX8_bestRound 24 = .ok (.getfield 35, 3) := by decide +kernel
theorem dX8_bestRound_27 : decode cX8_bestRound 27 = .ok (.iload_n 1, 1) := by decide +kernel
theorem dX8_bestRound_28 : decode cX8_bestRound 28 = .ok (.invokevirtual 172, 3) := by decide +kernel
theorem dX8_bestRound_31 : decode cX8_bestRound 31 = .ok (.iload_n 2, 1) := by decide +kernel
theorem dX8_bestRound_32 : decode cX8_bestRound 32 = .ok (.iconst (-1), 1) := by decide +kernel
theorem dX8_bestRound_33 : decode cX8_bestRound 33 = .ok (.if_icmp .ne 11, 3) := by decide +kernel
theorem dX8_bestRound_36 : decode cX8_bestRound 36 = .ok (.aload_n 0, 1) := by decide +kernel
theorem dX8_bestRound_37 : decode cX8_bestRound 37 = .ok (.getfield 35, 3) := by decide +kernel
theorem dX8_bestRound_40 : decode cX8_bestRound 40 = .ok (.getfield 176, 3) := by decide +kernel
theorem dX8_bestRound_43 : decode cX8_bestRound 43 = .ok (.ireturn, 1) := by decide +kernel
theorem dX8_bestRound_44 : decode cX8_bestRound 44 = .ok (.iload_n 2, 1) := by decide +kernel
theorem dX8_bestRound_45 : decode cX8_bestRound 45 = .ok (.bipush (-2), 2) := by decide +kernel
theorem dX8_bestRound_47 : decode cX8_bestRound 47 = .ok (.if_icmp .ne 13, 3) := by decide +kernel
theorem dX8_bestRound_50 : decode cX8_bestRound 50 = .ok (.aload_n 0, 1) := by decide +kernel
theorem dX8_bestRound_51 : decode cX8_bestRound 51 = .ok (.getfield 35, 3) := by decide +kernel
theorem dX8_bestRound_54 : decode cX8_bestRound 54 = .ok (.getfield 179, 3) := by decide +kernel
theorem dX8_bestRound_57 : decode cX8_bestRound 57 = .ok (.goto 12, 3) := by decide +kernel
theorem dX8_bestRound_60 : decode cX8_bestRound 60 = .ok (.aload_n 0, 1) := by decide +kernel
theorem dX8_bestRound_61 : decode cX8_bestRound 61 = .ok (.getfield 35, 3) := by decide +kernel
theorem dX8_bestRound_64 : decode cX8_bestRound 64 = .ok (.getfield 182, 3) := by decide +kernel
theorem dX8_bestRound_67 : decode cX8_bestRound 67 = .ok (.iload_n 2, 1) := by decide +kernel
theorem dX8_bestRound_68 : decode cX8_bestRound 68 = .ok (.iaload, 1) := by decide +kernel
theorem dX8_bestRound_69 : decode cX8_bestRound 69 = .ok (.ireturn, 1) := by decide +kernel
theorem dX8_told_0 : decode cX8_told 0 = .ok (.iload_n 1, 1) := by decide +kernel
theorem dX8_told_1 : decode cX8_told 1 = .ok (.iconst 0, 1) := by decide +kernel
theorem dX8_told_2 : decode cX8_told 2 = .ok (.iconst 1, 1) := by decide +kernel
theorem dX8_told_3 : decode cX8_told 3 = .ok (.invokestatic 83, 3) := by decide +kernel
theorem dX8_told_6 : decode cX8_told 6 = .ok (.ifCond .ne 5, 3) := by decide +kernel
theorem dX8_told_9 : decode cX8_told 9 = .ok (.iconst (-1), 1) := by decide +kernel
theorem dX8_told_10 : decode cX8_told 10 = .ok (.ireturn, 1) := by decide +kernel
theorem dX8_told_11 : decode cX8_told 11 = .ok (.aload_n 0, 1) := by decide +kernel
theorem dX8_told_12 : decode cX8_told 12 = .ok (.getfield 10, 3) := by decide +kernel
theorem dX8_told_15 : decode cX8_told 15 = .ok (.invokevirtual 185, 3) := by decide +kernel
theorem dX8_told_18 : decode cX8_told 18 = .ok (.ifCond .eq 27, 3) := by decide +kernel
theorem dX8_told_21 : decode cX8_told 21 = .ok (.iload_n 1, 1) := by decide +kernel
theorem dX8_told_22 : decode cX8_told 22 = .ok (.ifCond .ne 13, 3) := by decide +kernel
theorem dX8_told_25 : decode cX8_told 25 = .ok (.aload_n 0, 1) := by decide +kernel
theorem dX8_told_26 : decode cX8_told 26 = .ok (.getfield 10, 3) := by decide +kernel
theorem dX8_told_29 : decode cX8_told 29 = .ok (.invokevirtual 188, 3) := by decide +kernel
theorem dX8_told_32 : decode cX8_told 32 = .ok (.goto 15, 3) := by decide +kernel
theorem dX8_told_35 : decode cX8_told 35 = .ok (.aload_n 0, 1) := by decide +kernel
theorem dX8_told_36 : decode cX8_told 36 = .ok (.getfield 10, 3) := by decide +kernel
theorem dX8_told_39 : decode cX8_told 39 = .ok (.invokevirtual 191, 3) := by decide +kernel
theorem dX8_told_42 : decode cX8_told 42 = .ok (.goto 5, 3) := by decide +kernel
theorem dX8_told_45 : decode cX8_told 45 = .ok (.bipush (-2), 2) := by decide +kernel
theorem dX8_told_47 : decode cX8_told 47 = .ok (.ireturn, 1) := by decide +kernel
theorem dX8_woken_0 : decode cX8_woken 0 = .ok (.iload_n 1, 1) := by decide +kernel
theorem dX8_woken_1 : decode cX8_woken 1 = .ok (.invokestatic 119, 3) := by decide +kernel
theorem dX8_woken_4 : decode cX8_woken 4 = .ok (.ifCond .eq 12, 3) := by decide +kernel
theorem dX8_woken_7 : decode cX8_woken 7 = .ok (.iload_n 2, 1) := by decide +kernel
theorem dX8_woken_8 : decode cX8_woken 8 = .ok (.iconst 0, 1) := by decide +kernel
theorem dX8_woken_9 : decode cX8_woken 9 = .ok (.iconst 1, 1) := by decide +kernel
theorem dX8_woken_10 : decode cX8_woken 10 = .ok (.invokestatic 83, 3) := by decide +kernel
theorem dX8_woken_13 : decode cX8_woken 13 = .ok (.ifCond .ne 5, 3) := by decide +kernel
theorem dX8_woken_16 : decode cX8_woken 16 = .ok (.iconst (-1), 1) := by decide +kernel
theorem dX8_woken_17 : decode cX8_woken 17 = .ok (.ireturn, 1) := by decide +kernel
theorem dX8_woken_18 : decode cX8_woken 18 = .ok (.aload_n 0, 1) := by decide +kernel
theorem dX8_woken_19 : decode cX8_woken 19 = .ok (.getfield 35, 3) := by decide +kernel
theorem dX8_woken_22 : decode cX8_woken 22 = .ok (.invokevirtual 194, 3) := by decide +kernel
theorem dX8_woken_25 : decode cX8_woken 25 = .ok (.astore_n 3, 1) := by decide +kernel
theorem dX8_woken_26 : decode cX8_woken 26 = .ok (.aload_n 3, 1) := by decide +kernel
theorem dX8_woken_27 : decode cX8_woken 27 = .ok (.iload_n 1, 1) := by decide +kernel
theorem dX8_woken_28 : decode cX8_woken 28 = .ok (.invokevirtual 198, 3) := by decide +kernel
theorem dX8_woken_31 : decode cX8_woken 31 = .ok (.istore 4, 2) := by decide +kernel
theorem dX8_woken_33 : decode cX8_woken 33 = .ok (.iload_n 2, 1) := by decide +kernel
theorem dX8_woken_34 : decode cX8_woken 34 = .ok (.ifCond .ne 10, 3) := by decide +kernel
theorem dX8_woken_37 : decode cX8_woken 37 = .ok (.aload_n 3, 1) := by decide +kernel
theorem dX8_woken_38 : decode cX8_woken 38 = .ok (.getfield 202, 3) := by decide +kernel
theorem dX8_woken_41 : decode cX8_woken 41 = .ok (.goto 5, 3) := by decide +kernel
theorem dX8_woken_44 : decode cX8_woken 44 = .ok (.iload 4, 2) := by decide +kernel
theorem dX8_woken_46 : decode cX8_woken 46 = .ok (.ireturn, 1) := by decide +kernel
theorem dX8_walk_0 : decode cX8_walk 0 = .ok (.iload_n 1, 1) := by decide +kernel
theorem dX8_walk_1 : decode cX8_walk 1 = .ok (.iconst 0, 1) := by decide +kernel
theorem dX8_walk_2 : decode cX8_walk 2 = .ok (.iconst 2, 1) := by decide +kernel
theorem dX8_walk_3 : decode cX8_walk 3 = .ok (.invokestatic 83, 3) := by decide +kernel
theorem dX8_walk_6 : decode cX8_walk 6 = .ok (.ifCond .ne 5, 3) := by decide +kernel
theorem dX8_walk_9 : decode cX8_walk 9 = .ok (.iconst (-1), 1) := by decide +kernel
theorem dX8_walk_10 : decode cX8_walk 10 = .ok (.ireturn, 1) := by decide +kernel
theorem dX8_walk_11 : decode cX8_walk 11 = .ok (.iload_n 1, 1) := by decide +kernel
theorem dX8_walk_12 : decode cX8_walk 12 = .ok (.iconst 2, 1) := by decide +kernel
theorem dX8_walk_13 : decode cX8_walk 13 = .ok (.if_icmp .ne 11, 3) := by decide +kernel
theorem dX8_walk_16 : decode cX8_walk 16 = .ok (.aload_n 0, 1) := by decide +kernel
theorem dX8_walk_17 : decode cX8_walk 17 = .ok (.getfield 35, 3) := by decide +kernel
theorem dX8_walk_20 : decode cX8_walk 20 = .ok (.invokevirtual 205, 3) := by decide +kernel
theorem dX8_walk_23 : decode cX8_walk 23 = .ok (.ireturn, 1) := by decide +kernel
theorem dX8_walk_24 : decode cX8_walk 24 = .ok (.aload_n 0, 1) := by decide +kernel
theorem dX8_walk_25 : decode cX8_walk 25 = .ok (.getfield 10, 3) := by decide +kernel
theorem dX8_walk_28 : decode cX8_walk 28 = .ok (.invokevirtual 208, 3) := by decide +kernel
theorem dX8_walk_31 : decode cX8_walk 31 = .ok (.istore_n 2, 1) := by decide +kernel
theorem dX8_walk_32 : decode cX8_walk 32 = .ok (.iload_n 2, 1) := by decide +kernel
theorem dX8_walk_33 : decode cX8_walk 33 = .ok (.ifCond .ge 6, 3) := by decide +kernel
theorem dX8_walk_36 : decode cX8_walk 36 = .ok (.bipush (-2), 2) := by decide +kernel
theorem dX8_walk_38 : decode cX8_walk 38 = .ok (.ireturn, 1) := by decide +kernel
theorem dX8_walk_39 : decode cX8_walk 39 = .ok (.iload_n 1, 1) := by decide +kernel
theorem dX8_walk_40 : decode cX8_walk 40 = .ok (.ifCond .ne 17, 3) := by decide +kernel
theorem dX8_walk_43 : decode cX8_walk 43 = .ok (.aload_n 0, 1) := by decide +kernel
theorem dX8_walk_44 : decode cX8_walk 44 = .ok (.getfield 10, 3) := by decide +kernel
theorem dX8_walk_47 : decode cX8_walk 47 = .ok (.getfield 211, 3) := by decide +kernel
theorem dX8_walk_50 : decode cX8_walk 50 = .ok (.iload_n 2, 1) := by decide +kernel
theorem dX8_walk_51 : decode cX8_walk 51 = .ok (.invokestatic 214, 3) := by decide +kernel
theorem dX8_walk_54 : decode cX8_walk 54 = .ok (.goto 4, 3) := by decide +kernel
theorem dX8_walk_57 : decode cX8_walk 57 = .ok (.iload_n 2, 1) := by decide +kernel
theorem dX8_walk_58 : decode cX8_walk 58 = .ok (.ireturn, 1) := by decide +kernel
theorem dX8_judge_0 : decode cX8_judge 0 = .ok (.iload_n 1, 1) := by decide +kernel
theorem dX8_judge_1 : decode cX8_judge 1 = .ok (.invokestatic 217, 3) := by decide +kernel
theorem dX8_judge_4 : decode cX8_judge 4 = .ok (.ifCond .eq 11, 3) := by decide +kernel
theorem dX8_judge_7 : decode cX8_judge 7 = .ok (.aload_n 0, 1) := by decide +kernel
theorem dX8_judge_8 : decode cX8_judge 8 = .ok (.iload_n 2, 1) := by decide +kernel
theorem dX8_judge_9 : decode cX8_judge 9 = .ok (.invokevirtual 141, 3) := by decide +kernel
theorem dX8_judge_12 : decode cX8_judge 12 = .ok (.ifCond .ne 5, 3) := by decide +kernel
theorem dX8_judge_15 : decode cX8_judge 15 = .ok (.iconst (-1), 1) := by decide +kernel
theorem dX8_judge_16 : decode cX8_judge 16 = .ok (.ireturn, 1) := by decide +kernel
theorem dX8_judge_17 : decode cX8_judge 17 = .ok (.aload_n 0, 1) := by decide +kernel
theorem dX8_judge_18 : decode cX8_judge 18 = .ok (.iload_n 1, 1) := by decide +kernel
theorem dX8_judge_19 : decode cX8_judge 19 = .ok (.invokevirtual 220, 3) := by decide +kernel
theorem dX8_judge_22 : decode cX8_judge 22 = .ok (.istore_n 3, 1) := by decide +kernel
theorem dX8_judge_23 : decode cX8_judge 23 = .ok (.iload_n 3, 1) := by decide +kernel
theorem dX8_judge_24 : decode cX8_judge 24 = .ok (.ifCond .eq 7, 3) := by decide +kernel
theorem dX8_judge_27 : decode cX8_judge 27 = .ok (.iload_n 3, 1) := by decide +kernel
theorem dX8_judge_28 : decode cX8_judge 28 = .ok (.goto 29, 3) := by decide +kernel
theorem dX8_judge_31 : decode cX8_judge 31 = .ok (.aload_n 0, 1) := by decide +kernel
theorem dX8_judge_32 : decode cX8_judge 32 = .ok (.getfield 35, 3) := by decide +kernel
theorem dX8_judge_35 : decode cX8_judge 35 = .ok (.aload_n 0, 1) := by decide +kernel
theorem dX8_judge_36 : decode cX8_judge 36 = .ok (.getfield 62, 3) := by decide +kernel
theorem dX8_judge_39 : decode cX8_judge 39 = .ok (.iload_n 1, 1) := by decide +kernel
theorem dX8_judge_40 : decode cX8_judge 40 = .ok (.bipush 10, 2) := by decide +kernel
theorem dX8_judge_42 : decode cX8_judge 42 = .ok (.idiv, 1) := by decide +kernel
theorem dX8_judge_43 : decode cX8_judge 43 = .ok (.aaload, 1) := by decide +kernel
theorem dX8_judge_44 : decode cX8_judge 44 = .ok (.aload_n 0, 1) := by decide +kernel
theorem dX8_judge_45 : decode cX8_judge 45 = .ok (.getfield 62, 3) := by decide +kernel
theorem dX8_judge_48 : decode cX8_judge 48 = .ok (.iload_n 1, 1) := by decide +kernel
theorem dX8_judge_49 : decode cX8_judge 49 = .ok (.bipush 10, 2) := by decide +kernel
theorem dX8_judge_51 : decode cX8_judge 51 = .ok (.irem, 1) := by decide +kernel
theorem dX8_judge_52 : decode cX8_judge 52 = .ok (.aaload, 1) := by decide +kernel
theorem dX8_judge_53 : decode cX8_judge 53 = .ok (.iload_n 2, 1) := by decide +kernel
theorem dX8_judge_54 : decode cX8_judge 54 = .ok (.invokevirtual 223, 3) := by decide +kernel
theorem dX8_judge_57 : decode cX8_judge 57 = .ok (.ireturn, 1) := by decide +kernel
theorem dX8_fits_0 : decode cX8_fits 0 = .ok (.iload_n 1, 1) := by decide +kernel
theorem dX8_fits_1 : decode cX8_fits 1 = .ok (.invokestatic 217, 3) := by decide +kernel
theorem dX8_fits_4 : decode cX8_fits 4 = .ok (.ifCond .eq 38, 3) := by decide +kernel
theorem dX8_fits_7 : decode cX8_fits 7 = .ok (.iload_n 2, 1) := by decide +kernel
theorem dX8_fits_8 : decode cX8_fits 8 = .ok (.ifCond .lt 34, 3) := by decide +kernel
theorem dX8_fits_11 : decode cX8_fits 11 = .ok (.aload_n 0, 1) := by decide +kernel
theorem dX8_fits_12 : decode cX8_fits 12 = .ok (.iload_n 2, 1) := by decide +kernel
theorem dX8_fits_13 : decode cX8_fits 13 = .ok (.bipush 10, 2) := by decide +kernel
theorem dX8_fits_15 : decode cX8_fits 15 = .ok (.idiv, 1) := by decide +kernel
theorem dX8_fits_16 : decode cX8_fits 16 = .ok (.invokevirtual 141, 3) := by decide +kernel
theorem dX8_fits_19 : decode cX8_fits 19 = .ok (.ifCond .eq 23, 3) := by decide +kernel
theorem dX8_fits_22 : decode cX8_fits 22 = .ok (.aload_n 0, 1) := by decide +kernel
theorem dX8_fits_23 : decode cX8_fits 23 = .ok (.iload_n 2, 1) := by decide +kernel
theorem dX8_fits_24 : decode cX8_fits 24 = .ok (.bipush 10, 2) := by decide +kernel
theorem dX8_fits_26 : decode cX8_fits 26 = .ok (.irem, 1) := by decide +kernel
theorem dX8_fits_27 : decode cX8_fits 27 = .ok (.invokevirtual 141, 3) := by decide +kernel
theorem dX8_fits_30 : decode cX8_fits 30 = .ok (.ifCond .eq 12, 3) := by decide +kernel
theorem dX8_fits_33 : decode cX8_fits 33 = .ok (.iload_n 3, 1) := by decide +kernel
theorem dX8_fits_34 : decode cX8_fits 34 = .ok (.iconst 0, 1) := by decide +kernel
theorem dX8_fits_35 : decode cX8_fits 35 = .ok (.iconst 3, 1) := by decide +kernel
theorem dX8_fits_36 : decode cX8_fits 36 = .ok (.invokestatic 83, 3) := by decide +kernel
theorem dX8_fits_39 : decode cX8_fits 39 = .ok (.ifCond .ne 5, 3) := by decide +kernel
theorem dX8_fits_42 : decode cX8_fits 42 = .ok (.iconst (-1), 1) := by decide +kernel
theorem dX8_fits_43 : decode cX8_fits 43 = .ok (.ireturn, 1) := by decide +kernel
theorem dX8_fits_44 : decode cX8_fits 44 = .ok (.aload_n 0, 1) := by decide +kernel
theorem dX8_fits_45 : decode cX8_fits 45 = .ok (.iload_n 1, 1) := by decide +kernel
theorem dX8_fits_46 : decode cX8_fits 46 = .ok (.invokevirtual 220, 3) := by decide +kernel
theorem dX8_fits_49 : decode cX8_fits 49 = .ok (.istore 4, 2) := by decide +kernel
theorem dX8_fits_51 : decode cX8_fits 51 = .ok (.iload 4, 2) := by decide +kernel
theorem dX8_fits_53 : decode cX8_fits 53 = .ok (.ifCond .eq 6, 3) := by decide +kernel
theorem dX8_fits_56 : decode cX8_fits 56 = .ok (.iload 4, 2) := by decide +kernel
theorem dX8_fits_58 : decode cX8_fits 58 = .ok (.ireturn, 1) := by decide +kernel
theorem dX8_fits_59 : decode cX8_fits 59 = .ok (.aload_n 0, 1) := by decide +kernel
theorem dX8_fits_60 : decode cX8_fits 60 = .ok (.getfield 35, 3) := by decide +kernel
theorem dX8_fits_63 : decode cX8_fits 63 = .ok (.aload_n 0, 1) := by decide +kernel
theorem dX8_fits_64 : decode cX8_fits 64 = .ok (.getfield 62, 3) := by decide +kernel
theorem dX8_fits_67 : decode cX8_fits 67 = .ok (.iload_n 1, 1) := by decide +kernel
theorem dX8_fits_68 : decode cX8_fits 68 = .ok (.bipush 10, 2) := by decide +kernel
theorem dX8_fits_70 : decode cX8_fits 70 = .ok (.idiv, 1) := by decide +kernel
theorem dX8_fits_71 : decode cX8_fits 71 = .ok (.aaload, 1) := by decide +kernel
theorem dX8_fits_72 : decode cX8_fits 72 = .ok (.aload_n 0, 1) := by decide +kernel
theorem dX8_fits_73 : decode cX8_fits 73 = .ok (.getfield 62, 3) := by decide +kernel
theorem dX8_fits_76 : decode cX8_fits 76 = .ok (.iload_n 1, 1) := by decide +kernel
theorem dX8_fits_77 : decode cX8_fits 77 = .ok (.bipush 10, 2) := by decide +kernel
theorem dX8_fits_79 : decode cX8_fits 79 = .ok (.irem, 1) := by decide +kernel
theorem dX8_fits_80 : decode cX8_fits 80 = .ok (.aaload, 1) := by decide +kernel
theorem dX8_fits_81 : decode cX8_fits 81 = .ok (.iload_n 2, 1) := by decide +kernel
theorem dX8_fits_82 : decode cX8_fits 82 = .ok (.iload_n 3, 1) := by decide +kernel
theorem dX8_fits_83 : decode cX8_fits 83 = .ok (.iconst 2, 1) := by decide +kernel
theorem dX8_fits_84 : decode cX8_fits 84 = .ok (.if_icmp .ge 7, 3) := by decide +kernel
theorem dX8_fits_87 : decode cX8_fits 87 = .ok (.iconst 1, 1) := by decide +kernel
theorem dX8_fits_88 : decode cX8_fits 88 = .ok (.goto 4, 3) := by decide +kernel
theorem dX8_fits_91 : decode cX8_fits 91 = .ok (.iconst 2, 1) := by decide +kernel
theorem dX8_fits_92 : decode cX8_fits 92 = .ok (.invokevirtual 227, 3) := by decide +kernel
theorem dX8_fits_95 : decode cX8_fits 95 = .ok (.iload_n 3, 1) := by decide +kernel
theorem dX8_fits_96 : decode cX8_fits 96 = .ok (.iconst 2, 1) := by decide +kernel
theorem dX8_fits_97 : decode cX8_fits 97 = .ok (.irem, 1) := by decide +kernel
theorem dX8_fits_98 : decode cX8_fits 98 = .ok (.ifCond .ne 13, 3) := by decide +kernel
theorem dX8_fits_101 : decode cX8_fits 101 = .ok (.aload_n 0, 1) := by decide +kernel
theorem dX8_fits_102 : decode cX8_fits 102 = .ok (.getfield 35, 3) := by decide +kernel
theorem dX8_fits_105 : decode cX8_fits 105 = .ok (.getfield 231, 3) := by decide +kernel
theorem dX8_fits_108 : decode cX8_fits 108 = .ok (.goto 10, 3) := by decide +kernel
theorem dX8_fits_111 : decode cX8_fits 111 = .ok (.aload_n 0, 1) := by decide +kernel
theorem dX8_fits_112 : decode cX8_fits 112 = .ok (.getfield 35, 3) := by decide +kernel
theorem dX8_fits_115 : decode cX8_fits 115 = .ok (.getfield 234, 3) := by decide +kernel
theorem dX8_fits_118 : decode cX8_fits 118 = .ok (.ireturn, 1) := by decide +kernel
theorem dX8_dealt_0 : decode cX8_dealt 0 = .ok (.iload_n 1, 1) := by decide +kernel
theorem dX8_dealt_1 : decode cX8_dealt 1 = .ok (.iconst 0, 1) := by decide +kernel
theorem dX8_dealt_2 : decode cX8_dealt 2 = .ok (.iconst 1, 1) := by decide +kernel
theorem dX8_dealt_3 : decode cX8_dealt 3 = .ok (.invokestatic 83, 3) := by decide +kernel
theorem dX8_dealt_6 : decode cX8_dealt 6 = .ok (.ifCond .ne 5, 3) := by decide +kernel
theorem dX8_dealt_9 : decode cX8_dealt 9 = .ok (.iconst (-1), 1) := by decide +kernel
theorem dX8_dealt_10 : decode cX8_dealt 10 = .ok (.ireturn, 1) := by decide +kernel
theorem dX8_dealt_11 : decode cX8_dealt 11 = .ok (.aload_n 0, 1) := by decide +kernel
theorem dX8_dealt_12 : decode cX8_dealt 12 = .ok (.getfield 35, 3) := by decide +kernel
theorem dX8_dealt_15 : decode cX8_dealt 15 = .ok (.invokevirtual 237, 3) := by decide +kernel
theorem dX8_dealt_18 : decode cX8_dealt 18 = .ok (.iload_n 1, 1) := by decide +kernel
theorem dX8_dealt_19 : decode cX8_dealt 19 = .ok (.ifCond .ne 13, 3) := by decide +kernel
theorem dX8_dealt_22 : decode cX8_dealt 22 = .ok (.aload_n 0, 1) := by decide +kernel
theorem dX8_dealt_23 : decode cX8_dealt 23 = .ok (.getfield 35, 3) := by decide +kernel
theorem dX8_dealt_26 : decode cX8_dealt 26 = .ok (.getfield 176, 3) := by decide +kernel
theorem dX8_dealt_29 : decode cX8_dealt 29 = .ok (.goto 10, 3) := by decide +kernel
theorem dX8_dealt_32 : decode cX8_dealt 32 = .ok (.aload_n 0, 1) := by decide +kernel
theorem dX8_dealt_33 : decode cX8_dealt 33 = .ok (.getfield 35, 3) := by decide +kernel
theorem dX8_dealt_36 : decode cX8_dealt 36 = .ok (.getfield 240, 3) := by decide +kernel
theorem dX8_dealt_39 : decode cX8_dealt 39 = .ok (.ireturn, 1) := by decide +kernel
theorem dX8_lines_0 : decode cX8_lines 0 = .ok (.iload_n 1, 1) := by decide +kernel
theorem dX8_lines_1 : decode cX8_lines 1 = .ok (.bipush (-2), 2) := by decide +kernel
theorem dX8_lines_3 : decode cX8_lines 3 = .ok (.bipush 18, 2) := by decide +kernel
theorem dX8_lines_5 : decode cX8_lines 5 = .ok (.invokestatic 83, 3) := by decide +kernel
theorem dX8_lines_8 : decode cX8_lines 8 = .ok (.ifCond .ne 5, 3) := by decide +kernel
theorem dX8_lines_11 : decode cX8_lines 11 = .ok (.iconst (-1), 1) := by decide +kernel
theorem dX8_lines_12 : decode cX8_lines 12 = .ok (.ireturn, 1) := by decide +kernel
theorem dX8_lines_13 : decode cX8_lines 13 = .ok (.iload_n 1, 1) := by decide +kernel
theorem dX8_lines_14 : decode cX8_lines 14 = .ok (.ifCond .lt 12, 3) := by decide +kernel
theorem dX8_lines_17 : decode cX8_lines 17 = .ok (.aload_n 0, 1) := by decide +kernel
theorem dX8_lines_18 : decode cX8_lines 18 = .ok (.getfield 10, 3) := by decide +kernel
theorem dX8_lines_21 : decode cX8_lines 21 = .ok (.iload_n 1, 1) := by decide +kernel
theorem dX8_lines_22 : decode cX8_lines 22 = .ok (.invokevirtual 243, 3) := by decide +kernel
theorem dX8_lines_25 : decode cX8_lines 25 = .ok (.ireturn, 1) := by decide +kernel
theorem dX8_lines_26 : decode cX8_lines 26 = .ok (.aload_n 0, 1) := by decide +kernel
theorem dX8_lines_27 : decode cX8_lines 27 = .ok (.getfield 10, 3) := by decide +kernel
theorem dX8_lines_30 : decode cX8_lines 30 = .ok (.invokevirtual 246, 3) := by decide +kernel
theorem dX8_lines_33 : decode cX8_lines 33 = .ok (.istore_n 2, 1) := by decide +kernel
theorem dX8_lines_34 : decode cX8_lines 34 = .ok (.iload_n 1, 1) := by decide +kernel
theorem dX8_lines_35 : decode cX8_lines 35 = .ok (.iconst (-1), 1) := by decide +kernel
theorem dX8_lines_36 : decode cX8_lines 36 = .ok (.if_icmp .ne 10, 3) := by decide +kernel
theorem dX8_lines_39 : decode cX8_lines 39 = .ok (.iload_n 2, 1) := by decide +kernel
theorem dX8_lines_40 : decode cX8_lines 40 = .ok (.invokestatic 249, 3) := by decide +kernel
theorem dX8_lines_43 : decode cX8_lines 43 = .ok (.goto 4, 3) := by decide +kernel
theorem dX8_lines_46 : decode cX8_lines 46 = .ok (.iload_n 2, 1) := by decide +kernel
theorem dX8_lines_47 : decode cX8_lines 47 = .ok (.ireturn, 1) := by decide +kernel
theorem dX8_byTurns_0 : decode cX8_byTurns 0 = .ok (.iload_n 1, 1) := by decide +kernel
theorem dX8_byTurns_1 : decode cX8_byTurns 1 = .ok (.iconst 1, 1) := by decide +kernel
theorem dX8_byTurns_2 : decode cX8_byTurns 2 = .ok (.iconst 4, 1) := by decide +kernel
theorem dX8_byTurns_3 : decode cX8_byTurns 3 = .ok (.invokestatic 83, 3) := by decide +kernel
theorem dX8_byTurns_6 : decode cX8_byTurns 6 = .ok (.ifCond .eq 12, 3) := by decide +kernel
theorem dX8_byTurns_9 : decode cX8_byTurns 9 = .ok (.iload_n 2, 1) := by decide +kernel
theorem dX8_byTurns_10 : decode cX8_byTurns 10 = .ok (.iconst 0, 1) := by decide +kernel
theorem dX8_byTurns_11 : decode cX8_byTurns 11 = .ok (.iconst 1, 1) := by decide +kernel
theorem dX8_byTurns_12 : decode cX8_byTurns 12 = .ok (.invokestatic 83, 3) := by decide +kernel
theorem dX8_byTurns_15 : decode cX8_byTurns 15 = .ok (.ifCond .ne 5, 3) := by decide +kernel
theorem dX8_byTurns_18 : decode cX8_byTurns 18 = .ok (.iconst (-1), 1) := by decide +kernel
theorem dX8_byTurns_19 : decode cX8_byTurns 19 = .ok (.ireturn, 1) := by decide +kernel
theorem dX8_byTurns_20 : decode cX8_byTurns 20 = .ok (.aload_n 0, 1) := by decide +kernel
theorem dX8_byTurns_21 : decode cX8_byTurns 21 = .ok (.getfield 35, 3) := by decide +kernel
theorem dX8_byTurns_24 : decode cX8_byTurns 24 = .ok (.iload_n 1, 1) := by decide +kernel
theorem dX8_byTurns_25 : decode cX8_byTurns 25 = .ok (.invokevirtual 254, 3) := by decide +kernel
theorem dX8_byTurns_28 : decode cX8_byTurns 28 = .ok (.istore_n 3, 1) := by decide +kernel
theorem dX8_byTurns_29 : decode cX8_byTurns 29 = .ok (.iload_n 2, 1) := by decide +kernel
theorem dX8_byTurns_30 : decode cX8_byTurns 30 = .ok (.ifCond .ne 7, 3) := by decide +kernel
theorem dX8_byTurns_33 : decode cX8_byTurns 33 = .ok (.iload_n 3, 1) := by decide +kernel
theorem dX8_byTurns_34 : decode cX8_byTurns 34 = .ok (.goto 10, 3) := by decide +kernel
theorem dX8_byTurns_37 : decode cX8_byTurns 37 = .ok (.aload_n 0, 1) := by decide +kernel
theorem dX8_byTurns_38 : decode cX8_byTurns 38 = .ok (.getfield 35, 3) := by decide +kernel
theorem dX8_byTurns_41 : decode cX8_byTurns 41 = .ok (.getfield 257, 3) := by decide +kernel
theorem dX8_byTurns_44 : decode cX8_byTurns 44 = .ok (.ireturn, 1) := by decide +kernel
theorem dX8_drawn_0 : decode cX8_drawn 0 = .ok (.iload_n 2, 1) := by decide +kernel
theorem dX8_drawn_1 : decode cX8_drawn 1 = .ok (.sipush 10000, 3) := by decide +kernel
theorem dX8_drawn_4 : decode cX8_drawn 4 = .ok (.idiv, 1) := by decide +kernel
theorem dX8_drawn_5 : decode cX8_drawn 5 = .ok (.istore 4, 2) := by decide +kernel
theorem dX8_drawn_7 : decode cX8_drawn 7 = .ok (.iload_n 2, 1) := by decide +kernel
theorem dX8_drawn_8 : decode cX8_drawn 8 = .ok (.bipush 100, 2) := by decide +kernel
theorem dX8_drawn_10 : decode cX8_drawn 10 = .ok (.idiv, 1) := by decide +kernel
theorem dX8_drawn_11 : decode cX8_drawn 11 = .ok (.bipush 100, 2) := by decide +kernel
theorem dX8_drawn_13 : decode cX8_drawn 13 = .ok (.irem, 1) := by decide +kernel
theorem dX8_drawn_14 : decode cX8_drawn 14 = .ok (.istore 5, 2) := by decide +kernel
theorem dX8_drawn_16 : decode cX8_drawn 16 = .ok (.iload_n 2, 1) := by decide +kernel
theorem dX8_drawn_17 : decode cX8_drawn 17 = .ok (.bipush 100, 2) := by decide +kernel
theorem dX8_drawn_19 : decode cX8_drawn 19 = .ok (.irem, 1) := by decide +kernel
theorem dX8_drawn_20 : decode cX8_drawn 20 = .ok (.istore 6, 2) := by decide +kernel
theorem dX8_drawn_22 : decode cX8_drawn 22 = .ok (.iload 4, 2) := by decide +kernel
theorem dX8_drawn_24 : decode cX8_drawn 24 = .ok (.iconst 1, 1) := by decide +kernel
theorem dX8_drawn_25 : decode cX8_drawn 25 = .ok (.bipush 30, 2) := by decide +kernel
theorem dX8_drawn_27 : decode cX8_drawn 27 = .ok (.invokestatic 83, 3) := by decide +kernel
theorem dX8_drawn_30 : decode cX8_drawn 30 = .ok (.ifCond .eq 25, 3) := by decide +kernel
theorem dX8_drawn_33 : decode cX8_drawn 33 = .ok (.iload 5, 2) := by decide +kernel
theorem dX8_drawn_35 : decode cX8_drawn 35 = .ok (.iconst 1, 1) := by decide +kernel
theorem dX8_drawn_36 : decode cX8_drawn 36 = .ok (.bipush 24, 2) := by decide +kernel
theorem dX8_drawn_38 : decode cX8_drawn 38 = .ok (.invokestatic 83, 3) := by decide +kernel
theorem dX8_drawn_41 : decode cX8_drawn 41 = .ok (.ifCond .eq 14, 3) := by decide +kernel
theorem dX8_drawn_44 : decode cX8_drawn 44 = .ok (.iload 6, 2) := by decide +kernel
theorem dX8_drawn_46 : decode cX8_drawn 46 = .ok (.iconst 0, 1) := by decide +kernel
theorem dX8_drawn_47 : decode cX8_drawn 47 = .ok (.bipush 12, 2) := by decide +kernel
theorem dX8_drawn_49 : decode cX8_drawn 49 = .ok (.invokestatic 83, 3) := by decide +kernel
theorem dX8_drawn_52 : decode cX8_drawn 52 = .ok (.ifCond .ne 5, 3) := by decide +kernel
theorem dX8_drawn_55 : decode cX8_drawn 55 = .ok (.iconst (-1), 1) := by decide +kernel
theorem dX8_drawn_56 : decode cX8_drawn 56 = .ok (.ireturn, 1) := by decide +kernel
theorem dX8_drawn_57 : decode cX8_drawn 57 = .ok (.iload_n 3, 1) := by decide +kernel
theorem dX8_drawn_58 : decode cX8_drawn 58 = .ok (.iconst (-1), 1) := by decide +kernel
theorem dX8_drawn_59 : decode cX8_drawn 59 = .ok (.if_icmp .eq 13, 3) := by decide +kernel
theorem dX8_drawn_62 : decode cX8_drawn 62 = .ok (.aload_n 0, 1) := by decide +kernel
theorem dX8_drawn_63 : decode cX8_drawn 63 = .ok (.iload_n 3, 1) := by decide +kernel
theorem dX8_drawn_64 : decode cX8_drawn 64 = .ok (.invokevirtual 141, 3) := by decide +kernel
theorem dX8_drawn_67 : decode cX8_drawn 67 = .ok (.ifCond .ne 5, 3) := by decide +kernel
theorem dX8_drawn_70 : decode cX8_drawn 70 = .ok (.iconst (-1), 1) := by decide +kernel
theorem dX8_drawn_71 : decode cX8_drawn 71 = .ok (.ireturn, 1) := by decide +kernel
theorem dX8_drawn_72 : decode cX8_drawn 72 = .ok (.aload_n 0, 1) := by decide +kernel
theorem dX8_drawn_73 : decode cX8_drawn 73 = .ok (.getfield 35, 3) := by decide +kernel
theorem dX8_drawn_76 : decode cX8_drawn 76 = .ok (.iload_n 1, 1) := by decide +kernel
theorem dX8_drawn_77 : decode cX8_drawn 77 = .ok (.iload 4, 2) := by decide +kernel
theorem dX8_drawn_79 : decode cX8_drawn 79 = .ok (.iload 5, 2) := by decide +kernel
theorem dX8_drawn_81 : decode cX8_drawn 81 = .ok (.iload 6, 2) := by decide +kernel
theorem dX8_drawn_83 : decode cX8_drawn 83 = .ok (.iload_n 3, 1) := by decide +kernel
theorem dX8_drawn_84 : decode cX8_drawn 84 = .ok (.invokevirtual 260, 3) := by decide +kernel
theorem dX8_drawn_87 : decode cX8_drawn 87 = .ok (.ireturn, 1) := by decide +kernel
theorem dX8_hour_0 : decode cX8_hour 0 = .ok (.iload_n 1, 1) := by decide +kernel
theorem dX8_hour_1 : decode cX8_hour 1 = .ok (.invokestatic 119, 3) := by decide +kernel
theorem dX8_hour_4 : decode cX8_hour 4 = .ok (.ifCond .ne 5, 3) := by decide +kernel
theorem dX8_hour_7 : decode cX8_hour 7 = .ok (.iconst (-1), 1) := by decide +kernel
theorem dX8_hour_8 : decode cX8_hour 8 = .ok (.ireturn, 1) := by decide +kernel
theorem dX8_hour_9 : decode cX8_hour 9 = .ok (.aload_n 0, 1) := by decide +kernel
theorem dX8_hour_10 : decode cX8_hour 10 = .ok (.getfield 10, 3) := by decide +kernel
theorem dX8_hour_13 : decode cX8_hour 13 = .ok (.invokevirtual 160, 3) := by decide +kernel
theorem dX8_hour_16 : decode cX8_hour 16 = .ok (.istore_n 2, 1) := by decide +kernel
theorem dX8_hour_17 : decode cX8_hour 17 = .ok (.aload_n 0, 1) := by decide +kernel
theorem dX8_hour_18 : decode cX8_hour 18 = .ok (.getfield 10, 3) := by decide +kernel
theorem dX8_hour_21 : decode cX8_hour 21 = .ok (.iload_n 1, 1) := by decide +kernel
theorem dX8_hour_22 : decode cX8_hour 22 = .ok (.putfield 211, 3) := by decide +kernel
theorem dX8_hour_25 : decode cX8_hour 25 = .ok (.aload_n 0, 1) := by decide +kernel
theorem dX8_hour_26 : decode cX8_hour 26 = .ok (.getfield 10, 3) := by decide +kernel
theorem dX8_hour_29 : decode cX8_hour 29 = .ok (.aload_n 0, 1) := by decide +kernel
theorem dX8_hour_30 : decode cX8_hour 30 = .ok (.getfield 19, 3) := by decide +kernel
theorem dX8_hour_33 : decode cX8_hour 33 = .ok (.iload_n 1, 1) := by decide +kernel
theorem dX8_hour_34 : decode cX8_hour 34 = .ok (.invokevirtual 264, 3) := by decide +kernel
theorem dX8_hour_37 : decode cX8_hour 37 = .ok (.aload_n 0, 1) := by decide +kernel
theorem dX8_hour_38 : decode cX8_hour 38 = .ok (.getfield 10, 3) := by decide +kernel
theorem dX8_hour_41 : decode cX8_hour 41 = .ok (.invokevirtual 160, 3) := by decide +kernel
theorem dX8_hour_44 : decode cX8_hour 44 = .ok (.istore_n 3, 1) := by decide +kernel
theorem dX8_hour_45 : decode cX8_hour 45 = .ok (.aload_n 0, 1) := by decide +kernel
theorem dX8_hour_46 : decode cX8_hour 46 = .ok (.getfield 49, 3) := by decide +kernel
theorem dX8_hour_49 : decode cX8_hour 49 = .ok (.iconst 0, 1) := by decide +kernel
theorem dX8_hour_50 : decode cX8_hour 50 = .ok (.iconst 1, 1) := by decide +kernel
theorem dX8_hour_51 : decode cX8_hour 51 = .ok (.invokevirtual 268, 3) := by decide +kernel
theorem dX8_hour_54 : decode cX8_hour 54 = .ok (.aload_n 0, 1) := by decide +kernel
theorem dX8_hour_55 : decode cX8_hour 55 = .ok (.getfield 49, 3) := by decide +kernel
theorem dX8_hour_58 : decode cX8_hour 58 = .ok (.iconst 4, 1) := by decide +kernel
theorem dX8_hour_59 : decode cX8_hour 59 = .ok (.iload_n 3, 1) := by decide +kernel
theorem dX8_hour_60 : decode cX8_hour 60 = .ok (.iload_n 2, 1) := by decide +kernel
theorem dX8_hour_61 : decode cX8_hour 61 = .ok (.iconst (-1), 1) := by decide +kernel
theorem dX8_hour_62 : decode cX8_hour 62 = .ok (.ixor, 1) := by decide +kernel
theorem dX8_hour_63 : decode cX8_hour 63 = .ok (.iand, 1) := by decide +kernel
theorem dX8_hour_64 : decode cX8_hour 64 = .ok (.invokestatic 249, 3) := by decide +kernel
theorem dX8_hour_67 : decode cX8_hour 67 = .ok (.invokevirtual 268, 3) := by decide +kernel
theorem dX8_hour_70 : decode cX8_hour 70 = .ok (.iload_n 3, 1) := by decide +kernel
theorem dX8_hour_71 : decode cX8_hour 71 = .ok (.invokestatic 249, 3) := by decide +kernel
theorem dX8_hour_74 : decode cX8_hour 74 = .ok (.ireturn, 1) := by decide +kernel
theorem dX8_telling_0 : decode cX8_telling 0 = .ok (.iload_n 1, 1) := by decide +kernel
theorem dX8_telling_1 : decode cX8_telling 1 = .ok (.invokestatic 119, 3) := by decide +kernel
theorem dX8_telling_4 : decode cX8_telling 4 = .ok (.ifCond .eq 13, 3) := by decide +kernel
theorem dX8_telling_7 : decode cX8_telling 7 = .ok (.iload_n 2, 1) := by decide +kernel
theorem dX8_telling_8 : decode cX8_telling 8 = .ok (.iconst 0, 1) := by decide +kernel
theorem dX8_telling_9 : decode cX8_telling 9 = .ok (.bipush 9, 2) := by decide +kernel
theorem dX8_telling_11 : decode cX8_telling 11 = .ok (.invokestatic 83, 3) := by decide +kernel
theorem dX8_telling_14 : decode cX8_telling 14 = .ok (.ifCond .ne 5, 3) := by decide +kernel
theorem dX8_telling_17 : decode cX8_telling 17 = .ok (.iconst (-1), 1) := by decide +kernel
theorem dX8_telling_18 : decode cX8_telling 18 = .ok (.ireturn, 1) := by decide +kernel
theorem dX8_telling_19 : decode cX8_telling 19 = .ok (.aload_n 0, 1) := by decide +kernel
theorem dX8_telling_20 : decode cX8_telling 20 = .ok (.getfield 10, 3) := by decide +kernel
theorem dX8_telling_23 : decode cX8_telling 23 = .ok (.getfield 122, 3) := by decide +kernel
theorem dX8_telling_26 : decode cX8_telling 26 = .ok (.iload_n 1, 1) := by decide +kernel
theorem dX8_telling_27 : decode cX8_telling 27 = .ok (.iaload, 1) := by decide +kernel
theorem dX8_telling_28 : decode cX8_telling 28 = .ok (.istore_n 3, 1) := by decide +kernel
theorem dX8_telling_29 : decode cX8_telling 29 = .ok (.aload_n 0, 1) := by decide +kernel
theorem dX8_telling_30 : decode cX8_telling 30 = .ok (.iload_n 3, 1) := by decide +kernel
theorem dX8_telling_31 : decode cX8_telling 31 = .ok (.invokevirtual 141, 3) := by decide +kernel
theorem dX8_telling_34 : decode cX8_telling 34 = .ok (.ifCond .ne 6, 3) := by decide +kernel
theorem dX8_telling_37 : decode cX8_telling 37 = .ok (.bipush (-5), 2) := by decide +kernel
theorem dX8_telling_39 : decode cX8_telling 39 = .ok (.ireturn, 1) := by decide +kernel
theorem dX8_telling_40 : decode cX8_telling 40 = .ok (.aload_n 0, 1) := by decide +kernel
theorem dX8_telling_41 : decode cX8_telling 41 = .ok (.getfield 10, 3) := by decide +kernel
theorem dX8_telling_44 : decode cX8_telling 44 = .ok (.iload_n 1, 1) := by decide +kernel
theorem dX8_telling_45 : decode cX8_telling 45 = .ok (.iload_n 2, 1) := by decide +kernel
theorem dX8_telling_46 : decode cX8_telling 46 = .ok (.invokevirtual 271, 3) := by decide +kernel
theorem dX8_telling_49 : decode cX8_telling 49 = .ok (.aload_n 0, 1) := by decide +kernel
theorem dX8_telling_50 : decode cX8_telling 50 = .ok (.getfield 49, 3) := by decide +kernel
theorem dX8_telling_53 : decode cX8_telling 53 = .ok (.iconst 1, 1) := by decide +kernel
theorem dX8_telling_54 : decode cX8_telling 54 = .ok (.iconst 1, 1) := by decide +kernel
theorem dX8_telling_55 : decode cX8_telling 55 = .ok (.invokevirtual 268, 3) := by decide +kernel
theorem dX8_telling_58 : decode cX8_telling 58 = .ok (.aload_n 0, 1) := by decide +kernel
theorem dX8_telling_59 : decode cX8_telling 59 = .ok (.getfield 10, 3) := by decide +kernel
theorem dX8_telling_62 : decode cX8_telling 62 = .ok (.getfield 157, 3) := by decide +kernel
theorem dX8_telling_65 : decode cX8_telling 65 = .ok (.iload_n 3, 1) := by decide +kernel
theorem dX8_telling_66 : decode cX8_telling 66 = .ok (.iaload, 1) := by decide +kernel
theorem dX8_telling_67 : decode cX8_telling 67 = .ok (.ireturn, 1) := by decide +kernel
theorem dX8_touch_0 : decode cX8_touch 0 = .ok (.iload_n 1, 1) := by decide +kernel
theorem dX8_touch_1 : decode cX8_touch 1 = .ok (.invokestatic 119, 3) := by decide +kernel
theorem dX8_touch_4 : decode cX8_touch 4 = .ok (.ifCond .ne 5, 3) := by decide +kernel
theorem dX8_touch_7 : decode cX8_touch 7 = .ok (.iconst (-1), 1) := by decide +kernel
theorem dX8_touch_8 : decode cX8_touch 8 = .ok (.ireturn, 1) := by decide +kernel
theorem dX8_touch_9 : decode cX8_touch 9 = .ok (.aload_n 0, 1) := by decide +kernel
theorem dX8_touch_10 : decode cX8_touch 10 = .ok (.getfield 10, 3) := by decide +kernel
theorem dX8_touch_13 : decode cX8_touch 13 = .ok (.getfield 122, 3) := by decide +kernel
theorem dX8_touch_16 : decode cX8_touch 16 = .ok (.iload_n 1, 1) := by decide +kernel
theorem dX8_touch_17 : decode cX8_touch 17 = .ok (.iaload, 1) := by decide +kernel
theorem dX8_touch_18 : decode cX8_touch 18 = .ok (.ifCond .ge 6, 3) := by decide +kernel
theorem dX8_touch_21 : decode cX8_touch 21 = .ok (.bipush (-5), 2) := by decide +kernel
theorem dX8_touch_23 : decode cX8_touch 23 = .ok (.ireturn, 1) := by decide +kernel
theorem dX8_touch_24 : decode cX8_touch 24 = .ok (.aload_n 0, 1) := by decide +kernel
theorem dX8_touch_25 : decode cX8_touch 25 = .ok (.getfield 10, 3) := by decide +kernel
theorem dX8_touch_28 : decode cX8_touch 28 = .ok (.iload_n 1, 1) := by decide +kernel
theorem dX8_touch_29 : decode cX8_touch 29 = .ok (.invokevirtual 198, 3) := by decide +kernel
theorem dX8_touch_32 : decode cX8_touch 32 = .ok (.pop, 1) := by decide +kernel
theorem dX8_touch_33 : decode cX8_touch 33 = .ok (.aload_n 0, 1) := by decide +kernel
theorem dX8_touch_34 : decode cX8_touch 34 = .ok (.getfield 10, 3) := by decide +kernel
theorem dX8_touch_37 : decode cX8_touch 37 = .ok (.getfield 202, 3) := by decide +kernel
theorem dX8_touch_40 : decode cX8_touch 40 = .ok (.invokestatic 249, 3) := by decide +kernel
theorem dX8_touch_43 : decode cX8_touch 43 = .ok (.istore_n 2, 1) := by decide +kernel
theorem dX8_touch_44 : decode cX8_touch 44 = .ok (.aload_n 0, 1) := by decide +kernel
theorem dX8_touch_45 : decode cX8_touch 45 = .ok (.getfield 49, 3) := by decide +kernel
theorem dX8_touch_48 : decode cX8_touch 48 = .ok (.iconst 2, 1) := by decide +kernel
theorem dX8_touch_49 : decode cX8_touch 49 = .ok (.iconst 1, 1) := by decide +kernel
theorem dX8_touch_50 : decode cX8_touch 50 = .ok (.invokevirtual 268, 3) := by decide +kernel
theorem dX8_touch_53 : decode cX8_touch 53 = .ok (.aload_n 0, 1) := by decide +kernel
theorem dX8_touch_54 : decode cX8_touch 54 = .ok (.getfield 49, 3) := by decide +kernel
theorem dX8_touch_57 : decode cX8_touch 57 = .ok (.iconst 3, 1) := by decide +kernel
theorem dX8_touch_58 : decode cX8_touch 58 = .ok (.iload_n 2, 1) := by decide +kernel
theorem dX8_touch_59 : decode cX8_touch 59 = .ok (.invokevirtual 268, 3) := by decide +kernel
theorem dX8_touch_62 : decode cX8_touch 62 = .ok (.iload_n 2, 1) := by decide +kernel
theorem dX8_touch_63 : decode cX8_touch 63 = .ok (.ireturn, 1) := by decide +kernel
theorem dX8_hold_0 : decode cX8_hold 0 = .ok (.aload_n 0, 1) := by decide +kernel
theorem dX8_hold_1 : decode cX8_hold 1 = .ok (.iload_n 1, 1) := by decide +kernel
theorem dX8_hold_2 : decode cX8_hold 2 = .ok (.invokevirtual 141, 3) := by decide +kernel
theorem dX8_hold_5 : decode cX8_hold 5 = .ok (.ifCond .eq 12, 3) := by decide +kernel
theorem dX8_hold_8 : decode cX8_hold 8 = .ok (.iload_n 2, 1) := by decide +kernel
theorem dX8_hold_9 : decode cX8_hold 9 = .ok (.iconst 0, 1) := by decide +kernel
theorem dX8_hold_10 : decode cX8_hold 10 = .ok (.iconst 1, 1) := by decide +kernel
theorem dX8_hold_11 : decode cX8_hold 11 = .ok (.invokestatic 83, 3) := by decide +kernel
theorem dX8_hold_14 : decode cX8_hold 14 = .ok (.ifCond .ne 5, 3) := by decide +kernel
theorem dX8_hold_17 : decode cX8_hold 17 = .ok (.iconst (-1), 1) := by decide +kernel
theorem dX8_hold_18 : decode cX8_hold 18 = .ok (.ireturn, 1) := by decide +kernel
theorem dX8_hold_19 : decode cX8_hold 19 = .ok (.aload_n 0, 1) := by decide +kernel
theorem dX8_hold_20 : decode cX8_hold 20 = .ok (.getfield 10, 3) := by decide +kernel
theorem dX8_hold_23 : decode cX8_hold 23 = .ok (.getfield 274, 3) := by decide +kernel
theorem dX8_hold_26 : decode cX8_hold 26 = .ok (.iload_n 1, 1) := by decide +kernel
theorem dX8_hold_27 : decode cX8_hold 27 = .ok (.iaload, 1) := by decide +kernel
theorem dX8_hold_28 : decode cX8_hold 28 = .ok (.istore_n 3, 1) := by decide +kernel
theorem dX8_hold_29 : decode cX8_hold 29 = .ok (.aload_n 0, 1) := by decide +kernel
theorem dX8_hold_30 : decode cX8_hold 30 = .ok (.getfield 10, 3) := by decide +kernel
theorem dX8_hold_33 : decode cX8_hold 33 = .ok (.getfield 274, 3) := by decide +kernel
theorem dX8_hold_36 : decode cX8_hold 36 = .ok (.iload_n 1, 1) := by decide +kernel
theorem dX8_hold_37 : decode cX8_hold 37 = .ok (.iload_n 2, 1) := by decide +kernel
theorem dX8_hold_38 : decode cX8_hold 38 = .ok (.iastore, 1) := by decide +kernel
theorem dX8_hold_39 : decode cX8_hold 39 = .ok (.iload_n 3, 1) := by decide +kernel
theorem dX8_hold_40 : decode cX8_hold 40 = .ok (.ireturn, 1) := by decide +kernel
theorem dX8_led_0 : decode cX8_led 0 = .ok (.iload_n 1, 1) := by decide +kernel
theorem dX8_led_1 : decode cX8_led 1 = .ok (.iconst 0, 1) := by decide +kernel
theorem dX8_led_2 : decode cX8_led 2 = .ok (.iconst 4, 1) := by decide +kernel
theorem dX8_led_3 : decode cX8_led 3 = .ok (.invokestatic 83, 3) := by decide +kernel
theorem dX8_led_6 : decode cX8_led 6 = .ok (.ifCond .eq 15, 3) := by decide +kernel
theorem dX8_led_9 : decode cX8_led 9 = .ok (.aload_n 0, 1) := by decide +kernel
theorem dX8_led_10 : decode cX8_led 10 = .ok (.getfield 49, 3) := by decide +kernel
theorem dX8_led_13 : decode cX8_led 13 = .ok (.getfield 277, 3) := by decide +kernel
theorem dX8_led_16 : decode cX8_led 16 = .ok (.iload_n 1, 1) := by decide +kernel
theorem dX8_led_17 : decode cX8_led 17 = .ok (.iaload, 1) := by decide +kernel
theorem dX8_led_18 : decode cX8_led 18 = .ok (.goto 4, 3) := by decide +kernel
theorem dX8_led_21 : decode cX8_led 21 = .ok (.iconst (-1), 1) := by decide +kernel
theorem dX8_led_22 : decode cX8_led 22 = .ok (.ireturn, 1) := by decide +kernel
theorem dX8_image_0 : decode cX8_image 0 = .ok (.aload_n 0, 1) := by decide +kernel
theorem dX8_image_1 : decode cX8_image 1 = .ok (.getfield 49, 3) := by decide +kernel
theorem dX8_image_4 : decode cX8_image 4 = .ok (.aload_n 0, 1) := by decide +kernel
theorem dX8_image_5 : decode cX8_image 5 = .ok (.getfield 10, 3) := by decide +kernel
theorem dX8_image_8 : decode cX8_image 8 = .ok (.invokevirtual 280, 3) := by decide +kernel
theorem dX8_image_11 : decode cX8_image 11 = .ok (.aload_n 0, 1) := by decide +kernel
theorem dX8_image_12 : decode cX8_image 12 = .ok (.getfield 49, 3) := by decide +kernel
theorem dX8_image_15 : decode cX8_image 15 = .ok (.getfield 277, 3) := by decide +kernel
theorem dX8_image_18 : decode cX8_image 18 = .ok (.iconst 0, 1) := by decide +kernel
theorem dX8_image_19 : decode cX8_image 19 = .ok (.iaload, 1) := by decide +kernel
theorem dX8_image_20 : decode cX8_image 20 = .ok (.ireturn, 1) := by decide +kernel
theorem dX8_back_0 : decode cX8_back 0 = .ok (.aload_n 0, 1) := by decide +kernel
theorem dX8_back_1 : decode cX8_back 1 = .ok (.getfield 49, 3) := by decide +kernel
theorem dX8_back_4 : decode cX8_back 4 = .ok (.getfield 284, 3) := by decide +kernel
theorem dX8_back_7 : decode cX8_back 7 = .ok (.ifCond .ne 6, 3) := by decide +kernel
theorem dX8_back_10 : decode cX8_back 10 = .ok (.bipush (-5), 2) := by decide +kernel
theorem dX8_back_12 : decode cX8_back 12 = .ok (.ireturn, 1) := by decide +kernel
theorem dX8_back_13 : decode cX8_back 13 = .ok (.aload_n 0, 1) := by decide +kernel
theorem dX8_back_14 : decode cX8_back 14 = .ok (.getfield 49, 3) := by decide +kernel
theorem dX8_back_17 : decode cX8_back 17 = .ok (.aload_n 0, 1) := by decide +kernel
theorem dX8_back_18 : decode cX8_back 18 = .ok (.getfield 10, 3) := by decide +kernel
theorem dX8_back_21 : decode cX8_back 21 = .ok (.invokevirtual 288, 3) := by decide +kernel
theorem dX8_back_24 : decode cX8_back 24 = .ok (.aload_n 0, 1) := by decide +kernel
theorem dX8_back_25 : decode cX8_back 25 = .ok (.getfield 49, 3) := by decide +kernel
theorem dX8_back_28 : decode cX8_back 28 = .ok (.getfield 277, 3) := by decide +kernel
theorem dX8_back_31 : decode cX8_back 31 = .ok (.iconst 0, 1) := by decide +kernel
theorem dX8_back_32 : decode cX8_back 32 = .ok (.iaload, 1) := by decide +kernel
theorem dX8_back_33 : decode cX8_back 33 = .ok (.ireturn, 1) := by decide +kernel
theorem dX8_undo_0 : decode cX8_undo 0 = .ok (.aload_n 0, 1) := by decide +kernel
theorem dX8_undo_1 : decode cX8_undo 1 = .ok (.getfield 42, 3) := by decide +kernel
theorem dX8_undo_4 : decode cX8_undo 4 = .ok (.aload_n 0, 1) := by decide +kernel
theorem dX8_undo_5 : decode cX8_undo 5 = .ok (.getfield 10, 3) := by decide +kernel
theorem dX8_undo_8 : decode cX8_undo 8 = .ok (.invokevirtual 291, 3) := by decide +kernel
theorem dX8_undo_11 : decode cX8_undo 11 = .ok (.ifCond .eq 13, 3) := by decide +kernel
theorem dX8_undo_14 : decode cX8_undo 14 = .ok (.aload_n 0, 1) := by decide +kernel
theorem dX8_undo_15 : decode cX8_undo 15 = .ok (.getfield 42, 3) := by decide +kernel
theorem dX8_undo_18 : decode cX8_undo 18 = .ok (.getfield 295, 3) := by decide +kernel
theorem dX8_undo_21 : decode cX8_undo 21 = .ok (.goto 5, 3) := by decide +kernel
theorem dX8_undo_24 : decode cX8_undo 24 = .ok (.bipush (-5), 2) := by decide +kernel
theorem dX8_undo_26 : decode cX8_undo 26 = .ok (.ireturn, 1) := by decide +kernel
theorem dX8_redo_0 : decode cX8_redo 0 = .ok (.aload_n 0, 1) := by decide +kernel
theorem dX8_redo_1 : decode cX8_redo 1 = .ok (.getfield 42, 3) := by decide +kernel
theorem dX8_redo_4 : decode cX8_redo 4 = .ok (.aload_n 0, 1) := by decide +kernel
theorem dX8_redo_5 : decode cX8_redo 5 = .ok (.getfield 10, 3) := by decide +kernel
theorem dX8_redo_8 : decode cX8_redo 8 = .ok (.invokevirtual 298, 3) := by decide +kernel
theorem dX8_redo_11 : decode cX8_redo 11 = .ok (.ifCond .eq 21, 3) := by decide +kernel
theorem dX8_redo_14 : decode cX8_redo 14 = .ok (.aload_n 0, 1) := by decide +kernel
theorem dX8_redo_15 : decode cX8_redo 15 = .ok (.getfield 42, 3) := by decide +kernel
theorem dX8_redo_18 : decode cX8_redo 18 = .ok (.getfield 301, 3) := by decide +kernel
theorem dX8_redo_21 : decode cX8_redo 21 = .ok (.aload_n 0, 1) := by decide +kernel
theorem dX8_redo_22 : decode cX8_redo 22 = .ok (.getfield 42, 3) := by decide +kernel
theorem dX8_redo_25 : decode cX8_redo 25 = .ok (.getfield 295, 3) := by decide +kernel
theorem dX8_redo_28 : decode cX8_redo 28 = .ok (.isub, 1) := by decide +kernel
theorem dX8_redo_29 : decode cX8_redo 29 = .ok (.goto 5, 3) := by decide +kernel
theorem dX8_redo_32 : decode cX8_redo 32 = .ok (.bipush (-5), 2) := by decide +kernel
theorem dX8_redo_34 : decode cX8_redo 34 = .ok (.ireturn, 1) := by decide +kernel
theorem dX8_body_0 : decode cX8_body 0 = .ok (.iload_n 1, 1) := by decide +kernel
theorem dX8_body_1 : decode cX8_body 1 = .ok (.iconst 0, 1) := by decide +kernel
theorem dX8_body_2 : decode cX8_body 2 = .ok (.bipush 7, 2) := by decide +kernel
theorem dX8_body_4 : decode cX8_body 4 = .ok (.invokestatic 83, 3) := by decide +kernel
theorem dX8_body_7 : decode cX8_body 7 = .ok (.ifCond .ne 5, 3) := by decide +kernel
theorem dX8_body_10 : decode cX8_body 10 = .ok (.iconst (-1), 1) := by decide +kernel
theorem dX8_body_11 : decode cX8_body 11 = .ok (.ireturn, 1) := by decide +kernel
theorem dX8_body_12 : decode cX8_body 12 = .ok (.aload_n 0, 1) := by decide +kernel
theorem dX8_body_13 : decode cX8_body 13 = .ok (.getfield 56, 3) := by decide +kernel
theorem dX8_body_16 : decode cX8_body 16 = .ok (.getfield 302, 3) := by decide +kernel
theorem dX8_body_19 : decode cX8_body 19 = .ok (.bipush 50, 2) := by decide +kernel
theorem dX8_body_21 : decode cX8_body 21 = .ok (.if_icmp .ge 14, 3) := by decide +kernel
theorem dX8_body_24 : decode cX8_body 24 = .ok (.aload_n 0, 1) := by decide +kernel
theorem dX8_body_25 : decode cX8_body 25 = .ok (.getfield 56, 3) := by decide +kernel
theorem dX8_body_28 : decode cX8_body 28 = .ok (.iload_n 1, 1) := by decide +kernel
theorem dX8_body_29 : decode cX8_body 29 = .ok (.invokevirtual 303, 3) := by decide +kernel
theorem dX8_body_32 : decode cX8_body 32 = .ok (.goto 5, 3) := by decide +kernel
theorem dX8_body_35 : decode cX8_body 35 = .ok (.bipush (-3), 2) := by decide +kernel
theorem dX8_body_37 : decode cX8_body 37 = .ok (.ireturn, 1) := by decide +kernel
theorem dX8_act_0 : decode cX8_act 0 = .ok (.aload_n 0, 1) := by decide +kernel
theorem dX8_act_1 : decode cX8_act 1 = .ok (.getfield 56, 3) := by decide +kernel
theorem dX8_act_4 : decode cX8_act 4 = .ok (.iload_n 1, 1) := by decide +kernel
theorem dX8_act_5 : decode cX8_act 5 = .ok (.iload_n 2, 1) := by decide +kernel
theorem dX8_act_6 : decode cX8_act 6 = .ok (.iload_n 3, 1) := by decide +kernel
theorem dX8_act_7 : decode cX8_act 7 = .ok (.invokevirtual 305, 3) := by decide +kernel
theorem dX8_act_10 : decode cX8_act 10 = .ok (.ireturn, 1) := by decide +kernel
theorem dX8_trace_0 : decode cX8_trace 0 = .ok (.iload_n 1, 1) := by decide +kernel
theorem dX8_trace_1 : decode cX8_trace 1 = .ok (.iconst 0, 1) := by decide +kernel
theorem dX8_trace_2 : decode cX8_trace 2 = .ok (.aload_n 0, 1) := by decide +kernel
theorem dX8_trace_3 : decode cX8_trace 3 = .ok (.getfield 56, 3) := by decide +kernel
theorem dX8_trace_6 : decode cX8_trace 6 = .ok (.getfield 308, 3) := by decide +kernel
theorem dX8_trace_9 : decode cX8_trace 9 = .ok (.bipush 24, 2) := by decide +kernel
theorem dX8_trace_11 : decode cX8_trace 11 = .ok (.invokestatic 311, 3) := by decide +kernel
theorem dX8_trace_14 : decode cX8_trace 14 = .ok (.iconst 1, 1) := by decide +kernel
theorem dX8_trace_15 : decode cX8_trace 15 = .ok (.isub, 1) := by decide +kernel
theorem dX8_trace_16 : decode cX8_trace 16 = .ok (.invokestatic 83, 3) := by decide +kernel
theorem dX8_trace_19 : decode cX8_trace 19 = .ok (.ifCond .eq 15, 3) := by decide +kernel
theorem dX8_trace_22 : decode cX8_trace 22 = .ok (.aload_n 0, 1) := by decide +kernel
theorem dX8_trace_23 : decode cX8_trace 23 = .ok (.getfield 56, 3) := by decide +kernel
theorem dX8_trace_26 : decode cX8_trace 26 = .ok (.getfield 316, 3) := by decide +kernel
theorem dX8_trace_29 : decode cX8_trace 29 = .ok (.iload_n 1, 1) := by decide +kernel
theorem dX8_trace_30 : decode cX8_trace 30 = .ok (.iaload, 1) := by decide +kernel
theorem dX8_trace_31 : decode cX8_trace 31 = .ok (.goto 4, 3) := by decide +kernel
theorem dX8_trace_34 : decode cX8_trace 34 = .ok (.iconst (-1), 1) := by decide +kernel
theorem dX8_trace_35 : decode cX8_trace 35 = .ok (.ireturn, 1) := by decide +kernel
theorem dX8_keep_0 : decode cX8_keep 0 = .ok (.iload_n 1, 1) := by decide +kernel
theorem dX8_keep_1 : decode cX8_keep 1 = .ok (.invokestatic 79, 3) := by decide +kernel
theorem dX8_keep_4 : decode cX8_keep 4 = .ok (.ifCond .eq 20, 3) := by decide +kernel
theorem dX8_keep_7 : decode cX8_keep 7 = .ok (.iload_n 2, 1) := by decide +kernel
theorem dX8_keep_8 : decode cX8_keep 8 = .ok (.iconst (-1), 1) := by decide +kernel
theorem dX8_keep_9 : decode cX8_keep 9 = .ok (.aload_n 0, 1) := by decide +kernel
theorem dX8_keep_10 : decode cX8_keep 10 = .ok (.getfield 56, 3) := by decide +kernel
theorem dX8_keep_13 : decode cX8_keep 13 = .ok (.getfield 302, 3) := by decide +kernel
theorem dX8_keep_16 : decode cX8_keep 16 = .ok (.iconst 1, 1) := by decide +kernel
theorem dX8_keep_17 : decode cX8_keep 17 = .ok (.isub, 1) := by decide +kernel
theorem dX8_keep_18 : decode cX8_keep 18 = .ok (.invokestatic 83, 3) := by decide +kernel
theorem dX8_keep_21 : decode cX8_keep 21 = .ok (.ifCond .ne 5, 3) := by decide +kernel
theorem dX8_keep_24 : decode cX8_keep 24 = .ok (.iconst (-1), 1) := by decide +kernel
theorem dX8_keep_25 : decode cX8_keep 25 = .ok (.ireturn, 1) := by decide +kernel
theorem dX8_keep_26 : decode cX8_keep 26 = .ok (.iload_n 2, 1) := by decide +kernel
theorem dX8_keep_27 : decode cX8_keep 27 = .ok (.ifCond .ge 15, 3) := by decide +kernel
theorem dX8_keep_30 : decode cX8_keep 30 = .ok (.aload_n 0, 1) := by decide +kernel
theorem dX8_keep_31 : decode cX8_keep 31 = .ok (.getfield 62, 3) := by decide +kernel
theorem dX8_keep_34 : decode cX8_keep 34 = .ok (.iload_n 1, 1) := by decide +kernel
theorem dX8_keep_35 : decode cX8_keep 35 = .ok (.aaload, 1) := by decide +kernel
theorem dX8_keep_36 : decode cX8_keep 36 = .ok (.invokevirtual 319, 3) := by decide +kernel
theorem dX8_keep_39 : decode cX8_keep 39 = .ok (.goto 21, 3) := by decide +kernel
theorem dX8_keep_42 : decode cX8_keep 42 = .ok (.aload_n 0, 1) := by decide +kernel
theorem dX8_keep_43 : decode cX8_keep 43 = .ok (.getfield 62, 3) := by decide +kernel
theorem dX8_keep_46 : decode cX8_keep 46 = .ok (.iload_n 1, 1) := by decide +kernel
theorem dX8_keep_47 : decode cX8_keep 47 = .ok (.aaload, 1) := by decide +kernel
theorem dX8_keep_48 : decode cX8_keep 48 = .ok (.aload_n 0, 1) := by decide +kernel
theorem dX8_keep_49 : decode cX8_keep 49 = .ok (.getfield 56, 3) := by decide +kernel
theorem dX8_keep_52 : decode cX8_keep 52 = .ok (.getfield 322, 3) := by decide +kernel
theorem dX8_keep_55 : decode cX8_keep 55 = .ok (.iload_n 2, 1) := by decide +kernel
theorem dX8_keep_56 : decode cX8_keep 56 = .ok (.iaload, 1) := by decide +kernel
theorem dX8_keep_57 : decode cX8_keep 57 = .ok (.invokevirtual 325, 3) := by decide +kernel
theorem dX8_keep_60 : decode cX8_keep 60 = .ok (.iconst 1, 1) := by decide +kernel
theorem dX8_keep_61 : decode cX8_keep 61 = .ok (.ireturn, 1) := by decide +kernel
theorem dX8_row_0 : decode cX8_row 0 = .ok (.iload_n 1, 1) := by decide +kernel
theorem dX8_row_1 : decode cX8_row 1 = .ok (.invokestatic 79, 3) := by decide +kernel
theorem dX8_row_4 : decode cX8_row 4 = .ok (.ifCond .eq 18, 3) := by decide +kernel
theorem dX8_row_7 : decode cX8_row 7 = .ok (.iload_n 2, 1) := by decide +kernel
theorem dX8_row_8 : decode cX8_row 8 = .ok (.iconst 0, 1) := by decide +kernel
theorem dX8_row_9 : decode cX8_row 9 = .ok (.iconst 4, 1) := by decide +kernel
theorem dX8_row_10 : decode cX8_row 10 = .ok (.invokestatic 83, 3) := by decide +kernel
theorem dX8_row_13 : decode cX8_row 13 = .ok (.ifCond .eq 9, 3) := by decide +kernel
theorem dX8_row_16 : decode cX8_row 16 = .ok (.iload_n 3, 1) := by decide +kernel
theorem dX8_row_17 : decode cX8_row 17 = .ok (.bipush 60, 2) := by decide +kernel
theorem dX8_row_19 : decode cX8_row 19 = .ok (.if_icmp .le 5, 3) := by decide +kernel
theorem dX8_row_22 : decode cX8_row 22 = .ok (.iconst (-1), 1) := by decide +kernel
theorem dX8_row_23 : decode cX8_row 23 = .ok (.ireturn, 1) := by decide +kernel
theorem dX8_row_24 : decode cX8_row 24 = .ok (.iload_n 3, 1) := by decide +kernel
theorem dX8_row_25 : decode cX8_row 25 = .ok (.ifCond .ge 6, 3) := by decide +kernel
theorem dX8_row_28 : decode cX8_row 28 = .ok (.bipush (-14), 2) := by decide +kernel
theorem dX8_row_30 : decode cX8_row 30 = .ok (.ireturn, 1) := by decide +kernel
theorem dX8_row_31 : decode cX8_row 31 = .ok (.aload_n 0, 1) := by decide +kernel
theorem dX8_row_32 : decode cX8_row 32 = .ok (.getfield 62, 3) := by decide +kernel
theorem dX8_row_35 : decode cX8_row 35 = .ok (.iload_n 1, 1) := by decide +kernel
theorem dX8_row_36 : decode cX8_row 36 = .ok (.aaload, 1) := by decide +kernel
theorem dX8_row_37 : decode cX8_row 37 = .ok (.iload_n 2, 1) := by decide +kernel
theorem dX8_row_38 : decode cX8_row 38 = .ok (.iload_n 3, 1) := by decide +kernel
theorem dX8_row_39 : decode cX8_row 39 = .ok (.invokevirtual 328, 3) := by decide +kernel
theorem dX8_row_42 : decode cX8_row 42 = .ok (.iconst 1, 1) := by decide +kernel
theorem dX8_row_43 : decode cX8_row 43 = .ok (.ireturn, 1) := by decide +kernel
theorem dX8_put_0 : decode cX8_put 0 = .ok (.aload_n 0, 1) := by decide +kernel
theorem dX8_put_1 : decode cX8_put 1 = .ok (.iload_n 1, 1) := by decide +kernel
theorem dX8_put_2 : decode cX8_put 2 = .ok (.iload_n 2, 1) := by decide +kernel
theorem dX8_put_3 : decode cX8_put 3 = .ok (.invokevirtual 331, 3) := by decide +kernel
theorem dX8_put_6 : decode cX8_put 6 = .ok (.istore 5, 2) := by decide +kernel
theorem dX8_put_8 : decode cX8_put 8 = .ok (.iload 5, 2) := by decide +kernel
theorem dX8_put_10 : decode cX8_put 10 = .ok (.ifCond .eq 6, 3) := by decide +kernel
theorem dX8_put_13 : decode cX8_put 13 = .ok (.iload 5, 2) := by decide +kernel
theorem dX8_put_15 : decode cX8_put 15 = .ok (.ireturn, 1) := by decide +kernel
theorem dX8_put_16 : decode cX8_put 16 = .ok (.aload_n 0, 1) := by decide +kernel
theorem dX8_put_17 : decode cX8_put 17 = .ok (.getfield 62, 3) := by decide +kernel
theorem dX8_put_20 : decode cX8_put 20 = .ok (.iload_n 1, 1) := by decide +kernel
theorem dX8_put_21 : decode cX8_put 21 = .ok (.aaload, 1) := by decide +kernel
theorem dX8_put_22 : decode cX8_put 22 = .ok (.iload_n 2, 1) := by decide +kernel
theorem dX8_put_23 : decode cX8_put 23 = .ok (.lload_n 3, 1) := by decide +kernel
theorem dX8_put_24 : decode cX8_put 24 = .ok (.invokevirtual 334, 3) := by decide +kernel
theorem dX8_put_27 : decode cX8_put 27 = .ok (.iconst 1, 1) := by decide +kernel
theorem dX8_put_28 : decode cX8_put 28 = .ok (.ireturn, 1) := by decide +kernel
theorem dX8_element_0 : decode cX8_element 0 = .ok (.aload_n 0, 1) := by decide +kernel
theorem dX8_element_1 : decode cX8_element 1 = .ok (.iload_n 1, 1) := by decide +kernel
theorem dX8_element_2 : decode cX8_element 2 = .ok (.iload_n 2, 1) := by decide +kernel
theorem dX8_element_3 : decode cX8_element 3 = .ok (.invokevirtual 331, 3) := by decide +kernel
theorem dX8_element_6 : decode cX8_element 6 = .ok (.ifCond .eq 9, 3) := by decide +kernel
theorem dX8_element_9 : decode cX8_element 9 = .ok (.ldc2_w 340, 3) := by decide +kernel
theorem dX8_element_12 : decode cX8_element 12 = .ok (.goto 14, 3) := by decide +kernel
theorem dX8_element_15 : decode cX8_element 15 = .ok (.aload_n 0, 1) := by decide +kernel
theorem dX8_element_16 : decode cX8_element 16 = .ok (.getfield 62, 3) := by decide +kernel
theorem dX8_element_19 : decode cX8_element 19 = .ok (.iload_n 1, 1) := by decide +kernel
theorem dX8_element_20 : decode cX8_element 20 = .ok (.aaload, 1) := by decide +kernel
theorem dX8_element_21 : decode cX8_element 21 = .ok (.getfield 342, 3) := by decide +kernel
theorem dX8_element_24 : decode cX8_element 24 = .ok (.iload_n 2, 1) := by decide +kernel
theorem dX8_element_25 : decode cX8_element 25 = .ok (.laload, 1) := by decide +kernel
theorem dX8_element_26 : decode cX8_element 26 = .ok (.lreturn, 1) := by decide +kernel
theorem dX8_shift_0 : decode cX8_shift 0 = .ok (.iload_n 1, 1) := by decide +kernel
theorem dX8_shift_1 : decode cX8_shift 1 = .ok (.invokestatic 79, 3) := by decide +kernel
theorem dX8_shift_4 : decode cX8_shift 4 = .ok (.ifCond .eq 10, 3) := by decide +kernel
theorem dX8_shift_7 : decode cX8_shift 7 = .ok (.iload_n 3, 1) := by decide +kernel
theorem dX8_shift_8 : decode cX8_shift 8 = .ok (.invokestatic 79, 3) := by decide +kernel
theorem dX8_shift_11 : decode cX8_shift 11 = .ok (.ifCond .ne 5, 3) := by decide +kernel
theorem dX8_shift_14 : decode cX8_shift 14 = .ok (.iconst (-1), 1) := by decide +kernel
theorem dX8_shift_15 : decode cX8_shift 15 = .ok (.ireturn, 1) := by decide +kernel
theorem dX8_shift_16 : decode cX8_shift 16 = .ok (.aload_n 0, 1) := by decide +kernel
theorem dX8_shift_17 : decode cX8_shift 17 = .ok (.getfield 62, 3) := by decide +kernel
theorem dX8_shift_20 : decode cX8_shift 20 = .ok (.iload_n 1, 1) := by decide +kernel
theorem dX8_shift_21 : decode cX8_shift 21 = .ok (.aaload, 1) := by decide +kernel
theorem dX8_shift_22 : decode cX8_shift 22 = .ok (.astore 6, 2) := by decide +kernel
theorem dX8_shift_24 : decode cX8_shift 24 = .ok (.aload_n 0, 1) := by decide +kernel
theorem dX8_shift_25 : decode cX8_shift 25 = .ok (.getfield 62, 3) := by decide +kernel
theorem dX8_shift_28 : decode cX8_shift 28 = .ok (.iload_n 3, 1) := by decide +kernel
theorem dX8_shift_29 : decode cX8_shift 29 = .ok (.aaload, 1) := by decide +kernel
theorem dX8_shift_30 : decode cX8_shift 30 = .ok (.astore 7, 2) := by decide +kernel
theorem dX8_shift_32 : decode cX8_shift 32 = .ok (.aload 6, 2) := by decide +kernel
theorem dX8_shift_34 : decode cX8_shift 34 = .ok (.invokevirtual 86, 3) := by decide +kernel
theorem dX8_shift_37 : decode cX8_shift 37 = .ok (.ifCond .ne 11, 3) := by decide +kernel
theorem dX8_shift_40 : decode cX8_shift 40 = .ok (.aload 7, 2) := by decide +kernel
theorem dX8_shift_42 : decode cX8_shift 42 = .ok (.invokevirtual 86, 3) := by decide +kernel
theorem dX8_shift_45 : decode cX8_shift 45 = .ok (.ifCond .eq 6, 3) := by decide +kernel
theorem dX8_shift_48 : decode cX8_shift 48 = .ok (.bipush (-11), 2) := by decide +kernel
theorem dX8_shift_50 : decode cX8_shift 50 = .ok (.ireturn, 1) := by decide +kernel
theorem dX8_shift_51 : decode cX8_shift 51 = .ok (.aload 6, 2) := by decide +kernel
theorem dX8_shift_53 : decode cX8_shift 53 = .ok (.invokevirtual 346, 3) := by decide +kernel
theorem dX8_shift_56 : decode cX8_shift 56 = .ok (.ifCond .eq 24, 3) := by decide +kernel
theorem dX8_shift_59 : decode cX8_shift 59 = .ok (.aload 7, 2) := by decide +kernel
theorem dX8_shift_61 : decode cX8_shift 61 = .ok (.invokevirtual 346, 3) := by decide +kernel
theorem dX8_shift_64 : decode cX8_shift 64 = .ok (.ifCond .eq 16, 3) := by decide +kernel
theorem dX8_shift_67 : decode cX8_shift 67 = .ok (.aload 6, 2) := by decide +kernel
theorem dX8_shift_69 : decode cX8_shift 69 = .ok (.getfield 349, 3) := by decide +kernel
theorem dX8_shift_72 : decode cX8_shift 72 = .ok (.aload 7, 2) := by decide +kernel
theorem dX8_shift_74 : decode cX8_shift 74 = .ok (.getfield 349, 3) := by decide +kernel
theorem dX8_shift_77 : decode cX8_shift 77 = .ok (.if_icmp .eq 6, 3) := by decide +kernel
theorem dX8_shift_80 : decode cX8_shift 80 = .ok (.bipush (-12), 2) := by decide +kernel
theorem dX8_shift_82 : decode cX8_shift 82 = .ok (.ireturn, 1) := by decide +kernel
theorem dX8_shift_83 : decode cX8_shift 83 = .ok (.aload 6, 2) := by decide +kernel
theorem dX8_shift_85 : decode cX8_shift 85 = .ok (.iload_n 2, 1) := by decide +kernel
theorem dX8_shift_86 : decode cX8_shift 86 = .ok (.iload 5, 2) := by decide +kernel
theorem dX8_shift_88 : decode cX8_shift 88 = .ok (.invokevirtual 352, 3) := by decide +kernel
theorem dX8_shift_91 : decode cX8_shift 91 = .ok (.ifCond .eq 15, 3) := by decide +kernel
theorem dX8_shift_94 : decode cX8_shift 94 = .ok (.aload 7, 2) := by decide +kernel
theorem dX8_shift_96 : decode cX8_shift 96 = .ok (.iload 4, 2) := by decide +kernel
theorem dX8_shift_98 : decode cX8_shift 98 = .ok (.iload 5, 2) := by decide +kernel
theorem dX8_shift_100 : decode cX8_shift 100 = .ok (.invokevirtual 352, 3) := by decide +kernel
theorem dX8_shift_103 : decode cX8_shift 103 = .ok (.ifCond .ne 6, 3) := by decide +kernel
theorem dX8_shift_106 : decode cX8_shift 106 = .ok (.bipush (-13), 2) := by decide +kernel
theorem dX8_shift_108 : decode cX8_shift 108 = .ok (.ireturn, 1) := by decide +kernel
theorem dX8_shift_109 : decode cX8_shift 109 = .ok (.aload 6, 2) := by decide +kernel
theorem dX8_shift_111 : decode cX8_shift 111 = .ok (.getfield 342, 3) := by decide +kernel
theorem dX8_shift_114 : decode cX8_shift 114 = .ok (.iload_n 2, 1) := by decide +kernel
theorem dX8_shift_115 : decode cX8_shift 115 = .ok (.aload 7, 2) := by decide +kernel
theorem dX8_shift_117 : decode cX8_shift 117 = .ok (.getfield 342, 3) := by decide +kernel
theorem dX8_shift_120 : decode cX8_shift 120 = .ok (.iload 4, 2) := by decide +kernel
theorem dX8_shift_122 : decode cX8_shift 122 = .ok (.iload 5, 2) := by decide +kernel
theorem dX8_shift_124 : decode cX8_shift 124 = .ok (.invokestatic 355, 3) := by decide +kernel
theorem dX8_shift_127 : decode cX8_shift 127 = .ok (.iload 5, 2) := by decide +kernel
theorem dX8_shift_129 : decode cX8_shift 129 = .ok (.ireturn, 1) := by decide +kernel
theorem dX8_taken_0 : decode cX8_taken 0 = .ok (.iload_n 1, 1) := by decide +kernel
theorem dX8_taken_1 : decode cX8_taken 1 = .ok (.invokestatic 79, 3) := by decide +kernel
theorem dX8_taken_4 : decode cX8_taken 4 = .ok (.ifCond .eq 13, 3) := by decide +kernel
theorem dX8_taken_7 : decode cX8_taken 7 = .ok (.iload_n 2, 1) := by decide +kernel
theorem dX8_taken_8 : decode cX8_taken 8 = .ok (.iconst 0, 1) := by decide +kernel
theorem dX8_taken_9 : decode cX8_taken 9 = .ok (.bipush 7, 2) := by decide +kernel
theorem dX8_taken_11 : decode cX8_taken 11 = .ok (.invokestatic 83, 3) := by decide +kernel
theorem dX8_taken_14 : decode cX8_taken 14 = .ok (.ifCond .ne 5, 3) := by decide +kernel
theorem dX8_taken_17 : decode cX8_taken 17 = .ok (.iconst (-1), 1) := by decide +kernel
theorem dX8_taken_18 : decode cX8_taken 18 = .ok (.ireturn, 1) := by decide +kernel
theorem dX8_taken_19 : decode cX8_taken 19 = .ok (.aload_n 0, 1) := by decide +kernel
theorem dX8_taken_20 : decode cX8_taken 20 = .ok (.getfield 62, 3) := by decide +kernel
theorem dX8_taken_23 : decode cX8_taken 23 = .ok (.iload_n 1, 1) := by decide +kernel
theorem dX8_taken_24 : decode cX8_taken 24 = .ok (.aaload, 1) := by decide +kernel
theorem dX8_taken_25 : decode cX8_taken 25 = .ok (.astore_n 3, 1) := by decide +kernel
theorem dX8_taken_26 : decode cX8_taken 26 = .ok (.aload_n 3, 1) := by decide +kernel
theorem dX8_taken_27 : decode cX8_taken 27 = .ok (.invokevirtual 86, 3) := by decide +kernel
theorem dX8_taken_30 : decode cX8_taken 30 = .ok (.ifCond .eq 6, 3) := by decide +kernel
theorem dX8_taken_33 : decode cX8_taken 33 = .ok (.bipush (-11), 2) := by decide +kernel
theorem dX8_taken_35 : decode cX8_taken 35 = .ok (.ireturn, 1) := by decide +kernel
theorem dX8_taken_36 : decode cX8_taken 36 = .ok (.aload_n 3, 1) := by decide +kernel
theorem dX8_taken_37 : decode cX8_taken 37 = .ok (.invokevirtual 361, 3) := by decide +kernel
theorem dX8_taken_40 : decode cX8_taken 40 = .ok (.ifCond .eq 21, 3) := by decide +kernel
theorem dX8_taken_43 : decode cX8_taken 43 = .ok (.aload_n 3, 1) := by decide +kernel
theorem dX8_taken_44 : decode cX8_taken 44 = .ok (.getfield 364, 3) := by decide +kernel
theorem dX8_taken_47 : decode cX8_taken 47 = .ok (.iload_n 2, 1) := by decide +kernel
theorem dX8_taken_48 : decode cX8_taken 48 = .ok (.invokestatic 367, 3) := by decide +kernel
theorem dX8_taken_51 : decode cX8_taken 51 = .ok (.ifCond .eq 10, 3) := by decide +kernel
theorem dX8_taken_54 : decode cX8_taken 54 = .ok (.aload_n 3, 1) := by decide +kernel
theorem dX8_taken_55 : decode cX8_taken 55 = .ok (.getfield 364, 3) := by decide +kernel
theorem dX8_taken_58 : decode cX8_taken 58 = .ok (.goto 5, 3) := by decide +kernel
theorem dX8_taken_61 : decode cX8_taken 61 = .ok (.bipush (-12), 2) := by decide +kernel
theorem dX8_taken_63 : decode cX8_taken 63 = .ok (.ireturn, 1) := by decide +kernel
theorem dX8_count_0 : decode cX8_count 0 = .ok (.iload_n 1, 1) := by decide +kernel
theorem dX8_count_1 : decode cX8_count 1 = .ok (.tableswitch 87 0 5 #[39, 47, 55, 63, 71, 79], 39) := by decide +kernel
theorem dX8_count_40 : decode cX8_count 40 = .ok (.aload_n 0, 1) := by decide +kernel
theorem dX8_count_41 : decode cX8_count 41 = .ok (.getfield 10, 3) := by decide +kernel
theorem dX8_count_44 : decode cX8_count 44 = .ok (.getfield 71, 3) := by decide +kernel
theorem dX8_count_47 : decode cX8_count 47 = .ok (.ireturn, 1) := by decide +kernel
theorem dX8_count_48 : decode cX8_count 48 = .ok (.aload_n 0, 1) := by decide +kernel
theorem dX8_count_49 : decode cX8_count 49 = .ok (.getfield 10, 3) := by decide +kernel
theorem dX8_count_52 : decode cX8_count 52 = .ok (.invokevirtual 188, 3) := by decide +kernel
theorem dX8_count_55 : decode cX8_count 55 = .ok (.ireturn, 1) := by decide +kernel
theorem dX8_count_56 : decode cX8_count 56 = .ok (.aload_n 0, 1) := by decide +kernel
theorem dX8_count_57 : decode cX8_count 57 = .ok (.getfield 26, 3) := by decide +kernel
theorem dX8_count_60 : decode cX8_count 60 = .ok (.getfield 127, 3) := by decide +kernel
theorem dX8_count_63 : decode cX8_count 63 = .ok (.ireturn, 1) := by decide +kernel
theorem dX8_count_64 : decode cX8_count 64 = .ok (.aload_n 0, 1) := by decide +kernel
theorem dX8_count_65 : decode cX8_count 65 = .ok (.getfield 42, 3) := by decide +kernel
theorem dX8_count_68 : decode cX8_count 68 = .ok (.getfield 295, 3) := by decide +kernel
theorem dX8_count_71 : decode cX8_count 71 = .ok (.ireturn, 1) := by decide +kernel
theorem dX8_count_72 : decode cX8_count 72 = .ok (.aload_n 0, 1) := by decide +kernel
theorem dX8_count_73 : decode cX8_count 73 = .ok (.getfield 56, 3) := by decide +kernel
theorem dX8_count_76 : decode cX8_count 76 = .ok (.getfield 302, 3) := by decide +kernel
theorem dX8_count_79 : decode cX8_count 79 = .ok (.ireturn, 1) := by decide +kernel
theorem dX8_count_80 : decode cX8_count 80 = .ok (.aload_n 0, 1) := by decide +kernel
theorem dX8_count_81 : decode cX8_count 81 = .ok (.getfield 56, 3) := by decide +kernel
theorem dX8_count_84 : decode cX8_count 84 = .ok (.getfield 308, 3) := by decide +kernel
theorem dX8_count_87 : decode cX8_count 87 = .ok (.ireturn, 1) := by decide +kernel
theorem dX8_count_88 : decode cX8_count 88 = .ok (.iconst (-1), 1) := by decide +kernel
theorem dX8_count_89 : decode cX8_count 89 = .ok (.ireturn, 1) := by decide +kernel
theorem dX8_within_0 : decode cX8_within 0 = .ok (.iload_n 0, 1) := by decide +kernel
theorem dX8_within_1 : decode cX8_within 1 = .ok (.iload_n 1, 1) := by decide +kernel
theorem dX8_within_2 : decode cX8_within 2 = .ok (.if_icmp .lt 12, 3) := by decide +kernel
theorem dX8_within_5 : decode cX8_within 5 = .ok (.iload_n 0, 1) := by decide +kernel
theorem dX8_within_6 : decode cX8_within 6 = .ok (.iload_n 2, 1) := by decide +kernel
theorem dX8_within_7 : decode cX8_within 7 = .ok (.if_icmp .gt 7, 3) := by decide +kernel
theorem dX8_within_10 : decode cX8_within 10 = .ok (.iconst 1, 1) := by decide +kernel
theorem dX8_within_11 : decode cX8_within 11 = .ok (.goto 4, 3) := by decide +kernel
theorem dX8_within_14 : decode cX8_within 14 = .ok (.iconst 0, 1) := by decide +kernel
theorem dX8_within_15 : decode cX8_within 15 = .ok (.ireturn, 1) := by decide +kernel
theorem dX8_heldWithin_0 : decode cX8_heldWithin 0 = .ok (.iload_n 1, 1) := by decide +kernel
theorem dX8_heldWithin_1 : decode cX8_heldWithin 1 = .ok (.iload_n 2, 1) := by decide +kernel
theorem dX8_heldWithin_2 : decode cX8_heldWithin 2 = .ok (.iload_n 0, 1) := by decide +kernel
theorem dX8_heldWithin_3 : decode cX8_heldWithin 3 = .ok (.invokestatic 311, 3) := by decide +kernel
theorem dX8_heldWithin_6 : decode cX8_heldWithin 6 = .ok (.invokestatic 370, 3) := by decide +kernel
theorem dX8_heldWithin_9 : decode cX8_heldWithin 9 = .ok (.ireturn, 1) := by decide +kernel
theorem dX8_isCot_0 : decode cX8_isCot 0 = .ok (.iload_n 0, 1) := by decide +kernel
theorem dX8_isCot_1 : decode cX8_isCot 1 = .ok (.iconst 0, 1) := by decide +kernel
theorem dX8_isCot_2 : decode cX8_isCot 2 = .ok (.bipush 11, 2) := by decide +kernel
theorem dX8_isCot_4 : decode cX8_isCot 4 = .ok (.invokestatic 83, 3) := by decide +kernel
theorem dX8_isCot_7 : decode cX8_isCot 7 = .ok (.ireturn, 1) := by decide +kernel
theorem dX8_steps_0 : decode cX8_steps 0 = .ok (.iload_n 0, 1) := by decide +kernel
theorem dX8_steps_1 : decode cX8_steps 1 = .ok (.bipush 6, 2) := by decide +kernel
theorem dX8_steps_3 : decode cX8_steps 3 = .ok (.irem, 1) := by decide +kernel
theorem dX8_steps_4 : decode cX8_steps 4 = .ok (.iload_n 1, 1) := by decide +kernel
theorem dX8_steps_5 : decode cX8_steps 5 = .ok (.bipush 6, 2) := by decide +kernel
theorem dX8_steps_7 : decode cX8_steps 7 = .ok (.irem, 1) := by decide +kernel
theorem dX8_steps_8 : decode cX8_steps 8 = .ok (.isub, 1) := by decide +kernel
theorem dX8_steps_9 : decode cX8_steps 9 = .ok (.invokestatic 373, 3) := by decide +kernel
theorem dX8_steps_12 : decode cX8_steps 12 = .ok (.iload_n 0, 1) := by decide +kernel
theorem dX8_steps_13 : decode cX8_steps 13 = .ok (.bipush 6, 2) := by decide +kernel
theorem dX8_steps_15 : decode cX8_steps 15 = .ok (.idiv, 1) := by decide +kernel
theorem dX8_steps_16 : decode cX8_steps 16 = .ok (.iload_n 1, 1) := by decide +kernel
theorem dX8_steps_17 : decode cX8_steps 17 = .ok (.bipush 6, 2) := by decide +kernel
theorem dX8_steps_19 : decode cX8_steps 19 = .ok (.idiv, 1) := by decide +kernel
theorem dX8_steps_20 : decode cX8_steps 20 = .ok (.isub, 1) := by decide +kernel
theorem dX8_steps_21 : decode cX8_steps 21 = .ok (.invokestatic 373, 3) := by decide +kernel
theorem dX8_steps_24 : decode cX8_steps 24 = .ok (.iadd, 1) := by decide +kernel
theorem dX8_steps_25 : decode cX8_steps 25 = .ok (.ireturn, 1) := by decide +kernel
theorem dX8_isShelf_0 : decode cX8_isShelf 0 = .ok (.iload_n 0, 1) := by decide +kernel
theorem dX8_isShelf_1 : decode cX8_isShelf 1 = .ok (.iconst 0, 1) := by decide +kernel
theorem dX8_isShelf_2 : decode cX8_isShelf 2 = .ok (.iconst 5, 1) := by decide +kernel
theorem dX8_isShelf_3 : decode cX8_isShelf 3 = .ok (.invokestatic 83, 3) := by decide +kernel
theorem dX8_isShelf_6 : decode cX8_isShelf 6 = .ok (.ireturn, 1) := by decide +kernel
theorem dX8_areShelves_0 : decode cX8_areShelves 0 = .ok (.iload_n 0, 1) := by decide +kernel
theorem dX8_areShelves_1 : decode cX8_areShelves 1 = .ok (.ifCond .lt 27, 3) := by decide +kernel
theorem dX8_areShelves_4 : decode cX8_areShelves 4 = .ok (.iload_n 0, 1) := by decide +kernel
theorem dX8_areShelves_5 : decode cX8_areShelves 5 = .ok (.bipush 10, 2) := by decide +kernel
theorem dX8_areShelves_7 : decode cX8_areShelves 7 = .ok (.idiv, 1) := by decide +kernel
theorem dX8_areShelves_8 : decode cX8_areShelves 8 = .ok (.invokestatic 79, 3) := by decide +kernel
theorem dX8_areShelves_11 : decode cX8_areShelves 11 = .ok (.ifCond .eq 17, 3) := by decide +kernel
theorem dX8_areShelves_14 : decode cX8_areShelves 14 = .ok (.iload_n 0, 1) := by decide +kernel
theorem dX8_areShelves_15 : decode cX8_areShelves 15 = .ok (.bipush 10, 2) := by decide +kernel
theorem dX8_areShelves_17 : decode cX8_areShelves 17 = .ok (.irem, 1) := by decide +kernel
theorem dX8_areShelves_18 : decode cX8_areShelves 18 = .ok (.invokestatic 79, 3) := by decide +kernel
theorem dX8_areShelves_21 : decode cX8_areShelves 21 = .ok (.ifCond .eq 7, 3) := by decide +kernel
theorem dX8_areShelves_24 : decode cX8_areShelves 24 = .ok (.iconst 1, 1) := by decide +kernel
theorem dX8_areShelves_25 : decode cX8_areShelves 25 = .ok (.goto 4, 3) := by decide +kernel
theorem dX8_areShelves_28 : decode cX8_areShelves 28 = .ok (.iconst 0, 1) := by decide +kernel
theorem dX8_areShelves_29 : decode cX8_areShelves 29 = .ok (.ireturn, 1) := by decide +kernel
theorem dX8_isSword_0 : decode cX8_isSword 0 = .ok (.iload_n 1, 1) := by decide +kernel
theorem dX8_isSword_1 : decode cX8_isSword 1 = .ok (.iconst 0, 1) := by decide +kernel
theorem dX8_isSword_2 : decode cX8_isSword 2 = .ok (.aload_n 0, 1) := by decide +kernel
theorem dX8_isSword_3 : decode cX8_isSword 3 = .ok (.getfield 10, 3) := by decide +kernel
theorem dX8_isSword_6 : decode cX8_isSword 6 = .ok (.getfield 71, 3) := by decide +kernel
theorem dX8_isSword_9 : decode cX8_isSword 9 = .ok (.iconst 1, 1) := by decide +kernel
theorem dX8_isSword_10 : decode cX8_isSword 10 = .ok (.isub, 1) := by decide +kernel
theorem dX8_isSword_11 : decode cX8_isSword 11 = .ok (.invokestatic 83, 3) := by decide +kernel
theorem dX8_isSword_14 : decode cX8_isSword 14 = .ok (.ireturn, 1) := by decide +kernel
theorem dX8_isMendable_0 : decode cX8_isMendable 0 = .ok (.iload_n 2, 1) := by decide +kernel
theorem dX8_isMendable_1 : decode cX8_isMendable 1 = .ok (.iconst 0, 1) := by decide +kernel
theorem dX8_isMendable_2 : decode cX8_isMendable 2 = .ok (.iconst 4, 1) := by decide +kernel
theorem dX8_isMendable_3 : decode cX8_isMendable 3 = .ok (.invokestatic 83, 3) := by decide +kernel
theorem dX8_isMendable_6 : decode cX8_isMendable 6 = .ok (.ifCond .eq 11, 3) := by decide +kernel
theorem dX8_isMendable_9 : decode cX8_isMendable 9 = .ok (.aload_n 0, 1) := by decide +kernel
theorem dX8_isMendable_10 : decode cX8_isMendable 10 = .ok (.iload_n 1, 1) := by decide +kernel
theorem dX8_isMendable_11 : decode cX8_isMendable 11 = .ok (.invokevirtual 141, 3) := by decide +kernel
theorem dX8_isMendable_14 : decode cX8_isMendable 14 = .ok (.goto 22, 3) := by decide +kernel
theorem dX8_isMendable_17 : decode cX8_isMendable 17 = .ok (.iload_n 2, 1) := by decide +kernel
theorem dX8_isMendable_18 : decode cX8_isMendable 18 = .ok (.iconst 5, 1) := by decide +kernel
theorem dX8_isMendable_19 : decode cX8_isMendable 19 = .ok (.bipush 7, 2) := by decide +kernel
theorem dX8_isMendable_21 : decode cX8_isMendable 21 = .ok (.invokestatic 83, 3) := by decide +kernel
theorem dX8_isMendable_24 : decode cX8_isMendable 24 = .ok (.ifCond .eq 11, 3) := by decide +kernel
theorem dX8_isMendable_27 : decode cX8_isMendable 27 = .ok (.iload_n 1, 1) := by decide +kernel
theorem dX8_isMendable_28 : decode cX8_isMendable 28 = .ok (.ifCond .ne 7, 3) := by decide +kernel
theorem dX8_isMendable_31 : decode cX8_isMendable 31 = .ok (.iconst 1, 1) := by decide +kernel
theorem dX8_isMendable_32 : decode cX8_isMendable 32 = .ok (.goto 4, 3) := by decide +kernel
theorem dX8_isMendable_35 : decode cX8_isMendable 35 = .ok (.iconst 0, 1) := by decide +kernel
theorem dX8_isMendable_36 : decode cX8_isMendable 36 = .ok (.ireturn, 1) := by decide +kernel
theorem dX8_refusalOfBytes_0 : decode cX8_refusalOfBytes 0 = .ok (.aload_n 0, 1) := by decide +kernel
theorem dX8_refusalOfBytes_1 : decode cX8_refusalOfBytes 1 = .ok (.invokevirtual 86, 3) := by decide +kernel
theorem dX8_refusalOfBytes_4 : decode cX8_refusalOfBytes 4 = .ok (.ifCond .eq 6, 3) := by decide +kernel
theorem dX8_refusalOfBytes_7 : decode cX8_refusalOfBytes 7 = .ok (.bipush (-11), 2) := by decide +kernel
theorem dX8_refusalOfBytes_9 : decode cX8_refusalOfBytes 9 = .ok (.ireturn, 1) := by decide +kernel
theorem dX8_refusalOfBytes_10 : decode cX8_refusalOfBytes 10 = .ok (.aload_n 0, 1) := by decide +kernel
theorem dX8_refusalOfBytes_11 : decode cX8_refusalOfBytes 11 = .ok (.invokevirtual 90, 3) := by decide +kernel
theorem dX8_refusalOfBytes_14 : decode cX8_refusalOfBytes 14 = .ok (.ifCond .eq 7, 3) := by decide +kernel
theorem dX8_refusalOfBytes_17 : decode cX8_refusalOfBytes 17 = .ok (.iconst 0, 1) := by decide +kernel
theorem dX8_refusalOfBytes_18 : decode cX8_refusalOfBytes 18 = .ok (.goto 5, 3) := by decide +kernel
theorem dX8_refusalOfBytes_21 : decode cX8_refusalOfBytes 21 = .ok (.bipush (-12), 2) := by decide +kernel
theorem dX8_refusalOfBytes_23 : decode cX8_refusalOfBytes 23 = .ok (.ireturn, 1) := by decide +kernel
theorem dX8_refusalOfBoth_0 : decode cX8_refusalOfBoth 0 = .ok (.aload_n 0, 1) := by decide +kernel
theorem dX8_refusalOfBoth_1 : decode cX8_refusalOfBoth 1 = .ok (.getfield 62, 3) := by decide +kernel
theorem dX8_refusalOfBoth_4 : decode cX8_refusalOfBoth 4 = .ok (.iload_n 1, 1) := by decide +kernel
theorem dX8_refusalOfBoth_5 : decode cX8_refusalOfBoth 5 = .ok (.bipush 10, 2) := by decide +kernel
theorem dX8_refusalOfBoth_7 : decode cX8_refusalOfBoth 7 = .ok (.idiv, 1) := by decide +kernel
theorem dX8_refusalOfBoth_8 : decode cX8_refusalOfBoth 8 = .ok (.aaload, 1) := by decide +kernel
theorem dX8_refusalOfBoth_9 : decode cX8_refusalOfBoth 9 = .ok (.invokestatic 149, 3) := by decide +kernel
theorem dX8_refusalOfBoth_12 : decode cX8_refusalOfBoth 12 = .ok (.istore_n 2, 1) := by decide +kernel
theorem dX8_refusalOfBoth_13 : decode cX8_refusalOfBoth 13 = .ok (.iload_n 2, 1) := by decide +kernel
theorem dX8_refusalOfBoth_14 : decode cX8_refusalOfBoth 14 = .ok (.ifCond .eq 7, 3) := by decide +kernel
theorem dX8_refusalOfBoth_17 : decode cX8_refusalOfBoth 17 = .ok (.iload_n 2, 1) := by decide +kernel
theorem dX8_refusalOfBoth_18 : decode cX8_refusalOfBoth 18 = .ok (.goto 15, 3) := by decide +kernel
theorem dX8_refusalOfBoth_21 : decode cX8_refusalOfBoth 21 = .ok (.aload_n 0, 1) := by decide +kernel
theorem dX8_refusalOfBoth_22 : decode cX8_refusalOfBoth 22 = .ok (.getfield 62, 3) := by decide +kernel
theorem dX8_refusalOfBoth_25 : decode cX8_refusalOfBoth 25 = .ok (.iload_n 1, 1) := by decide +kernel
theorem dX8_refusalOfBoth_26 : decode cX8_refusalOfBoth 26 = .ok (.bipush 10, 2) := by decide +kernel
theorem dX8_refusalOfBoth_28 : decode cX8_refusalOfBoth 28 = .ok (.irem, 1) := by decide +kernel
theorem dX8_refusalOfBoth_29 : decode cX8_refusalOfBoth 29 = .ok (.aaload, 1) := by decide +kernel
theorem dX8_refusalOfBoth_30 : decode cX8_refusalOfBoth 30 = .ok (.invokestatic 149, 3) := by decide +kernel
theorem dX8_refusalOfBoth_33 : decode cX8_refusalOfBoth 33 = .ok (.ireturn, 1) := by decide +kernel
theorem dX8_refusalOfElement_0 : decode cX8_refusalOfElement 0 = .ok (.iload_n 1, 1) := by decide +kernel
theorem dX8_refusalOfElement_1 : decode cX8_refusalOfElement 1 = .ok (.invokestatic 79, 3) := by decide +kernel
theorem dX8_refusalOfElement_4 : decode cX8_refusalOfElement 4 = .ok (.ifCond .ne 5, 3) := by decide +kernel
theorem dX8_refusalOfElement_7 : decode cX8_refusalOfElement 7 = .ok (.iconst (-1), 1) := by decide +kernel
theorem dX8_refusalOfElement_8 : decode cX8_refusalOfElement 8 = .ok (.ireturn, 1) := by decide +kernel
theorem dX8_refusalOfElement_9 : decode cX8_refusalOfElement 9 = .ok (.aload_n 0, 1) := by decide +kernel
theorem dX8_refusalOfElement_10 : decode cX8_refusalOfElement 10 = .ok (.getfield 62, 3) := by decide +kernel
theorem dX8_refusalOfElement_13 : decode cX8_refusalOfElement 13 = .ok (.iload_n 1, 1) := by decide +kernel
theorem dX8_refusalOfElement_14 : decode cX8_refusalOfElement 14 = .ok (.aaload, 1) := by decide +kernel
theorem dX8_refusalOfElement_15 : decode cX8_refusalOfElement 15 = .ok (.astore_n 3, 1) := by decide +kernel
theorem dX8_refusalOfElement_16 : decode cX8_refusalOfElement 16 = .ok (.aload_n 3, 1) := by decide +kernel
theorem dX8_refusalOfElement_17 : decode cX8_refusalOfElement 17 = .ok (.invokevirtual 86, 3) := by decide +kernel
theorem dX8_refusalOfElement_20 : decode cX8_refusalOfElement 20 = .ok (.ifCond .eq 6, 3) := by decide +kernel
theorem dX8_refusalOfElement_23 : decode cX8_refusalOfElement 23 = .ok (.bipush (-11), 2) := by decide +kernel
theorem dX8_refusalOfElement_25 : decode cX8_refusalOfElement 25 = .ok (.ireturn, 1) := by decide +kernel
theorem dX8_refusalOfElement_26 : decode cX8_refusalOfElement 26 = .ok (.aload_n 3, 1) := by decide +kernel
theorem dX8_refusalOfElement_27 : decode cX8_refusalOfElement 27 = .ok (.invokevirtual 346, 3) := by decide +kernel
theorem dX8_refusalOfElement_30 : decode cX8_refusalOfElement 30 = .ok (.ifCond .ne 6, 3) := by decide +kernel
theorem dX8_refusalOfElement_33 : decode cX8_refusalOfElement 33 = .ok (.bipush (-12), 2) := by decide +kernel
theorem dX8_refusalOfElement_35 : decode cX8_refusalOfElement 35 = .ok (.ireturn, 1) := by decide +kernel
theorem dX8_refusalOfElement_36 : decode cX8_refusalOfElement 36 = .ok (.aload_n 3, 1) := by decide +kernel
theorem dX8_refusalOfElement_37 : decode cX8_refusalOfElement 37 = .ok (.iload_n 2, 1) := by decide +kernel
theorem dX8_refusalOfElement_38 : decode cX8_refusalOfElement 38 = .ok (.iconst 1, 1) := by decide +kernel
theorem dX8_refusalOfElement_39 : decode cX8_refusalOfElement 39 = .ok (.invokevirtual 352, 3) := by decide +kernel
theorem dX8_refusalOfElement_42 : decode cX8_refusalOfElement 42 = .ok (.ifCond .eq 7, 3) := by decide +kernel
theorem dX8_refusalOfElement_45 : decode cX8_refusalOfElement 45 = .ok (.iconst 0, 1) := by decide +kernel
theorem dX8_refusalOfElement_46 : decode cX8_refusalOfElement 46 = .ok (.goto 5, 3) := by decide +kernel
theorem dX8_refusalOfElement_49 : decode cX8_refusalOfElement 49 = .ok (.bipush (-13), 2) := by decide +kernel
theorem dX8_refusalOfElement_51 : decode cX8_refusalOfElement 51 = .ok (.ireturn, 1) := by decide +kernel
theorem dX9_within_0 : decode cX9_within 0 = .ok (.lload_n 0, 1) := by decide +kernel
theorem dX9_within_1 : decode cX9_within 1 = .ok (.lload_n 2, 1) := by decide +kernel
theorem dX9_within_2 : decode cX9_within 2 = .ok (.lcmp, 1) := by decide +kernel
theorem dX9_within_3 : decode cX9_within 3 = .ok (.ifCond .lt 14, 3) := by decide +kernel
theorem dX9_within_6 : decode cX9_within 6 = .ok (.lload_n 0, 1) := by decide +kernel
theorem dX9_within_7 : decode cX9_within 7 = .ok (.lload 4, 2) := by decide +kernel
theorem dX9_within_9 : decode cX9_within 9 = .ok (.lcmp, 1) := by decide +kernel
theorem dX9_within_10 : decode cX9_within 10 = .ok (.ifCond .gt 7, 3) := by decide +kernel
theorem dX9_within_13 : decode cX9_within 13 = .ok (.iconst 1, 1) := by decide +kernel
theorem dX9_within_14 : decode cX9_within 14 = .ok (.goto 4, 3) := by decide +kernel
theorem dX9_within_17 : decode cX9_within 17 = .ok (.iconst 0, 1) := by decide +kernel
theorem dX9_within_18 : decode cX9_within 18 = .ok (.ireturn, 1) := by decide +kernel
theorem dX9_isIn_0 : decode cX9_isIn 0 = .ok (.iload_n 0, 1) := by decide +kernel
theorem dX9_isIn_1 : decode cX9_isIn 1 = .ok (.iload_n 1, 1) := by decide +kernel
theorem dX9_isIn_2 : decode cX9_isIn 2 = .ok (.ishr, 1) := by decide +kernel
theorem dX9_isIn_3 : decode cX9_isIn 3 = .ok (.iconst 1, 1) := by decide +kernel
theorem dX9_isIn_4 : decode cX9_isIn 4 = .ok (.iand, 1) := by decide +kernel
theorem dX9_isIn_5 : decode cX9_isIn 5 = .ok (.iconst 1, 1) := by decide +kernel
theorem dX9_isIn_6 : decode cX9_isIn 6 = .ok (.if_icmp .ne 7, 3) := by decide +kernel
theorem dX9_isIn_9 : decode cX9_isIn 9 = .ok (.iconst 1, 1) := by decide +kernel
theorem dX9_isIn_10 : decode cX9_isIn 10 = .ok (.goto 4, 3) := by decide +kernel
theorem dX9_isIn_13 : decode cX9_isIn 13 = .ok (.iconst 0, 1) := by decide +kernel
theorem dX9_isIn_14 : decode cX9_isIn 14 = .ok (.ireturn, 1) := by decide +kernel
theorem dX9_bitsOf_0 : decode cX9_bitsOf 0 = .ok (.iconst 0, 1) := by decide +kernel
theorem dX9_bitsOf_1 : decode cX9_bitsOf 1 = .ok (.istore_n 1, 1) := by decide +kernel
theorem dX9_bitsOf_2 : decode cX9_bitsOf 2 = .ok (.iconst 0, 1) := by decide +kernel
theorem dX9_bitsOf_3 : decode cX9_bitsOf 3 = .ok (.istore_n 2, 1) := by decide +kernel
theorem dX9_bitsOf_4 : decode cX9_bitsOf 4 = .ok (.iload_n 2, 1) := by decide +kernel
theorem dX9_bitsOf_5 : decode cX9_bitsOf 5 = .ok (.bipush 12, 2) := by decide +kernel
theorem dX9_bitsOf_7 : decode cX9_bitsOf 7 = .ok (.if_icmp .ge 17, 3) := by decide +kernel
theorem dX9_bitsOf_10 : decode cX9_bitsOf 10 = .ok (.iload_n 1, 1) := by decide +kernel
theorem dX9_bitsOf_11 : decode cX9_bitsOf 11 = .ok (.iload_n 0, 1) := by decide +kernel
theorem dX9_bitsOf_12 : decode cX9_bitsOf 12 = .ok (.iload_n 2, 1) := by decide +kernel
theorem dX9_bitsOf_13 : decode cX9_bitsOf 13 = .ok (.ishr, 1) := by decide +kernel
theorem dX9_bitsOf_14 : decode cX9_bitsOf 14 = .ok (.iconst 1, 1) := by decide +kernel
theorem dX9_bitsOf_15 : decode cX9_bitsOf 15 = .ok (.iand, 1) := by decide +kernel
theorem dX9_bitsOf_16 : decode cX9_bitsOf 16 = .ok (.iadd, 1) := by decide +kernel
theorem dX9_bitsOf_17 : decode cX9_bitsOf 17 = .ok (.istore_n 1, 1) := by decide +kernel
theorem dX9_bitsOf_18 : decode cX9_bitsOf 18 = .ok (.iinc 2 1, 3) := by decide +kernel
theorem dX9_bitsOf_21 : decode cX9_bitsOf 21 = .ok (.goto (-17), 3) := by decide +kernel
theorem dX9_bitsOf_24 : decode cX9_bitsOf 24 = .ok (.iload_n 1, 1) := by decide +kernel
theorem dX9_bitsOf_25 : decode cX9_bitsOf 25 = .ok (.ireturn, 1) := by decide +kernel
theorem dX9_sizeOf_0 : decode cX9_sizeOf 0 = .ok (.iload_n 0, 1) := by decide +kernel
theorem dX9_sizeOf_1 : decode cX9_sizeOf 1 = .ok (.ifCond .ge 8, 3) := by decide +kernel
theorem dX9_sizeOf_4 : decode cX9_sizeOf 4 = .ok (.iload_n 0, 1) := by decide +kernel
theorem dX9_sizeOf_5 : decode cX9_sizeOf 5 = .ok (.ineg, 1) := by decide +kernel
theorem dX9_sizeOf_6 : decode cX9_sizeOf 6 = .ok (.goto 4, 3) := by decide +kernel
theorem dX9_sizeOf_9 : decode cX9_sizeOf 9 = .ok (.iload_n 0, 1) := by decide +kernel
theorem dX9_sizeOf_10 : decode cX9_sizeOf 10 = .ok (.ireturn, 1) := by decide +kernel
theorem dX9_init_0 : decode cX9_init 0 = .ok (.aload_n 0, 1) := by decide +kernel
theorem dX9_init_1 : decode cX9_init 1 = .ok (.invokespecial 3, 3) := by decide +kernel
theorem dX9_init_4 : decode cX9_init 4 = .ok (.aload_n 0, 1) := by decide +kernel
theorem dX9_init_5 : decode cX9_init 5 = .ok (.bipush 53, 2) := by decide +kernel
theorem dX9_init_7 : decode cX9_init 7 = .ok (.newarray .int, 2) := by decide +kernel
theorem dX9_init_9 : decode cX9_init 9 = .ok (.putfield 9, 3) := by decide +kernel
theorem dX9_init_12 : decode cX9_init 12 = .ok (.aload_n 0, 1) := by decide +kernel
theorem dX9_init_13 : decode cX9_init 13 = .ok (.bipush 40, 2) := by decide +kernel
theorem dX9_init_15 : decode cX9_init 15 = .ok (.newarray .int, 2) := by decide +kernel
theorem dX9_init_17 : decode cX9_init 17 = .ok (.putfield 13, 3) := by decide +kernel
theorem dX9_init_20 : decode cX9_init 20 = .ok (.aload_n 0, 1) := by decide +kernel
theorem dX9_init_21 : decode cX9_init 21 = .ok (.bipush 40, 2) := by decide +kernel
theorem dX9_init_23 : decode cX9_init 23 = .ok (.newarray .int, 2) := by decide +kernel
theorem dX9_init_25 : decode cX9_init 25 = .ok (.putfield 16, 3) := by decide +kernel
theorem dX9_init_28 : decode cX9_init 28 = .ok (.aload_n 0, 1) := by decide +kernel
theorem dX9_init_29 : decode cX9_init 29 = .ok (.bipush 40, 2) := by decide +kernel
theorem dX9_init_31 : decode cX9_init 31 = .ok (.newarray .int, 2) := by decide +kernel
theorem dX9_init_33 : decode cX9_init 33 = .ok (.putfield 19, 3) := by decide +kernel
theorem dX9_init_36 : decode cX9_init 36 = .ok (.aload_n 0, 1) := by decide +kernel
theorem dX9_init_37 : decode cX9_init 37 = .ok (.bipush 120, 2) := by decide +kernel
theorem dX9_init_39 : decode cX9_init 39 = .ok (.newarray .int, 2) := by decide +kernel
theorem dX9_init_41 : decode cX9_init 41 = .ok (.putfield 22, 3) := by decide +kernel
theorem dX9_init_44 : decode cX9_init 44 = .ok (.aload_n 0, 1) := by decide +kernel
theorem dX9_init_45 : decode cX9_init 45 = .ok (.bipush 120, 2) := by decide +kernel
theorem dX9_init_47 : decode cX9_init 47 = .ok (.newarray .int, 2) := by decide +kernel
theorem dX9_init_49 : decode cX9_init 49 = .ok (.putfield 25, 3) := by decide +kernel
theorem dX9_init_52 : decode cX9_init 52 = .ok (.aload_n 0, 1) := by decide +kernel
theorem dX9_init_53 : decode cX9_init 53 = .ok (.bipush 6, 2) := by decide +kernel
theorem dX9_init_55 : decode cX9_init 55 = .ok (.newarray .int, 2) := by decide +kernel
theorem dX9_init_57 : decode cX9_init 57 = .ok (.putfield 28, 3) := by decide +kernel
theorem dX9_init_60 : decode cX9_init 60 = .ok (.aload_n 0, 1) := by decide +kernel
theorem dX9_init_61 : decode cX9_init 61 = .ok (.bipush 12, 2) := by decide +kernel
theorem dX9_init_63 : decode cX9_init 63 = .ok (.newarray .int, 2) := by decide +kernel
theorem dX9_init_65 : decode cX9_init 65 = .ok (.putfield 31, 3) := by decide +kernel
theorem dX9_init_68 : decode cX9_init 68 = .ok (.aload_n 0, 1) := by decide +kernel
theorem dX9_init_69 : decode cX9_init 69 = .ok (.bipush 10, 2) := by decide +kernel
theorem dX9_init_71 : decode cX9_init 71 = .ok (.newarray .int, 2) := by decide +kernel
theorem dX9_init_73 : decode cX9_init 73 = .ok (.putfield 34, 3) := by decide +kernel
theorem dX9_init_76 : decode cX9_init 76 = .ok (.aload_n 0, 1) := by decide +kernel
theorem dX9_init_77 : decode cX9_init 77 = .ok (.bipush 12, 2) := by decide +kernel
theorem dX9_init_79 : decode cX9_init 79 = .ok (.newarray .int, 2) := by decide +kernel
theorem dX9_init_81 : decode cX9_init 81 = .ok (.putfield 37, 3) := by decide +kernel
theorem dX9_init_84 : decode cX9_init 84 = .ok (.aload_n 0, 1) := by decide +kernel
theorem dX9_init_85 : decode cX9_init 85 = .ok (.bipush 12, 2) := by decide +kernel
theorem dX9_init_87 : decode cX9_init 87 = .ok (.newarray .int, 2) := by decide +kernel
theorem dX9_init_89 : decode cX9_init 89 = .ok (.putfield 40, 3) := by decide +kernel
theorem dX9_init_92 : decode cX9_init 92 = .ok (.aload_n 0, 1) := by decide +kernel
theorem dX9_init_93 : decode cX9_init 93 = .ok (.iconst 4, 1) := by decide +kernel
theorem dX9_init_94 : decode cX9_init 94 = .ok (.newarray .int, 2) := by decide +kernel
theorem dX9_init_96 : decode cX9_init 96 = .ok (.putfield 43, 3) := by decide +kernel
theorem dX9_init_99 : decode cX9_init 99 = .ok (.aload_n 0, 1) := by decide +kernel
theorem dX9_init_100 : decode cX9_init 100 = .ok (.iconst 3, 1) := by decide +kernel
theorem dX9_init_101 : decode cX9_init 101 = .ok (.newarray .int, 2) := by decide +kernel
theorem dX9_init_103 : decode cX9_init 103 = .ok (.putfield 46, 3) := by decide +kernel
theorem dX9_init_106 : decode cX9_init 106 = .ok (.aload_n 0, 1) := by decide +kernel
theorem dX9_init_107 : decode cX9_init 107 = .ok (.iconst 5, 1) := by decide +kernel
theorem dX9_init_108 : decode cX9_init 108 = .ok (.newarray .int, 2) := by decide +kernel
theorem dX9_init_110 : decode cX9_init 110 = .ok (.putfield 49, 3) := by decide +kernel
theorem dX9_init_113 : decode cX9_init 113 = .ok (.aload_n 0, 1) := by decide +kernel
theorem dX9_init_114 : decode cX9_init 114 = .ok (.bipush 53, 2) := by decide +kernel
theorem dX9_init_116 : decode cX9_init 116 = .ok (.newarray .int, 2) := by decide +kernel
theorem dX9_init_118 : decode cX9_init 118 = .ok (.putfield 52, 3) := by decide +kernel
theorem dX9_init_121 : decode cX9_init 121 = .ok (.aload_n 0, 1) := by decide +kernel
theorem dX9_init_122 : decode cX9_init 122 = .ok (.iconst 5, 1) := by decide +kernel
theorem dX9_init_123 : decode cX9_init 123 = .ok (.newarray .int, 2) := by decide +kernel
theorem dX9_init_125 : decode cX9_init 125 = .ok (.putfield 55, 3) := by decide +kernel
theorem dX9_init_128 : decode cX9_init 128 = .ok (.aload_n 0, 1) := by decide +kernel
theorem dX9_init_129 : decode cX9_init 129 = .ok (.bipush 50, 2) := by decide +kernel
theorem dX9_init_131 : decode cX9_init 131 = .ok (.newarray .int, 2) := by decide +kernel
theorem dX9_init_133 : decode cX9_init 133 = .ok (.putfield 58, 3) := by decide +kernel
theorem dX9_init_136 : decode cX9_init 136 = .ok (.aload_n 0, 1) := by decide +kernel
theorem dX9_init_137 : decode cX9_init 137 = .ok (.bipush 24, 2) := by decide +kernel
theorem dX9_init_139 : decode cX9_init 139 = .ok (.newarray .int, 2) := by decide +kernel
theorem dX9_init_141 : decode cX9_init 141 = .ok (.putfield 61, 3) := by decide +kernel
theorem dX9_init_144 : decode cX9_init 144 = .ok (.aload_n 0, 1) := by decide +kernel
theorem dX9_init_145 : decode cX9_init 145 = .ok (.bipush 6, 2) := by decide +kernel
theorem dX9_init_147 : decode cX9_init 147 = .ok (.newarray .int, 2) := by decide +kernel
theorem dX9_init_149 : decode cX9_init 149 = .ok (.putfield 64, 3) := by decide +kernel
theorem dX9_init_152 : decode cX9_init 152 = .ok (.aload_n 0, 1) := by decide +kernel
theorem dX9_init_153 : decode cX9_init 153 = .ok (.bipush 6, 2) := by decide +kernel
theorem dX9_init_155 : decode cX9_init 155 = .ok (.newarray .int, 2) := by decide +kernel
theorem dX9_init_157 : decode cX9_init 157 = .ok (.putfield 67, 3) := by decide +kernel
theorem dX9_init_160 : decode cX9_init 160 = .ok (.aload_n 0, 1) := by decide +kernel
theorem dX9_init_161 : decode cX9_init 161 = .ok (.sipush 360, 3) := by decide +kernel
theorem dX9_init_164 : decode cX9_init 164 = .ok (.newarray .long, 2) := by decide +kernel
theorem dX9_init_166 : decode cX9_init 166 = .ok (.putfield 70, 3) := by decide +kernel
theorem dX9_init_169 : decode cX9_init 169 = .ok (.aload_n 0, 1) := by decide +kernel
theorem dX9_init_170 : decode cX9_init 170 = .ok (.bipush 60, 2) := by decide +kernel
theorem dX9_init_172 : decode cX9_init 172 = .ok (.newarray .long, 2) := by decide +kernel
theorem dX9_init_174 : decode cX9_init 174 = .ok (.putfield 74, 3) := by decide +kernel
theorem dX9_init_177 : decode cX9_init 177 = .ok (.iconst 0, 1) := by decide +kernel
theorem dX9_init_178 : decode cX9_init 178 = .ok (.istore_n 1, 1) := by decide +kernel
theorem dX9_init_179 : decode cX9_init 179 = .ok (.iload_n 1, 1) := by decide +kernel
theorem dX9_init_180 : decode cX9_init 180 = .ok (.bipush 6, 2) := by decide +kernel
theorem dX9_init_182 : decode cX9_init 182 = .ok (.if_icmp .ge 16, 3) := by decide +kernel
theorem dX9_init_185 : decode cX9_init 185 = .ok (.aload_n 0, 1) := by decide +kernel
theorem dX9_init_186 : decode cX9_init 186 = .ok (.getfield 64, 3) := by decide +kernel
theorem dX9_init_189 : decode cX9_init 189 = .ok (.iload_n 1, 1) := by decide +kernel
theorem dX9_init_190 : decode cX9_init 190 = .ok (.iconst (-1), 1) := by decide +kernel
theorem dX9_init_191 : decode cX9_init 191 = .ok (.iastore, 1) := by decide +kernel
theorem dX9_init_192 : decode cX9_init 192 = .ok (.iinc 1 1, 3) := by decide +kernel
theorem dX9_init_195 : decode cX9_init 195 = .ok (.goto (-16), 3) := by decide +kernel
theorem dX9_init_198 : decode cX9_init 198 = .ok (.aload_n 0, 1) := by decide +kernel
theorem dX9_init_199 : decode cX9_init 199 = .ok (.iconst (-1), 1) := by decide +kernel
theorem dX9_init_200 : decode cX9_init 200 = .ok (.putfield 77, 3) := by decide +kernel
theorem dX9_init_203 : decode cX9_init 203 = .ok (.aload_n 0, 1) := by decide +kernel
theorem dX9_init_204 : decode cX9_init 204 = .ok (.getfield 9, 3) := by decide +kernel
theorem dX9_init_207 : decode cX9_init 207 = .ok (.bipush 51, 2) := by decide +kernel
theorem dX9_init_209 : decode cX9_init 209 = .ok (.bipush 10, 2) := by decide +kernel
theorem dX9_init_211 : decode cX9_init 211 = .ok (.iastore, 1) := by decide +kernel
theorem dX9_init_212 : decode cX9_init 212 = .ok (.return_, 1) := by decide +kernel
theorem dX9_becomes_0 : decode cX9_becomes 0 = .ok (.aload_n 0, 1) := by decide +kernel
theorem dX9_becomes_1 : decode cX9_becomes 1 = .ok (.getfield 9, 3) := by decide +kernel
theorem dX9_becomes_4 : decode cX9_becomes 4 = .ok (.iload_n 1, 1) := by decide +kernel
theorem dX9_becomes_5 : decode cX9_becomes 5 = .ok (.iaload, 1) := by decide +kernel
theorem dX9_becomes_6 : decode cX9_becomes 6 = .ok (.istore_n 3, 1) := by decide +kernel
theorem dX9_becomes_7 : decode cX9_becomes 7 = .ok (.iload_n 3, 1) := by decide +kernel
theorem dX9_becomes_8 : decode cX9_becomes 8 = .ok (.iload_n 2, 1) := by decide +kernel
theorem dX9_becomes_9 : decode cX9_becomes 9 = .ok (.if_icmp .ne 5, 3) := by decide +kernel
theorem dX9_becomes_12 : decode cX9_becomes 12 = .ok (.iload_n 3, 1) := by decide +kernel
theorem dX9_becomes_13 : decode cX9_becomes 13 = .ok (.ireturn, 1) := by decide +kernel
theorem dX9_becomes_14 : decode cX9_becomes 14 = .ok (.aload_n 0, 1) := by decide +kernel
theorem dX9_becomes_15 : decode cX9_becomes 15 = .ok (.getfield 81, 3) := by decide +kernel
theorem dX9_becomes_18 : decode cX9_becomes 18 = .ok (.bipush 40, 2) := by decide +kernel
theorem dX9_becomes_20 : decode cX9_becomes 20 = .ok (.if_icmp .ne 77, 3) := by decide +kernel
theorem dX9_becomes_23 : decode cX9_becomes 23 = .ok (.iconst 1, 1) := by decide +kernel
theorem dX9_becomes_24 : decode cX9_becomes 24 = .ok (.istore 4, 2) := by decide +kernel
theorem dX9_becomes_26 : decode cX9_becomes 26 = .ok (.iload 4, 2) := by decide +kernel
theorem dX9_becomes_28 : decode cX9_becomes 28 = .ok (.bipush 40, 2) := by decide +kernel
theorem dX9_becomes_30 : decode cX9_becomes 30 = .ok (.if_icmp .ge 57, 3) := by decide +kernel
theorem dX9_becomes_33 : decode cX9_becomes 33 = .ok (.aload_n 0, 1) := by decide +kernel
theorem dX9_becomes_34 : decode cX9_becomes 34 = .ok (.getfield 13, 3) := by decide +kernel
theorem dX9_becomes_37 : decode cX9_becomes 37 = .ok (.iload 4, 2) := by decide +kernel
theorem dX9_becomes_39 : decode cX9_becomes 39 = .ok (.iconst 1, 1) := by decide +kernel
theorem dX9_becomes_40 : decode cX9_becomes 40 = .ok (.isub, 1) := by decide +kernel
theorem dX9_becomes_41 : decode cX9_becomes 41 = .ok (.aload_n 0, 1) := by decide +kernel
theorem dX9_becomes_42 : decode cX9_becomes 42 = .ok (.getfield 13, 3) := by decide +kernel
theorem dX9_becomes_45 : decode cX9_becomes 45 = .ok (.iload 4, 2) := by decide +kernel
theorem dX9_becomes_47 : decode cX9_becomes 47 = .ok (.iaload, 1) := by decide +kernel
theorem dX9_becomes_48 : decode cX9_becomes 48 = .ok (.iastore, 1) := by decide +kernel
theorem dX9_becomes_49 : decode cX9_becomes 49 = .ok (.aload_n 0, 1) := by decide +kernel
theorem dX9_becomes_50 : decode cX9_becomes 50 = .ok (.getfield 16, 3) := by decide +kernel
theorem dX9_becomes_53 : decode cX9_becomes 53 = .ok (.iload 4, 2) := by decide +kernel
theorem dX9_becomes_55 : decode cX9_becomes 55 = .ok (.iconst 1, 1) := by decide +kernel
theorem dX9_becomes_56 : decode cX9_becomes 56 = .ok (.isub, 1) := by decide +kernel
theorem dX9_becomes_57 : decode cX9_becomes 57 = .ok (.aload_n 0, 1) := by decide +kernel
theorem dX9_becomes_58 : decode cX9_becomes 58 = .ok (.getfield 16, 3) := by decide +kernel
theorem dX9_becomes_61 : decode cX9_becomes 61 = .ok (.iload 4, 2) := by decide +kernel
theorem dX9_becomes_63 : decode cX9_becomes 63 = .ok (.iaload, 1) := by decide +kernel
theorem dX9_becomes_64 : decode cX9_becomes 64 = .ok (.iastore, 1) := by decide +kernel
theorem dX9_becomes_65 : decode cX9_becomes 65 = .ok (.aload_n 0, 1) := by decide +kernel
theorem dX9_becomes_66 : decode cX9_becomes 66 = .ok (.getfield 19, 3) := by decide +kernel
theorem dX9_becomes_69 : decode cX9_becomes 69 = .ok (.iload 4, 2) := by decide +kernel
theorem dX9_becomes_71 : decode cX9_becomes 71 = .ok (.iconst 1, 1) := by decide +kernel
theorem dX9_becomes_72 : decode cX9_becomes 72 = .ok (.isub, 1) := by decide +kernel
theorem dX9_becomes_73 : decode cX9_becomes 73 = .ok (.aload_n 0, 1) := by decide +kernel
theorem dX9_becomes_74 : decode cX9_becomes 74 = .ok (.getfield 19, 3) := by decide +kernel
theorem dX9_becomes_77 : decode cX9_becomes 77 = .ok (.iload 4, 2) := by decide +kernel
theorem dX9_becomes_79 : decode cX9_becomes 79 = .ok (.iaload, 1) := by decide +kernel
theorem dX9_becomes_80 : decode cX9_becomes 80 = .ok (.iastore, 1) := by decide +kernel
theorem dX9_becomes_81 : decode cX9_becomes 81 = .ok (.iinc 4 1, 3) := by decide +kernel
theorem dX9_becomes_84 : decode cX9_becomes 84 = .ok (.goto (-58), 3) := by decide +kernel
theorem dX9_becomes_87 : decode cX9_becomes 87 = .ok (.aload_n 0, 1) := by decide +kernel
theorem dX9_becomes_88 : decode cX9_becomes 88 = .ok (.dup, 1) := by decide +kernel
theorem dX9_becomes_89 : decode cX9_becomes 89 = .ok (.getfield 81, 3) := by decide +kernel
theorem dX9_becomes_92 : decode cX9_becomes 92 = .ok (.iconst 1, 1) := by decide +kernel
theorem dX9_becomes_93 : decode cX9_becomes 93 = .ok (.isub, 1) := by decide +kernel
theorem dX9_becomes_94 : decode cX9_becomes 94 = .ok (.putfield 81, 3) := by decide +kernel
theorem dX9_becomes_97 : decode cX9_becomes 97 = .ok (.aload_n 0, 1) := by decide +kernel
theorem dX9_becomes_98 : decode cX9_becomes 98 = .ok (.getfield 13, 3) := by decide +kernel
theorem dX9_becomes_101 : decode cX9_becomes 101 = .ok (.aload_n 0, 1) := by decide +kernel
theorem dX9_becomes_102 : decode cX9_becomes 102 = .ok (.getfield 81, 3) := by decide +kernel
theorem dX9_becomes_105 : decode cX9_becomes 105 = .ok (.iload_n 1, 1) := by decide +kernel
theorem dX9_becomes_106 : decode cX9_becomes 106 = .ok (.iastore, 1) := by decide +kernel
theorem dX9_becomes_107 : decode cX9_becomes 107 = .ok (.aload_n 0, 1) := by decide +kernel
theorem dX9_becomes_108 : decode cX9_becomes 108 = .ok (.getfield 16, 3) := by decide +kernel
theorem dX9_becomes_111 : decode cX9_becomes 111 = .ok (.aload_n 0, 1) := by decide +kernel
theorem dX9_becomes_112 : decode cX9_becomes 112 = .ok (.getfield 81, 3) := by decide +kernel
theorem dX9_becomes_115 : decode cX9_becomes 115 = .ok (.iload_n 3, 1) := by decide +kernel
theorem dX9_becomes_116 : decode cX9_becomes 116 = .ok (.iastore, 1) := by decide +kernel
theorem dX9_becomes_117 : decode cX9_becomes 117 = .ok (.aload_n 0, 1) := by decide +kernel
theorem dX9_becomes_118 : decode cX9_becomes 118 = .ok (.getfield 19, 3) := by decide +kernel
theorem dX9_becomes_121 : decode cX9_becomes 121 = .ok (.aload_n 0, 1) := by decide +kernel
theorem dX9_becomes_122 : decode cX9_becomes 122 = .ok (.getfield 81, 3) := by decide +kernel
theorem dX9_becomes_125 : decode cX9_becomes 125 = .ok (.iload_n 2, 1) := by decide +kernel
theorem dX9_becomes_126 : decode cX9_becomes 126 = .ok (.iastore, 1) := by decide +kernel
theorem dX9_becomes_127 : decode cX9_becomes 127 = .ok (.aload_n 0, 1) := by decide +kernel
theorem dX9_becomes_128 : decode cX9_becomes 128 = .ok (.dup, 1) := by decide +kernel
theorem dX9_becomes_129 : decode cX9_becomes 129 = .ok (.getfield 81, 3) := by decide +kernel
theorem dX9_becomes_132 : decode cX9_becomes 132 = .ok (.iconst 1, 1) := by decide +kernel
theorem dX9_becomes_133 : decode cX9_becomes 133 = .ok (.iadd, 1) := by decide +kernel
theorem dX9_becomes_134 : decode cX9_becomes 134 = .ok (.putfield 81, 3) := by decide +kernel
theorem dX9_becomes_137 : decode cX9_becomes 137 = .ok (.aload_n 0, 1) := by decide +kernel
theorem dX9_becomes_138 : decode cX9_becomes 138 = .ok (.aload_n 0, 1) := by decide +kernel
theorem dX9_becomes_139 : decode cX9_becomes 139 = .ok (.getfield 81, 3) := by decide +kernel
theorem dX9_becomes_142 : decode cX9_becomes 142 = .ok (.putfield 84, 3) := by decide +kernel
theorem dX9_becomes_145 : decode cX9_becomes 145 = .ok (.aload_n 0, 1) := by decide +kernel
theorem dX9_becomes_146 : decode cX9_becomes 146 = .ok (.getfield 9, 3) := by decide +kernel
theorem dX9_becomes_149 : decode cX9_becomes 149 = .ok (.iload_n 1, 1) := by decide +kernel
theorem dX9_becomes_150 : decode cX9_becomes 150 = .ok (.iload_n 2, 1) := by decide +kernel
theorem dX9_becomes_151 : decode cX9_becomes 151 = .ok (.iastore, 1) := by decide +kernel
theorem dX9_becomes_152 : decode cX9_becomes 152 = .ok (.iload_n 3, 1) := by decide +kernel
theorem dX9_becomes_153 : decode cX9_becomes 153 = .ok (.ireturn, 1) := by decide +kernel
theorem dX9_turns_0 : decode cX9_turns 0 = .ok (.iload_n 1, 1) := by decide +kernel
theorem dX9_turns_1 : decode cX9_turns 1 = .ok (.bipush 10, 2) := by decide +kernel
theorem dX9_turns_3 : decode cX9_turns 3 = .ok (.if_icmp .ge 20, 3) := by decide +kernel
theorem dX9_turns_6 : decode cX9_turns 6 = .ok (.aload_n 0, 1) := by decide +kernel
theorem dX9_turns_7 : decode cX9_turns 7 = .ok (.iload_n 2, 1) := by decide +kernel
theorem dX9_turns_8 : decode cX9_turns 8 = .ok (.invokevirtual 87, 3) := by decide +kernel
theorem dX9_turns_11 : decode cX9_turns 11 = .ok (.ifCond .lt 12, 3) := by decide +kernel
theorem dX9_turns_14 : decode cX9_turns 14 = .ok (.aload_n 0, 1) := by decide +kernel
theorem dX9_turns_15 : decode cX9_turns 15 = .ok (.iload_n 2, 1) := by decide +kernel
theorem dX9_turns_16 : decode cX9_turns 16 = .ok (.invokevirtual 87, 3) := by decide +kernel
theorem dX9_turns_19 : decode cX9_turns 19 = .ok (.iload_n 1, 1) := by decide +kernel
theorem dX9_turns_20 : decode cX9_turns 20 = .ok (.if_icmp .ne 10, 3) := by decide +kernel
theorem dX9_turns_23 : decode cX9_turns 23 = .ok (.aload_n 0, 1) := by decide +kernel
theorem dX9_turns_24 : decode cX9_turns 24 = .ok (.getfield 9, 3) := by decide +kernel
theorem dX9_turns_27 : decode cX9_turns 27 = .ok (.iload_n 1, 1) := by decide +kernel
theorem dX9_turns_28 : decode cX9_turns 28 = .ok (.iload_n 2, 1) := by decide +kernel
theorem dX9_turns_29 : decode cX9_turns 29 = .ok (.iastore, 1) := by decide +kernel
theorem dX9_turns_30 : decode cX9_turns 30 = .ok (.return_, 1) := by decide +kernel
