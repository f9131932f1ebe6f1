theorem dX9_undo_0 : decode cX9_undo 0 = .ok (.aload_n 0, 1) := by decide +kernel
theorem dX9_undo_1 : decode cX9_undo 1 = .ok (.getfield 81, 3) := by decide +kernel
theorem dX9_undo_4 : decode cX9_undo 4 = .ok (.ifCond .ne 6, 3) := by decide +kernel
theorem dX9_undo_7 : decode cX9_undo 7 = .ok (.bipush (-5), 2) := by decide +kernel
theorem dX9_undo_9 : decode cX9_undo 9 = .ok (.ireturn, 1) := by decide +kernel
theorem dX9_undo_10 : decode cX9_undo 10 = .ok (.aload_n 0, 1) := by decide +kernel
theorem dX9_undo_11 : decode cX9_undo 11 = .ok (.dup, 1) := by decide +kernel
theorem dX9_undo_12 : decode cX9_undo 12 = .ok (.getfield 81, 3) := by decide +kernel
theorem dX9_undo_15 : decode cX9_undo 15 = .ok (.iconst 1, 1) := by decide +kernel
theorem dX9_undo_16 : decode cX9_undo 16 = .ok (.isub, 1) := by decide +kernel
theorem dX9_undo_17 : decode cX9_undo 17 = .ok (.putfield 81, 3) := by decide +kernel
theorem dX9_undo_20 : decode cX9_undo 20 = .ok (.aload_n 0, 1) := by decide +kernel
theorem dX9_undo_21 : decode cX9_undo 21 = .ok (.aload_n 0, 1) := by decide +kernel
theorem dX9_undo_22 : decode cX9_undo 22 = .ok (.getfield 13, 3) := by decide +kernel
theorem dX9_undo_25 : decode cX9_undo 25 = .ok (.aload_n 0, 1) := by decide +kernel
theorem dX9_undo_26 : decode cX9_undo 26 = .ok (.getfield 81, 3) := by decide +kernel
theorem dX9_undo_29 : decode cX9_undo 29 = .ok (.iaload, 1) := by decide +kernel
theorem dX9_undo_30 : decode cX9_undo 30 = .ok (.aload_n 0, 1) := by decide +kernel
theorem dX9_undo_31 : decode cX9_undo 31 = .ok (.getfield 16, 3) := by decide +kernel
theorem dX9_undo_34 : decode cX9_undo 34 = .ok (.aload_n 0, 1) := by decide +kernel
theorem dX9_undo_35 : decode cX9_undo 35 = .ok (.getfield 81, 3) := by decide +kernel
theorem dX9_undo_38 : decode cX9_undo 38 = .ok (.iaload, 1) := by decide +kernel
theorem dX9_undo_39 : decode cX9_undo 39 = .ok (.invokevirtual 91, 3) := by decide +kernel
theorem dX9_undo_42 : decode cX9_undo 42 = .ok (.aload_n 0, 1) := by decide +kernel
theorem dX9_undo_43 : decode cX9_undo 43 = .ok (.getfield 81, 3) := by decide +kernel
theorem dX9_undo_46 : decode cX9_undo 46 = .ok (.ireturn, 1) := by decide +kernel
theorem dX9_redo_0 : decode cX9_redo 0 = .ok (.aload_n 0, 1) := by decide +kernel
theorem dX9_redo_1 : decode cX9_redo 1 = .ok (.getfield 81, 3) := by decide +kernel
theorem dX9_redo_4 : decode cX9_redo 4 = .ok (.aload_n 0, 1) := by decide +kernel
theorem dX9_redo_5 : decode cX9_redo 5 = .ok (.getfield 84, 3) := by decide +kernel
theorem dX9_redo_8 : decode cX9_redo 8 = .ok (.if_icmp .ne 6, 3) := by decide +kernel
theorem dX9_redo_11 : decode cX9_redo 11 = .ok (.bipush (-5), 2) := by decide +kernel
theorem dX9_redo_13 : decode cX9_redo 13 = .ok (.ireturn, 1) := by decide +kernel
theorem dX9_redo_14 : decode cX9_redo 14 = .ok (.aload_n 0, 1) := by decide +kernel
theorem dX9_redo_15 : decode cX9_redo 15 = .ok (.aload_n 0, 1) := by decide +kernel
theorem dX9_redo_16 : decode cX9_redo 16 = .ok (.getfield 13, 3) := by decide +kernel
theorem dX9_redo_19 : decode cX9_redo 19 = .ok (.aload_n 0, 1) := by decide +kernel
theorem dX9_redo_20 : decode cX9_redo 20 = .ok (.getfield 81, 3) := by decide +kernel
theorem dX9_redo_23 : decode cX9_redo 23 = .ok (.iaload, 1) := by decide +kernel
theorem dX9_redo_24 : decode cX9_redo 24 = .ok (.aload_n 0, 1) := by decide +kernel
theorem dX9_redo_25 : decode cX9_redo 25 = .ok (.getfield 19, 3) := by decide +kernel
theorem dX9_redo_28 : decode cX9_redo 28 = .ok (.aload_n 0, 1) := by decide +kernel
theorem dX9_redo_29 : decode cX9_redo 29 = .ok (.getfield 81, 3) := by decide +kernel
theorem dX9_redo_32 : decode cX9_redo 32 = .ok (.iaload, 1) := by decide +kernel
theorem dX9_redo_33 : decode cX9_redo 33 = .ok (.invokevirtual 91, 3) := by decide +kernel
theorem dX9_redo_36 : decode cX9_redo 36 = .ok (.aload_n 0, 1) := by decide +kernel
theorem dX9_redo_37 : decode cX9_redo 37 = .ok (.dup, 1) := by decide +kernel
theorem dX9_redo_38 : decode cX9_redo 38 = .ok (.getfield 81, 3) := by decide +kernel
theorem dX9_redo_41 : decode cX9_redo 41 = .ok (.iconst 1, 1) := by decide +kernel
theorem dX9_redo_42 : decode cX9_redo 42 = .ok (.iadd, 1) := by decide +kernel
theorem dX9_redo_43 : decode cX9_redo 43 = .ok (.putfield 81, 3) := by decide +kernel
theorem dX9_redo_46 : decode cX9_redo 46 = .ok (.aload_n 0, 1) := by decide +kernel
theorem dX9_redo_47 : decode cX9_redo 47 = .ok (.getfield 84, 3) := by decide +kernel
theorem dX9_redo_50 : decode cX9_redo 50 = .ok (.aload_n 0, 1) := by decide +kernel
theorem dX9_redo_51 : decode cX9_redo 51 = .ok (.getfield 81, 3) := by decide +kernel
theorem dX9_redo_54 : decode cX9_redo 54 = .ok (.isub, 1) := by decide +kernel
theorem dX9_redo_55 : decode cX9_redo 55 = .ok (.ireturn, 1) := by decide +kernel
theorem dX9_isSword_0 : decode cX9_isSword 0 = .ok (.lload_n 1, 1) := by decide +kernel
theorem dX9_isSword_1 : decode cX9_isSword 1 = .ok (.lconst 0, 1) := by decide +kernel
theorem dX9_isSword_2 : decode cX9_isSword 2 = .ok (.aload_n 0, 1) := by decide +kernel
theorem dX9_isSword_3 : decode cX9_isSword 3 = .ok (.getfield 95, 3) := by decide +kernel
theorem dX9_isSword_6 : decode cX9_isSword 6 = .ok (.iconst 1, 1) := by decide +kernel
theorem dX9_isSword_7 : decode cX9_isSword 7 = .ok (.isub, 1) := by decide +kernel
theorem dX9_isSword_8 : decode cX9_isSword 8 = .ok (.i2l, 1) := by decide +kernel
theorem dX9_isSword_9 : decode cX9_isSword 9 = .ok (.invokestatic 98, 3) := by decide +kernel
theorem dX9_isSword_12 : decode cX9_isSword 12 = .ok (.ireturn, 1) := by decide +kernel
theorem dX9_isCot_0 : decode cX9_isCot 0 = .ok (.lload_n 0, 1) := by decide +kernel
theorem dX9_isCot_1 : decode cX9_isCot 1 = .ok (.lconst 0, 1) := by decide +kernel
theorem dX9_isCot_2 : decode cX9_isCot 2 = .ok (.ldc2_w 102, 3) := by decide +kernel
theorem dX9_isCot_5 : decode cX9_isCot 5 = .ok (.invokestatic 98, 3) := by decide +kernel
theorem dX9_isCot_8 : decode cX9_isCot 8 = .ok (.ireturn, 1) := by decide +kernel
theorem dX9_inCot_0 : decode cX9_inCot 0 = .ok (.iconst 0, 1) := by decide +kernel
theorem dX9_inCot_1 : decode cX9_inCot 1 = .ok (.istore_n 2, 1) := by decide +kernel
theorem dX9_inCot_2 : decode cX9_inCot 2 = .ok (.iload_n 2, 1) := by decide +kernel
theorem dX9_inCot_3 : decode cX9_inCot 3 = .ok (.aload_n 0, 1) := by decide +kernel
theorem dX9_inCot_4 : decode cX9_inCot 4 = .ok (.getfield 95, 3) := by decide +kernel
theorem dX9_inCot_7 : decode cX9_inCot 7 = .ok (.if_icmp .ge 21, 3) := by decide +kernel
theorem dX9_inCot_10 : decode cX9_inCot 10 = .ok (.aload_n 0, 1) := by decide +kernel
theorem dX9_inCot_11 : decode cX9_inCot 11 = .ok (.getfield 9, 3) := by decide +kernel
theorem dX9_inCot_14 : decode cX9_inCot 14 = .ok (.iload_n 2, 1) := by decide +kernel
theorem dX9_inCot_15 : decode cX9_inCot 15 = .ok (.iaload, 1) := by decide +kernel
theorem dX9_inCot_16 : decode cX9_inCot 16 = .ok (.iload_n 1, 1) := by decide +kernel
theorem dX9_inCot_17 : decode cX9_inCot 17 = .ok (.if_icmp .ne 5, 3) := by decide +kernel
theorem dX9_inCot_20 : decode cX9_inCot 20 = .ok (.iload_n 2, 1) := by decide +kernel
theorem dX9_inCot_21 : decode cX9_inCot 21 = .ok (.ireturn, 1) := by decide +kernel
theorem dX9_inCot_22 : decode cX9_inCot 22 = .ok (.iinc 2 1, 3) := by decide +kernel
theorem dX9_inCot_25 : decode cX9_inCot 25 = .ok (.goto (-23), 3) := by decide +kernel
theorem dX9_inCot_28 : decode cX9_inCot 28 = .ok (.iconst (-1), 1) := by decide +kernel
theorem dX9_inCot_29 : decode cX9_inCot 29 = .ok (.ireturn, 1) := by decide +kernel
theorem dX9_mayCome_0 : decode cX9_mayCome 0 = .ok (.lload_n 1, 1) := by decide +kernel
theorem dX9_mayCome_1 : decode cX9_mayCome 1 = .ok (.invokestatic 104, 3) := by decide +kernel
theorem dX9_mayCome_4 : decode cX9_mayCome 4 = .ok (.ifCond .eq 39, 3) := by decide +kernel
theorem dX9_mayCome_7 : decode cX9_mayCome 7 = .ok (.aload_n 0, 1) := by decide +kernel
theorem dX9_mayCome_8 : decode cX9_mayCome 8 = .ok (.lload_n 1, 1) := by decide +kernel
theorem dX9_mayCome_9 : decode cX9_mayCome 9 = .ok (.l2i, 1) := by decide +kernel
theorem dX9_mayCome_10 : decode cX9_mayCome 10 = .ok (.invokevirtual 87, 3) := by decide +kernel
theorem dX9_mayCome_13 : decode cX9_mayCome 13 = .ok (.ifCond .ge 30, 3) := by decide +kernel
theorem dX9_mayCome_16 : decode cX9_mayCome 16 = .ok (.lload_n 3, 1) := by decide +kernel
theorem dX9_mayCome_17 : decode cX9_mayCome 17 = .ok (.lconst 0, 1) := by decide +kernel
theorem dX9_mayCome_18 : decode cX9_mayCome 18 = .ok (.ldc2_w 108, 3) := by decide +kernel
theorem dX9_mayCome_21 : decode cX9_mayCome 21 = .ok (.invokestatic 98, 3) := by decide +kernel
theorem dX9_mayCome_24 : decode cX9_mayCome 24 = .ok (.ifCond .eq 19, 3) := by decide +kernel
theorem dX9_mayCome_27 : decode cX9_mayCome 27 = .ok (.lload 5, 2) := by decide +kernel
theorem dX9_mayCome_29 : decode cX9_mayCome 29 = .ok (.lconst 0, 1) := by decide +kernel
theorem dX9_mayCome_30 : decode cX9_mayCome 30 = .ok (.ldc2_w 110, 3) := by decide +kernel
theorem dX9_mayCome_33 : decode cX9_mayCome 33 = .ok (.invokestatic 98, 3) := by decide +kernel
theorem dX9_mayCome_36 : decode cX9_mayCome 36 = .ok (.ifCond .eq 7, 3) := by decide +kernel
theorem dX9_mayCome_39 : decode cX9_mayCome 39 = .ok (.iconst 1, 1) := by decide +kernel
theorem dX9_mayCome_40 : decode cX9_mayCome 40 = .ok (.goto 4, 3) := by decide +kernel
theorem dX9_mayCome_43 : decode cX9_mayCome 43 = .ok (.iconst 0, 1) := by decide +kernel
theorem dX9_mayCome_44 : decode cX9_mayCome 44 = .ok (.ireturn, 1) := by decide +kernel
theorem dX9_adds_0 : decode cX9_adds 0 = .ok (.aload_n 0, 1) := by decide +kernel
theorem dX9_adds_1 : decode cX9_adds 1 = .ok (.getfield 9, 3) := by decide +kernel
theorem dX9_adds_4 : decode cX9_adds 4 = .ok (.aload_n 0, 1) := by decide +kernel
theorem dX9_adds_5 : decode cX9_adds 5 = .ok (.getfield 95, 3) := by decide +kernel
theorem dX9_adds_8 : decode cX9_adds 8 = .ok (.iload_n 1, 1) := by decide +kernel
theorem dX9_adds_9 : decode cX9_adds 9 = .ok (.iastore, 1) := by decide +kernel
theorem dX9_adds_10 : decode cX9_adds 10 = .ok (.aload_n 0, 1) := by decide +kernel
theorem dX9_adds_11 : decode cX9_adds 11 = .ok (.getfield 9, 3) := by decide +kernel
theorem dX9_adds_14 : decode cX9_adds 14 = .ok (.bipush 10, 2) := by decide +kernel
theorem dX9_adds_16 : decode cX9_adds 16 = .ok (.aload_n 0, 1) := by decide +kernel
theorem dX9_adds_17 : decode cX9_adds 17 = .ok (.getfield 95, 3) := by decide +kernel
theorem dX9_adds_20 : decode cX9_adds 20 = .ok (.iadd, 1) := by decide +kernel
theorem dX9_adds_21 : decode cX9_adds 21 = .ok (.iload_n 2, 1) := by decide +kernel
theorem dX9_adds_22 : decode cX9_adds 22 = .ok (.iastore, 1) := by decide +kernel
theorem dX9_adds_23 : decode cX9_adds 23 = .ok (.aload_n 0, 1) := by decide +kernel
theorem dX9_adds_24 : decode cX9_adds 24 = .ok (.getfield 9, 3) := by decide +kernel
theorem dX9_adds_27 : decode cX9_adds 27 = .ok (.bipush 20, 2) := by decide +kernel
theorem dX9_adds_29 : decode cX9_adds 29 = .ok (.aload_n 0, 1) := by decide +kernel
theorem dX9_adds_30 : decode cX9_adds 30 = .ok (.getfield 95, 3) := by decide +kernel
theorem dX9_adds_33 : decode cX9_adds 33 = .ok (.iadd, 1) := by decide +kernel
theorem dX9_adds_34 : decode cX9_adds 34 = .ok (.iload_n 3, 1) := by decide +kernel
theorem dX9_adds_35 : decode cX9_adds 35 = .ok (.iastore, 1) := by decide +kernel
theorem dX9_adds_36 : decode cX9_adds 36 = .ok (.aload_n 0, 1) := by decide +kernel
theorem dX9_adds_37 : decode cX9_adds 37 = .ok (.getfield 9, 3) := by decide +kernel
theorem dX9_adds_40 : decode cX9_adds 40 = .ok (.bipush 30, 2) := by decide +kernel
theorem dX9_adds_42 : decode cX9_adds 42 = .ok (.aload_n 0, 1) := by decide +kernel
theorem dX9_adds_43 : decode cX9_adds 43 = .ok (.getfield 95, 3) := by decide +kernel
theorem dX9_adds_46 : decode cX9_adds 46 = .ok (.iadd, 1) := by decide +kernel
theorem dX9_adds_47 : decode cX9_adds 47 = .ok (.bipush 20, 2) := by decide +kernel
theorem dX9_adds_49 : decode cX9_adds 49 = .ok (.iastore, 1) := by decide +kernel
theorem dX9_adds_50 : decode cX9_adds 50 = .ok (.aload_n 0, 1) := by decide +kernel
theorem dX9_adds_51 : decode cX9_adds 51 = .ok (.dup, 1) := by decide +kernel
theorem dX9_adds_52 : decode cX9_adds 52 = .ok (.getfield 95, 3) := by decide +kernel
theorem dX9_adds_55 : decode cX9_adds 55 = .ok (.iconst 1, 1) := by decide +kernel
theorem dX9_adds_56 : decode cX9_adds 56 = .ok (.iadd, 1) := by decide +kernel
theorem dX9_adds_57 : decode cX9_adds 57 = .ok (.putfield 95, 3) := by decide +kernel
theorem dX9_adds_60 : decode cX9_adds 60 = .ok (.return_, 1) := by decide +kernel
theorem dX9_sword_0 : decode cX9_sword 0 = .ok (.aload_n 0, 1) := by decide +kernel
theorem dX9_sword_1 : decode cX9_sword 1 = .ok (.iload_n 1, 1) := by decide +kernel
theorem dX9_sword_2 : decode cX9_sword 2 = .ok (.i2l, 1) := by decide +kernel
theorem dX9_sword_3 : decode cX9_sword 3 = .ok (.iload_n 2, 1) := by decide +kernel
theorem dX9_sword_4 : decode cX9_sword 4 = .ok (.i2l, 1) := by decide +kernel
theorem dX9_sword_5 : decode cX9_sword 5 = .ok (.lconst 0, 1) := by decide +kernel
theorem dX9_sword_6 : decode cX9_sword 6 = .ok (.invokevirtual 112, 3) := by decide +kernel
theorem dX9_sword_9 : decode cX9_sword 9 = .ok (.ifCond .ne 5, 3) := by decide +kernel
theorem dX9_sword_12 : decode cX9_sword 12 = .ok (.iconst (-1), 1) := by decide +kernel
theorem dX9_sword_13 : decode cX9_sword 13 = .ok (.ireturn, 1) := by decide +kernel
theorem dX9_sword_14 : decode cX9_sword 14 = .ok (.aload_n 0, 1) := by decide +kernel
theorem dX9_sword_15 : decode cX9_sword 15 = .ok (.getfield 95, 3) := by decide +kernel
theorem dX9_sword_18 : decode cX9_sword 18 = .ok (.bipush 10, 2) := by decide +kernel
theorem dX9_sword_20 : decode cX9_sword 20 = .ok (.if_icmp .ne 6, 3) := by decide +kernel
theorem dX9_sword_23 : decode cX9_sword 23 = .ok (.bipush (-3), 2) := by decide +kernel
theorem dX9_sword_25 : decode cX9_sword 25 = .ok (.ireturn, 1) := by decide +kernel
theorem dX9_sword_26 : decode cX9_sword 26 = .ok (.aload_n 0, 1) := by decide +kernel
theorem dX9_sword_27 : decode cX9_sword 27 = .ok (.iload_n 1, 1) := by decide +kernel
theorem dX9_sword_28 : decode cX9_sword 28 = .ok (.iload_n 2, 1) := by decide +kernel
theorem dX9_sword_29 : decode cX9_sword 29 = .ok (.bipush 50, 2) := by decide +kernel
theorem dX9_sword_31 : decode cX9_sword 31 = .ok (.invokevirtual 115, 3) := by decide +kernel
theorem dX9_sword_34 : decode cX9_sword 34 = .ok (.aload_n 0, 1) := by decide +kernel
theorem dX9_sword_35 : decode cX9_sword 35 = .ok (.getfield 95, 3) := by decide +kernel
theorem dX9_sword_38 : decode cX9_sword 38 = .ok (.iconst 1, 1) := by decide +kernel
theorem dX9_sword_39 : decode cX9_sword 39 = .ok (.isub, 1) := by decide +kernel
theorem dX9_sword_40 : decode cX9_sword 40 = .ok (.ireturn, 1) := by decide +kernel
theorem dX9_swords_0 : decode cX9_swords 0 = .ok (.iload_n 1, 1) := by decide +kernel
theorem dX9_swords_1 : decode cX9_swords 1 = .ok (.invokestatic 119, 3) := by decide +kernel
theorem dX9_swords_4 : decode cX9_swords 4 = .ok (.ifCond .eq 15, 3) := by decide +kernel
theorem dX9_swords_7 : decode cX9_swords 7 = .ok (.iload_n 3, 1) := by decide +kernel
theorem dX9_swords_8 : decode cX9_swords 8 = .ok (.i2l, 1) := by decide +kernel
theorem dX9_swords_9 : decode cX9_swords 9 = .ok (.lconst 1, 1) := by decide +kernel
theorem dX9_swords_10 : decode cX9_swords 10 = .ok (.ldc2_w 123, 3) := by decide +kernel
theorem dX9_swords_13 : decode cX9_swords 13 = .ok (.invokestatic 98, 3) := by decide +kernel
theorem dX9_swords_16 : decode cX9_swords 16 = .ok (.ifCond .ne 5, 3) := by decide +kernel
theorem dX9_swords_19 : decode cX9_swords 19 = .ok (.iconst (-1), 1) := by decide +kernel
theorem dX9_swords_20 : decode cX9_swords 20 = .ok (.ireturn, 1) := by decide +kernel
theorem dX9_swords_21 : decode cX9_swords 21 = .ok (.aload_n 0, 1) := by decide +kernel
theorem dX9_swords_22 : decode cX9_swords 22 = .ok (.getfield 64, 3) := by decide +kernel
theorem dX9_swords_25 : decode cX9_swords 25 = .ok (.iload_n 1, 1) := by decide +kernel
theorem dX9_swords_26 : decode cX9_swords 26 = .ok (.iaload, 1) := by decide +kernel
theorem dX9_swords_27 : decode cX9_swords 27 = .ok (.ifCond .lt 17, 3) := by decide +kernel
theorem dX9_swords_30 : decode cX9_swords 30 = .ok (.aload_n 0, 1) := by decide +kernel
theorem dX9_swords_31 : decode cX9_swords 31 = .ok (.getfield 64, 3) := by decide +kernel
theorem dX9_swords_34 : decode cX9_swords 34 = .ok (.iload_n 1, 1) := by decide +kernel
theorem dX9_swords_35 : decode cX9_swords 35 = .ok (.iaload, 1) := by decide +kernel
theorem dX9_swords_36 : decode cX9_swords 36 = .ok (.bipush 50, 2) := by decide +kernel
theorem dX9_swords_38 : decode cX9_swords 38 = .ok (.if_icmp .eq 6, 3) := by decide +kernel
theorem dX9_swords_41 : decode cX9_swords 41 = .ok (.bipush (-12), 2) := by decide +kernel
theorem dX9_swords_43 : decode cX9_swords 43 = .ok (.ireturn, 1) := by decide +kernel
theorem dX9_swords_44 : decode cX9_swords 44 = .ok (.iconst 0, 1) := by decide +kernel
theorem dX9_swords_45 : decode cX9_swords 45 = .ok (.istore 4, 2) := by decide +kernel
theorem dX9_swords_47 : decode cX9_swords 47 = .ok (.aload_n 0, 1) := by decide +kernel
theorem dX9_swords_48 : decode cX9_swords 48 = .ok (.getfield 64, 3) := by decide +kernel
theorem dX9_swords_51 : decode cX9_swords 51 = .ok (.iload_n 1, 1) := by decide +kernel
theorem dX9_swords_52 : decode cX9_swords 52 = .ok (.iaload, 1) := by decide +kernel
theorem dX9_swords_53 : decode cX9_swords 53 = .ok (.bipush 50, 2) := by decide +kernel
theorem dX9_swords_55 : decode cX9_swords 55 = .ok (.if_icmp .ne 11, 3) := by decide +kernel
theorem dX9_swords_58 : decode cX9_swords 58 = .ok (.iload_n 2, 1) := by decide +kernel
theorem dX9_swords_59 : decode cX9_swords 59 = .ok (.ifCond .lt 7, 3) := by decide +kernel
theorem dX9_swords_62 : decode cX9_swords 62 = .ok (.iconst 1, 1) := by decide +kernel
theorem dX9_swords_63 : decode cX9_swords 63 = .ok (.goto 4, 3) := by decide +kernel
theorem dX9_swords_66 : decode cX9_swords 66 = .ok (.iconst 0, 1) := by decide +kernel
theorem dX9_swords_67 : decode cX9_swords 67 = .ok (.istore 5, 2) := by decide +kernel
theorem dX9_swords_69 : decode cX9_swords 69 = .ok (.iload 5, 2) := by decide +kernel
theorem dX9_swords_71 : decode cX9_swords 71 = .ok (.ifCond .eq 142, 3) := by decide +kernel
theorem dX9_swords_74 : decode cX9_swords 74 = .ok (.iload 4, 2) := by decide +kernel
theorem dX9_swords_76 : decode cX9_swords 76 = .ok (.iload_n 3, 1) := by decide +kernel
theorem dX9_swords_77 : decode cX9_swords 77 = .ok (.if_icmp .ge 136, 3) := by decide +kernel
theorem dX9_swords_80 : decode cX9_swords 80 = .ok (.iload_n 2, 1) := by decide +kernel
theorem dX9_swords_81 : decode cX9_swords 81 = .ok (.aload_n 0, 1) := by decide +kernel
theorem dX9_swords_82 : decode cX9_swords 82 = .ok (.getfield 67, 3) := by decide +kernel
theorem dX9_swords_85 : decode cX9_swords 85 = .ok (.iload_n 1, 1) := by decide +kernel
theorem dX9_swords_86 : decode cX9_swords 86 = .ok (.iaload, 1) := by decide +kernel
theorem dX9_swords_87 : decode cX9_swords 87 = .ok (.iconst 3, 1) := by decide +kernel
theorem dX9_swords_88 : decode cX9_swords 88 = .ok (.isub, 1) := by decide +kernel
theorem dX9_swords_89 : decode cX9_swords 89 = .ok (.iconst 3, 1) := by decide +kernel
theorem dX9_swords_90 : decode cX9_swords 90 = .ok (.iload 4, 2) := by decide +kernel
theorem dX9_swords_92 : decode cX9_swords 92 = .ok (.imul, 1) := by decide +kernel
theorem dX9_swords_93 : decode cX9_swords 93 = .ok (.isub, 1) := by decide +kernel
theorem dX9_swords_94 : decode cX9_swords 94 = .ok (.if_icmp .gt 16, 3) := by decide +kernel
theorem dX9_swords_97 : decode cX9_swords 97 = .ok (.aload_n 0, 1) := by decide +kernel
theorem dX9_swords_98 : decode cX9_swords 98 = .ok (.getfield 95, 3) := by decide +kernel
theorem dX9_swords_101 : decode cX9_swords 101 = .ok (.bipush 10, 2) := by decide +kernel
theorem dX9_swords_103 : decode cX9_swords 103 = .ok (.if_icmp .ge 7, 3) := by decide +kernel
theorem dX9_swords_106 : decode cX9_swords 106 = .ok (.iconst 1, 1) := by decide +kernel
theorem dX9_swords_107 : decode cX9_swords 107 = .ok (.goto 4, 3) := by decide +kernel
theorem dX9_swords_110 : decode cX9_swords 110 = .ok (.iconst 0, 1) := by decide +kernel
theorem dX9_swords_111 : decode cX9_swords 111 = .ok (.istore 5, 2) := by decide +kernel
theorem dX9_swords_113 : decode cX9_swords 113 = .ok (.bipush 60, 2) := by decide +kernel
theorem dX9_swords_115 : decode cX9_swords 115 = .ok (.iload_n 1, 1) := by decide +kernel
theorem dX9_swords_116 : decode cX9_swords 116 = .ok (.imul, 1) := by decide +kernel
theorem dX9_swords_117 : decode cX9_swords 117 = .ok (.iload_n 2, 1) := by decide +kernel
theorem dX9_swords_118 : decode cX9_swords 118 = .ok (.iadd, 1) := by decide +kernel
theorem dX9_swords_119 : decode cX9_swords 119 = .ok (.iconst 3, 1) := by decide +kernel
theorem dX9_swords_120 : decode cX9_swords 120 = .ok (.iload 4, 2) := by decide +kernel
theorem dX9_swords_122 : decode cX9_swords 122 = .ok (.imul, 1) := by decide +kernel
theorem dX9_swords_123 : decode cX9_swords 123 = .ok (.iadd, 1) := by decide +kernel
theorem dX9_swords_124 : decode cX9_swords 124 = .ok (.istore 6, 2) := by decide +kernel
theorem dX9_swords_126 : decode cX9_swords 126 = .ok (.iload 5, 2) := by decide +kernel
theorem dX9_swords_128 : decode cX9_swords 128 = .ok (.ifCond .eq 39, 3) := by decide +kernel
theorem dX9_swords_131 : decode cX9_swords 131 = .ok (.aload_n 0, 1) := by decide +kernel
theorem dX9_swords_132 : decode cX9_swords 132 = .ok (.aload_n 0, 1) := by decide +kernel
theorem dX9_swords_133 : decode cX9_swords 133 = .ok (.getfield 70, 3) := by decide +kernel
theorem dX9_swords_136 : decode cX9_swords 136 = .ok (.iload 6, 2) := by decide +kernel
theorem dX9_swords_138 : decode cX9_swords 138 = .ok (.laload, 1) := by decide +kernel
theorem dX9_swords_139 : decode cX9_swords 139 = .ok (.aload_n 0, 1) := by decide +kernel
theorem dX9_swords_140 : decode cX9_swords 140 = .ok (.getfield 70, 3) := by decide +kernel
theorem dX9_swords_143 : decode cX9_swords 143 = .ok (.iload 6, 2) := by decide +kernel
theorem dX9_swords_145 : decode cX9_swords 145 = .ok (.iconst 1, 1) := by decide +kernel
theorem dX9_swords_146 : decode cX9_swords 146 = .ok (.iadd, 1) := by decide +kernel
theorem dX9_swords_147 : decode cX9_swords 147 = .ok (.laload, 1) := by decide +kernel
theorem dX9_swords_148 : decode cX9_swords 148 = .ok (.aload_n 0, 1) := by decide +kernel
theorem dX9_swords_149 : decode cX9_swords 149 = .ok (.getfield 70, 3) := by decide +kernel
theorem dX9_swords_152 : decode cX9_swords 152 = .ok (.iload 6, 2) := by decide +kernel
theorem dX9_swords_154 : decode cX9_swords 154 = .ok (.iconst 2, 1) := by decide +kernel
theorem dX9_swords_155 : decode cX9_swords 155 = .ok (.iadd, 1) := by decide +kernel
theorem dX9_swords_156 : decode cX9_swords 156 = .ok (.laload, 1) := by decide +kernel
theorem dX9_swords_157 : decode cX9_swords 157 = .ok (.invokevirtual 112, 3) := by decide +kernel
theorem dX9_swords_160 : decode cX9_swords 160 = .ok (.ifCond .eq 7, 3) := by decide +kernel
theorem dX9_swords_163 : decode cX9_swords 163 = .ok (.iconst 1, 1) := by decide +kernel
theorem dX9_swords_164 : decode cX9_swords 164 = .ok (.goto 4, 3) := by decide +kernel
theorem dX9_swords_167 : decode cX9_swords 167 = .ok (.iconst 0, 1) := by decide +kernel
theorem dX9_swords_168 : decode cX9_swords 168 = .ok (.istore 5, 2) := by decide +kernel
theorem dX9_swords_170 : decode cX9_swords 170 = .ok (.iload 5, 2) := by decide +kernel
theorem dX9_swords_172 : decode cX9_swords 172 = .ok (.ifCond .eq 38, 3) := by decide +kernel
theorem dX9_swords_175 : decode cX9_swords 175 = .ok (.aload_n 0, 1) := by decide +kernel
theorem dX9_swords_176 : decode cX9_swords 176 = .ok (.aload_n 0, 1) := by decide +kernel
theorem dX9_swords_177 : decode cX9_swords 177 = .ok (.getfield 70, 3) := by decide +kernel
theorem dX9_swords_180 : decode cX9_swords 180 = .ok (.iload 6, 2) := by decide +kernel
theorem dX9_swords_182 : decode cX9_swords 182 = .ok (.laload, 1) := by decide +kernel
theorem dX9_swords_183 : decode cX9_swords 183 = .ok (.l2i, 1) := by decide +kernel
theorem dX9_swords_184 : decode cX9_swords 184 = .ok (.aload_n 0, 1) := by decide +kernel
theorem dX9_swords_185 : decode cX9_swords 185 = .ok (.getfield 70, 3) := by decide +kernel
theorem dX9_swords_188 : decode cX9_swords 188 = .ok (.iload 6, 2) := by decide +kernel
theorem dX9_swords_190 : decode cX9_swords 190 = .ok (.iconst 1, 1) := by decide +kernel
theorem dX9_swords_191 : decode cX9_swords 191 = .ok (.iadd, 1) := by decide +kernel
theorem dX9_swords_192 : decode cX9_swords 192 = .ok (.laload, 1) := by decide +kernel
theorem dX9_swords_193 : decode cX9_swords 193 = .ok (.l2i, 1) := by decide +kernel
theorem dX9_swords_194 : decode cX9_swords 194 = .ok (.aload_n 0, 1) := by decide +kernel
theorem dX9_swords_195 : decode cX9_swords 195 = .ok (.getfield 70, 3) := by decide +kernel
theorem dX9_swords_198 : decode cX9_swords 198 = .ok (.iload 6, 2) := by decide +kernel
theorem dX9_swords_200 : decode cX9_swords 200 = .ok (.iconst 2, 1) := by decide +kernel
theorem dX9_swords_201 : decode cX9_swords 201 = .ok (.iadd, 1) := by decide +kernel
theorem dX9_swords_202 : decode cX9_swords 202 = .ok (.laload, 1) := by decide +kernel
theorem dX9_swords_203 : decode cX9_swords 203 = .ok (.l2i, 1) := by decide +kernel
theorem dX9_swords_204 : decode cX9_swords 204 = .ok (.invokevirtual 115, 3) := by decide +kernel
theorem dX9_swords_207 : decode cX9_swords 207 = .ok (.iinc 4 1, 3) := by decide +kernel
theorem dX9_swords_210 : decode cX9_swords 210 = .ok (.goto (-141), 3) := by decide +kernel
theorem dX9_swords_213 : decode cX9_swords 213 = .ok (.iload 4, 2) := by decide +kernel
theorem dX9_swords_215 : decode cX9_swords 215 = .ok (.ireturn, 1) := by decide +kernel
theorem dX9_placeOf_0 : decode cX9_placeOf 0 = .ok (.iload_n 2, 1) := by decide +kernel
theorem dX9_placeOf_1 : decode cX9_placeOf 1 = .ok (.i2l, 1) := by decide +kernel
theorem dX9_placeOf_2 : decode cX9_placeOf 2 = .ok (.lconst 0, 1) := by decide +kernel
theorem dX9_placeOf_3 : decode cX9_placeOf 3 = .ok (.ldc2_w 125, 3) := by decide +kernel
theorem dX9_placeOf_6 : decode cX9_placeOf 6 = .ok (.invokestatic 98, 3) := by decide +kernel
theorem dX9_placeOf_9 : decode cX9_placeOf 9 = .ok (.ifCond .eq 23, 3) := by decide +kernel
theorem dX9_placeOf_12 : decode cX9_placeOf 12 = .ok (.aload_n 0, 1) := by decide +kernel
theorem dX9_placeOf_13 : decode cX9_placeOf 13 = .ok (.iload_n 1, 1) := by decide +kernel
theorem dX9_placeOf_14 : decode cX9_placeOf 14 = .ok (.i2l, 1) := by decide +kernel
theorem dX9_placeOf_15 : decode cX9_placeOf 15 = .ok (.invokevirtual 127, 3) := by decide +kernel
theorem dX9_placeOf_18 : decode cX9_placeOf 18 = .ok (.ifCond .eq 12, 3) := by decide +kernel
theorem dX9_placeOf_21 : decode cX9_placeOf 21 = .ok (.bipush 10, 2) := by decide +kernel
theorem dX9_placeOf_23 : decode cX9_placeOf 23 = .ok (.iload_n 2, 1) := by decide +kernel
theorem dX9_placeOf_24 : decode cX9_placeOf 24 = .ok (.imul, 1) := by decide +kernel
theorem dX9_placeOf_25 : decode cX9_placeOf 25 = .ok (.iload_n 1, 1) := by decide +kernel
theorem dX9_placeOf_26 : decode cX9_placeOf 26 = .ok (.iadd, 1) := by decide +kernel
theorem dX9_placeOf_27 : decode cX9_placeOf 27 = .ok (.goto 4, 3) := by decide +kernel
theorem dX9_placeOf_30 : decode cX9_placeOf 30 = .ok (.iconst (-1), 1) := by decide +kernel
theorem dX9_placeOf_31 : decode cX9_placeOf 31 = .ok (.ireturn, 1) := by decide +kernel
theorem dX9_placeOf_32 : decode cX9_placeOf 32 = .ok (.iload_n 1, 1) := by decide +kernel
theorem dX9_placeOf_33 : decode cX9_placeOf 33 = .ok (.ifCond .ne 26, 3) := by decide +kernel
theorem dX9_placeOf_36 : decode cX9_placeOf 36 = .ok (.iload_n 2, 1) := by decide +kernel
theorem dX9_placeOf_37 : decode cX9_placeOf 37 = .ok (.i2l, 1) := by decide +kernel
theorem dX9_placeOf_38 : decode cX9_placeOf 38 = .ok (.ldc2_w 130, 3) := by decide +kernel
theorem dX9_placeOf_41 : decode cX9_placeOf 41 = .ok (.ldc2_w 132, 3) := by decide +kernel
theorem dX9_placeOf_44 : decode cX9_placeOf 44 = .ok (.invokestatic 98, 3) := by decide +kernel
theorem dX9_placeOf_47 : decode cX9_placeOf 47 = .ok (.ifCond .eq 12, 3) := by decide +kernel
theorem dX9_placeOf_50 : decode cX9_placeOf 50 = .ok (.bipush 50, 2) := by decide +kernel
theorem dX9_placeOf_52 : decode cX9_placeOf 52 = .ok (.iload_n 2, 1) := by decide +kernel
theorem dX9_placeOf_53 : decode cX9_placeOf 53 = .ok (.iadd, 1) := by decide +kernel
theorem dX9_placeOf_54 : decode cX9_placeOf 54 = .ok (.iconst 5, 1) := by decide +kernel
theorem dX9_placeOf_55 : decode cX9_placeOf 55 = .ok (.isub, 1) := by decide +kernel
theorem dX9_placeOf_56 : decode cX9_placeOf 56 = .ok (.goto 4, 3) := by decide +kernel
theorem dX9_placeOf_59 : decode cX9_placeOf 59 = .ok (.iconst (-1), 1) := by decide +kernel
theorem dX9_placeOf_60 : decode cX9_placeOf 60 = .ok (.ireturn, 1) := by decide +kernel
theorem dX9_mayBecome_0 : decode cX9_mayBecome 0 = .ok (.iload_n 2, 1) := by decide +kernel
theorem dX9_mayBecome_1 : decode cX9_mayBecome 1 = .ok (.tableswitch 122 0 7 #[47, 78, 122, 122, 88, 96, 106, 116], 47) := by decide +kernel
theorem dX9_mayBecome_48 : decode cX9_mayBecome 48 = .ok (.iload_n 3, 1) := by decide +kernel
theorem dX9_mayBecome_49 : decode cX9_mayBecome 49 = .ok (.i2l, 1) := by decide +kernel
theorem dX9_mayBecome_50 : decode cX9_mayBecome 50 = .ok (.invokestatic 104, 3) := by decide +kernel
theorem dX9_mayBecome_53 : decode cX9_mayBecome 53 = .ok (.ifCond .eq 24, 3) := by decide +kernel
theorem dX9_mayBecome_56 : decode cX9_mayBecome 56 = .ok (.aload_n 0, 1) := by decide +kernel
theorem dX9_mayBecome_57 : decode cX9_mayBecome 57 = .ok (.iload_n 3, 1) := by decide +kernel
theorem dX9_mayBecome_58 : decode cX9_mayBecome 58 = .ok (.invokevirtual 87, 3) := by decide +kernel
theorem dX9_mayBecome_61 : decode cX9_mayBecome 61 = .ok (.ifCond .lt 12, 3) := by decide +kernel
theorem dX9_mayBecome_64 : decode cX9_mayBecome 64 = .ok (.aload_n 0, 1) := by decide +kernel
theorem dX9_mayBecome_65 : decode cX9_mayBecome 65 = .ok (.iload_n 3, 1) := by decide +kernel
theorem dX9_mayBecome_66 : decode cX9_mayBecome 66 = .ok (.invokevirtual 87, 3) := by decide +kernel
theorem dX9_mayBecome_69 : decode cX9_mayBecome 69 = .ok (.iload_n 1, 1) := by decide +kernel
theorem dX9_mayBecome_70 : decode cX9_mayBecome 70 = .ok (.if_icmp .ne 7, 3) := by decide +kernel
theorem dX9_mayBecome_73 : decode cX9_mayBecome 73 = .ok (.iconst 1, 1) := by decide +kernel
theorem dX9_mayBecome_74 : decode cX9_mayBecome 74 = .ok (.goto 4, 3) := by decide +kernel
theorem dX9_mayBecome_77 : decode cX9_mayBecome 77 = .ok (.iconst 0, 1) := by decide +kernel
theorem dX9_mayBecome_78 : decode cX9_mayBecome 78 = .ok (.ireturn, 1) := by decide +kernel
theorem dX9_mayBecome_79 : decode cX9_mayBecome 79 = .ok (.iload_n 3, 1) := by decide +kernel
theorem dX9_mayBecome_80 : decode cX9_mayBecome 80 = .ok (.i2l, 1) := by decide +kernel
theorem dX9_mayBecome_81 : decode cX9_mayBecome 81 = .ok (.lconst 0, 1) := by decide +kernel
theorem dX9_mayBecome_82 : decode cX9_mayBecome 82 = .ok (.ldc2_w 108, 3) := by decide +kernel
theorem dX9_mayBecome_85 : decode cX9_mayBecome 85 = .ok (.invokestatic 98, 3) := by decide +kernel
theorem dX9_mayBecome_88 : decode cX9_mayBecome 88 = .ok (.ireturn, 1) := by decide +kernel
theorem dX9_mayBecome_89 : decode cX9_mayBecome 89 = .ok (.iload_n 3, 1) := by decide +kernel
theorem dX9_mayBecome_90 : decode cX9_mayBecome 90 = .ok (.i2l, 1) := by decide +kernel
theorem dX9_mayBecome_91 : decode cX9_mayBecome 91 = .ok (.lconst 0, 1) := by decide +kernel
theorem dX9_mayBecome_92 : decode cX9_mayBecome 92 = .ok (.lconst 1, 1) := by decide +kernel
theorem dX9_mayBecome_93 : decode cX9_mayBecome 93 = .ok (.invokestatic 98, 3) := by decide +kernel
theorem dX9_mayBecome_96 : decode cX9_mayBecome 96 = .ok (.ireturn, 1) := by decide +kernel
theorem dX9_mayBecome_97 : decode cX9_mayBecome 97 = .ok (.iload_n 3, 1) := by decide +kernel
theorem dX9_mayBecome_98 : decode cX9_mayBecome 98 = .ok (.i2l, 1) := by decide +kernel
theorem dX9_mayBecome_99 : decode cX9_mayBecome 99 = .ok (.lconst 0, 1) := by decide +kernel
theorem dX9_mayBecome_100 : decode cX9_mayBecome 100 = .ok (.ldc2_w 102, 3) := by decide +kernel
theorem dX9_mayBecome_103 : decode cX9_mayBecome 103 = .ok (.invokestatic 98, 3) := by decide +kernel
theorem dX9_mayBecome_106 : decode cX9_mayBecome 106 = .ok (.ireturn, 1) := by decide +kernel
theorem dX9_mayBecome_107 : decode cX9_mayBecome 107 = .ok (.iload_n 3, 1) := by decide +kernel
theorem dX9_mayBecome_108 : decode cX9_mayBecome 108 = .ok (.i2l, 1) := by decide +kernel
theorem dX9_mayBecome_109 : decode cX9_mayBecome 109 = .ok (.lconst 0, 1) := by decide +kernel
theorem dX9_mayBecome_110 : decode cX9_mayBecome 110 = .ok (.ldc2_w 134, 3) := by decide +kernel
theorem dX9_mayBecome_113 : decode cX9_mayBecome 113 = .ok (.invokestatic 98, 3) := by decide +kernel
theorem dX9_mayBecome_116 : decode cX9_mayBecome 116 = .ok (.ireturn, 1) := by decide +kernel
theorem dX9_mayBecome_117 : decode cX9_mayBecome 117 = .ok (.iload_n 3, 1) := by decide +kernel
theorem dX9_mayBecome_118 : decode cX9_mayBecome 118 = .ok (.i2l, 1) := by decide +kernel
theorem dX9_mayBecome_119 : decode cX9_mayBecome 119 = .ok (.invokestatic 104, 3) := by decide +kernel
theorem dX9_mayBecome_122 : decode cX9_mayBecome 122 = .ok (.ireturn, 1) := by decide +kernel
theorem dX9_mayBecome_123 : decode cX9_mayBecome 123 = .ok (.iload_n 3, 1) := by decide +kernel
theorem dX9_mayBecome_124 : decode cX9_mayBecome 124 = .ok (.i2l, 1) := by decide +kernel
theorem dX9_mayBecome_125 : decode cX9_mayBecome 125 = .ok (.lconst 0, 1) := by decide +kernel
theorem dX9_mayBecome_126 : decode cX9_mayBecome 126 = .ok (.ldc2_w 110, 3) := by decide +kernel
theorem dX9_mayBecome_129 : decode cX9_mayBecome 129 = .ok (.invokestatic 98, 3) := by decide +kernel
theorem dX9_mayBecome_132 : decode cX9_mayBecome 132 = .ok (.ireturn, 1) := by decide +kernel
theorem dX9_mend_0 : decode cX9_mend 0 = .ok (.aload_n 0, 1) := by decide +kernel
theorem dX9_mend_1 : decode cX9_mend 1 = .ok (.iload_n 1, 1) := by decide +kernel
theorem dX9_mend_2 : decode cX9_mend 2 = .ok (.iload_n 2, 1) := by decide +kernel
theorem dX9_mend_3 : decode cX9_mend 3 = .ok (.invokevirtual 136, 3) := by decide +kernel
theorem dX9_mend_6 : decode cX9_mend 6 = .ok (.istore 4, 2) := by decide +kernel
theorem dX9_mend_8 : decode cX9_mend 8 = .ok (.iload 4, 2) := by decide +kernel
theorem dX9_mend_10 : decode cX9_mend 10 = .ok (.ifCond .lt 23, 3) := by decide +kernel
theorem dX9_mend_13 : decode cX9_mend 13 = .ok (.aload_n 0, 1) := by decide +kernel
theorem dX9_mend_14 : decode cX9_mend 14 = .ok (.iload_n 1, 1) := by decide +kernel
theorem dX9_mend_15 : decode cX9_mend 15 = .ok (.iload_n 2, 1) := by decide +kernel
theorem dX9_mend_16 : decode cX9_mend 16 = .ok (.iload_n 3, 1) := by decide +kernel
theorem dX9_mend_17 : decode cX9_mend 17 = .ok (.invokevirtual 140, 3) := by decide +kernel
theorem dX9_mend_20 : decode cX9_mend 20 = .ok (.ifCond .eq 13, 3) := by decide +kernel
theorem dX9_mend_23 : decode cX9_mend 23 = .ok (.aload_n 0, 1) := by decide +kernel
theorem dX9_mend_24 : decode cX9_mend 24 = .ok (.iload 4, 2) := by decide +kernel
theorem dX9_mend_26 : decode cX9_mend 26 = .ok (.iload_n 3, 1) := by decide +kernel
theorem dX9_mend_27 : decode cX9_mend 27 = .ok (.invokevirtual 144, 3) := by decide +kernel
theorem dX9_mend_30 : decode cX9_mend 30 = .ok (.goto 4, 3) := by decide +kernel
theorem dX9_mend_33 : decode cX9_mend 33 = .ok (.iconst (-1), 1) := by decide +kernel
theorem dX9_mend_34 : decode cX9_mend 34 = .ok (.ireturn, 1) := by decide +kernel
theorem dX9_of_0 : decode cX9_of 0 = .ok (.aload_n 0, 1) := by decide +kernel
theorem dX9_of_1 : decode cX9_of 1 = .ok (.iload_n 1, 1) := by decide +kernel
theorem dX9_of_2 : decode cX9_of 2 = .ok (.iload_n 2, 1) := by decide +kernel
theorem dX9_of_3 : decode cX9_of 3 = .ok (.invokevirtual 136, 3) := by decide +kernel
theorem dX9_of_6 : decode cX9_of 6 = .ok (.istore_n 3, 1) := by decide +kernel
theorem dX9_of_7 : decode cX9_of 7 = .ok (.iload_n 3, 1) := by decide +kernel
theorem dX9_of_8 : decode cX9_of 8 = .ok (.ifCond .lt 10, 3) := by decide +kernel
theorem dX9_of_11 : decode cX9_of 11 = .ok (.aload_n 0, 1) := by decide +kernel
theorem dX9_of_12 : decode cX9_of 12 = .ok (.getfield 9, 3) := by decide +kernel
theorem dX9_of_15 : decode cX9_of 15 = .ok (.iload_n 3, 1) := by decide +kernel
theorem dX9_of_16 : decode cX9_of 16 = .ok (.iaload, 1) := by decide +kernel
theorem dX9_of_17 : decode cX9_of 17 = .ok (.ireturn, 1) := by decide +kernel
theorem dX9_of_18 : decode cX9_of 18 = .ok (.iload_n 2, 1) := by decide +kernel
theorem dX9_of_19 : decode cX9_of 19 = .ok (.bipush 8, 2) := by decide +kernel
theorem dX9_of_21 : decode cX9_of 21 = .ok (.if_icmp .ne 11, 3) := by decide +kernel
theorem dX9_of_24 : decode cX9_of 24 = .ok (.iload_n 1, 1) := by decide +kernel
theorem dX9_of_25 : decode cX9_of 25 = .ok (.i2l, 1) := by decide +kernel
theorem dX9_of_26 : decode cX9_of 26 = .ok (.invokestatic 104, 3) := by decide +kernel
theorem dX9_of_29 : decode cX9_of 29 = .ok (.ifCond .ne 7, 3) := by decide +kernel
theorem dX9_of_32 : decode cX9_of 32 = .ok (.iconst (-1), 1) := by decide +kernel
theorem dX9_of_33 : decode cX9_of 33 = .ok (.goto 21, 3) := by decide +kernel
theorem dX9_of_36 : decode cX9_of 36 = .ok (.aload_n 0, 1) := by decide +kernel
theorem dX9_of_37 : decode cX9_of 37 = .ok (.iload_n 1, 1) := by decide +kernel
theorem dX9_of_38 : decode cX9_of 38 = .ok (.invokevirtual 87, 3) := by decide +kernel
theorem dX9_of_41 : decode cX9_of 41 = .ok (.ifCond .ge 8, 3) := by decide +kernel
theorem dX9_of_44 : decode cX9_of 44 = .ok (.bipush (-2), 2) := by decide +kernel
theorem dX9_of_46 : decode cX9_of 46 = .ok (.goto 8, 3) := by decide +kernel
theorem dX9_of_49 : decode cX9_of 49 = .ok (.aload_n 0, 1) := by decide +kernel
theorem dX9_of_50 : decode cX9_of 50 = .ok (.iload_n 1, 1) := by decide +kernel
theorem dX9_of_51 : decode cX9_of 51 = .ok (.invokevirtual 87, 3) := by decide +kernel
theorem dX9_of_54 : decode cX9_of 54 = .ok (.ireturn, 1) := by decide +kernel
theorem dX9_feed_0 : decode cX9_feed 0 = .ok (.iload_n 1, 1) := by decide +kernel
theorem dX9_feed_1 : decode cX9_feed 1 = .ok (.i2l, 1) := by decide +kernel
theorem dX9_feed_2 : decode cX9_feed 2 = .ok (.lconst 0, 1) := by decide +kernel
theorem dX9_feed_3 : decode cX9_feed 3 = .ok (.ldc2_w 147, 3) := by decide +kernel
theorem dX9_feed_6 : decode cX9_feed 6 = .ok (.invokestatic 98, 3) := by decide +kernel
theorem dX9_feed_9 : decode cX9_feed 9 = .ok (.ifCond .ne 5, 3) := by decide +kernel
theorem dX9_feed_12 : decode cX9_feed 12 = .ok (.iconst (-1), 1) := by decide +kernel
theorem dX9_feed_13 : decode cX9_feed 13 = .ok (.ireturn, 1) := by decide +kernel
theorem dX9_feed_14 : decode cX9_feed 14 = .ok (.aload_n 0, 1) := by decide +kernel
theorem dX9_feed_15 : decode cX9_feed 15 = .ok (.getfield 149, 3) := by decide +kernel
theorem dX9_feed_18 : decode cX9_feed 18 = .ok (.bipush 120, 2) := by decide +kernel
theorem dX9_feed_20 : decode cX9_feed 20 = .ok (.if_icmp .ne 6, 3) := by decide +kernel
theorem dX9_feed_23 : decode cX9_feed 23 = .ok (.bipush (-3), 2) := by decide +kernel
theorem dX9_feed_25 : decode cX9_feed 25 = .ok (.ireturn, 1) := by decide +kernel
theorem dX9_feed_26 : decode cX9_feed 26 = .ok (.aload_n 0, 1) := by decide +kernel
theorem dX9_feed_27 : decode cX9_feed 27 = .ok (.getfield 22, 3) := by decide +kernel
theorem dX9_feed_30 : decode cX9_feed 30 = .ok (.aload_n 0, 1) := by decide +kernel
theorem dX9_feed_31 : decode cX9_feed 31 = .ok (.getfield 149, 3) := by decide +kernel
theorem dX9_feed_34 : decode cX9_feed 34 = .ok (.iload_n 1, 1) := by decide +kernel
theorem dX9_feed_35 : decode cX9_feed 35 = .ok (.iastore, 1) := by decide +kernel
theorem dX9_feed_36 : decode cX9_feed 36 = .ok (.aload_n 0, 1) := by decide +kernel
theorem dX9_feed_37 : decode cX9_feed 37 = .ok (.dup, 1) := by decide +kernel
theorem dX9_feed_38 : decode cX9_feed 38 = .ok (.getfield 149, 3) := by decide +kernel
theorem dX9_feed_41 : decode cX9_feed 41 = .ok (.iconst 1, 1) := by decide +kernel
theorem dX9_feed_42 : decode cX9_feed 42 = .ok (.iadd, 1) := by decide +kernel
theorem dX9_feed_43 : decode cX9_feed 43 = .ok (.putfield 149, 3) := by decide +kernel
theorem dX9_feed_46 : decode cX9_feed 46 = .ok (.aload_n 0, 1) := by decide +kernel
theorem dX9_feed_47 : decode cX9_feed 47 = .ok (.getfield 149, 3) := by decide +kernel
theorem dX9_feed_50 : decode cX9_feed 50 = .ok (.ireturn, 1) := by decide +kernel
theorem dX9_byteAt_0 : decode cX9_byteAt 0 = .ok (.aload_n 0, 1) := by decide +kernel
theorem dX9_byteAt_1 : decode cX9_byteAt 1 = .ok (.getfield 152, 3) := by decide +kernel
theorem dX9_byteAt_4 : decode cX9_byteAt 4 = .ok (.aload_n 0, 1) := by decide +kernel
theorem dX9_byteAt_5 : decode cX9_byteAt 5 = .ok (.getfield 155, 3) := by decide +kernel
theorem dX9_byteAt_8 : decode cX9_byteAt 8 = .ok (.if_icmp .ge 39, 3) := by decide +kernel
theorem dX9_byteAt_11 : decode cX9_byteAt 11 = .ok (.aload_n 0, 1) := by decide +kernel
theorem dX9_byteAt_12 : decode cX9_byteAt 12 = .ok (.getfield 158, 3) := by decide +kernel
theorem dX9_byteAt_15 : decode cX9_byteAt 15 = .ok (.ifCond .ge 15, 3) := by decide +kernel
theorem dX9_byteAt_18 : decode cX9_byteAt 18 = .ok (.aload_n 0, 1) := by decide +kernel
theorem dX9_byteAt_19 : decode cX9_byteAt 19 = .ok (.getfield 22, 3) := by decide +kernel
theorem dX9_byteAt_22 : decode cX9_byteAt 22 = .ok (.aload_n 0, 1) := by decide +kernel
theorem dX9_byteAt_23 : decode cX9_byteAt 23 = .ok (.getfield 152, 3) := by decide +kernel
theorem dX9_byteAt_26 : decode cX9_byteAt 26 = .ok (.iaload, 1) := by decide +kernel
theorem dX9_byteAt_27 : decode cX9_byteAt 27 = .ok (.goto 21, 3) := by decide +kernel
theorem dX9_byteAt_30 : decode cX9_byteAt 30 = .ok (.aload_n 0, 1) := by decide +kernel
theorem dX9_byteAt_31 : decode cX9_byteAt 31 = .ok (.getfield 25, 3) := by decide +kernel
theorem dX9_byteAt_34 : decode cX9_byteAt 34 = .ok (.aload_n 0, 1) := by decide +kernel
theorem dX9_byteAt_35 : decode cX9_byteAt 35 = .ok (.getfield 158, 3) := by decide +kernel
theorem dX9_byteAt_38 : decode cX9_byteAt 38 = .ok (.aload_n 0, 1) := by decide +kernel
theorem dX9_byteAt_39 : decode cX9_byteAt 39 = .ok (.getfield 152, 3) := by decide +kernel
theorem dX9_byteAt_42 : decode cX9_byteAt 42 = .ok (.iadd, 1) := by decide +kernel
theorem dX9_byteAt_43 : decode cX9_byteAt 43 = .ok (.iaload, 1) := by decide +kernel
theorem dX9_byteAt_44 : decode cX9_byteAt 44 = .ok (.goto 4, 3) := by decide +kernel
theorem dX9_byteAt_47 : decode cX9_byteAt 47 = .ok (.iconst 0, 1) := by decide +kernel
theorem dX9_byteAt_48 : decode cX9_byteAt 48 = .ok (.ireturn, 1) := by decide +kernel
theorem dX9_wrong_0 : decode cX9_wrong 0 = .ok (.aload_n 0, 1) := by decide +kernel
theorem dX9_wrong_1 : decode cX9_wrong 1 = .ok (.aload_n 0, 1) := by decide +kernel
theorem dX9_wrong_2 : decode cX9_wrong 2 = .ok (.getfield 161, 3) := by decide +kernel
theorem dX9_wrong_5 : decode cX9_wrong 5 = .ok (.ifCond .ge 10, 3) := by decide +kernel
theorem dX9_wrong_8 : decode cX9_wrong 8 = .ok (.aload_n 0, 1) := by decide +kernel
theorem dX9_wrong_9 : decode cX9_wrong 9 = .ok (.getfield 152, 3) := by decide +kernel
theorem dX9_wrong_12 : decode cX9_wrong 12 = .ok (.goto 7, 3) := by decide +kernel
theorem dX9_wrong_15 : decode cX9_wrong 15 = .ok (.aload_n 0, 1) := by decide +kernel
theorem dX9_wrong_16 : decode cX9_wrong 16 = .ok (.getfield 161, 3) := by decide +kernel
theorem dX9_wrong_19 : decode cX9_wrong 19 = .ok (.putfield 161, 3) := by decide +kernel
theorem dX9_wrong_22 : decode cX9_wrong 22 = .ok (.iconst 0, 1) := by decide +kernel
theorem dX9_wrong_23 : decode cX9_wrong 23 = .ok (.ireturn, 1) := by decide +kernel
theorem dX9_takes_0 : decode cX9_takes 0 = .ok (.aload_n 0, 1) := by decide +kernel
theorem dX9_takes_1 : decode cX9_takes 1 = .ok (.getfield 161, 3) := by decide +kernel
theorem dX9_takes_4 : decode cX9_takes 4 = .ok (.ifCond .ge 11, 3) := by decide +kernel
theorem dX9_takes_7 : decode cX9_takes 7 = .ok (.aload_n 0, 1) := by decide +kernel
theorem dX9_takes_8 : decode cX9_takes 8 = .ok (.invokevirtual 164, 3) := by decide +kernel
theorem dX9_takes_11 : decode cX9_takes 11 = .ok (.iload_n 1, 1) := by decide +kernel
theorem dX9_takes_12 : decode cX9_takes 12 = .ok (.if_icmp .eq 5, 3) := by decide +kernel
theorem dX9_takes_15 : decode cX9_takes 15 = .ok (.iconst 0, 1) := by decide +kernel
theorem dX9_takes_16 : decode cX9_takes 16 = .ok (.ireturn, 1) := by decide +kernel
theorem dX9_takes_17 : decode cX9_takes 17 = .ok (.aload_n 0, 1) := by decide +kernel
theorem dX9_takes_18 : decode cX9_takes 18 = .ok (.dup, 1) := by decide +kernel
theorem dX9_takes_19 : decode cX9_takes 19 = .ok (.getfield 152, 3) := by decide +kernel
theorem dX9_takes_22 : decode cX9_takes 22 = .ok (.iconst 1, 1) := by decide +kernel
theorem dX9_takes_23 : decode cX9_takes 23 = .ok (.iadd, 1) := by decide +kernel
theorem dX9_takes_24 : decode cX9_takes 24 = .ok (.putfield 152, 3) := by decide +kernel
theorem dX9_takes_27 : decode cX9_takes 27 = .ok (.iconst 1, 1) := by decide +kernel
theorem dX9_takes_28 : decode cX9_takes 28 = .ok (.ireturn, 1) := by decide +kernel
theorem dX9_either_0 : decode cX9_either 0 = .ok (.aload_n 0, 1) := by decide +kernel
theorem dX9_either_1 : decode cX9_either 1 = .ok (.invokevirtual 168, 3) := by decide +kernel
theorem dX9_either_4 : decode cX9_either 4 = .ok (.istore_n 1, 1) := by decide +kernel
theorem dX9_either_5 : decode cX9_either 5 = .ok (.aload_n 0, 1) := by decide +kernel
theorem dX9_either_6 : decode cX9_either 6 = .ok (.bipush 124, 2) := by decide +kernel
theorem dX9_either_8 : decode cX9_either 8 = .ok (.invokevirtual 171, 3) := by decide +kernel
theorem dX9_either_11 : decode cX9_either 11 = .ok (.ifCond .eq 25, 3) := by decide +kernel
theorem dX9_either_14 : decode cX9_either 14 = .ok (.aload_n 0, 1) := by decide +kernel
theorem dX9_either_15 : decode cX9_either 15 = .ok (.invokevirtual 168, 3) := by decide +kernel
theorem dX9_either_18 : decode cX9_either 18 = .ok (.istore_n 2, 1) := by decide +kernel
theorem dX9_either_19 : decode cX9_either 19 = .ok (.iload_n 1, 1) := by decide +kernel
theorem dX9_either_20 : decode cX9_either 20 = .ok (.ifCond .ne 7, 3) := by decide +kernel
theorem dX9_either_23 : decode cX9_either 23 = .ok (.iload_n 2, 1) := by decide +kernel
theorem dX9_either_24 : decode cX9_either 24 = .ok (.ifCond .eq 7, 3) := by decide +kernel
theorem dX9_either_27 : decode cX9_either 27 = .ok (.iconst 1, 1) := by decide +kernel
theorem dX9_either_28 : decode cX9_either 28 = .ok (.goto 4, 3) := by decide +kernel
theorem dX9_either_31 : decode cX9_either 31 = .ok (.iconst 0, 1) := by decide +kernel
theorem dX9_either_32 : decode cX9_either 32 = .ok (.istore_n 1, 1) := by decide +kernel
theorem dX9_either_33 : decode cX9_either 33 = .ok (.goto (-28), 3) := by decide +kernel
theorem dX9_either_36 : decode cX9_either 36 = .ok (.iload_n 1, 1) := by decide +kernel
theorem dX9_either_37 : decode cX9_either 37 = .ok (.ireturn, 1) := by decide +kernel
theorem dX9_both_0 : decode cX9_both 0 = .ok (.aload_n 0, 1) := by decide +kernel
theorem dX9_both_1 : decode cX9_both 1 = .ok (.invokevirtual 174, 3) := by decide +kernel
theorem dX9_both_4 : decode cX9_both 4 = .ok (.istore_n 1, 1) := by decide +kernel
theorem dX9_both_5 : decode cX9_both 5 = .ok (.aload_n 0, 1) := by decide +kernel
theorem dX9_both_6 : decode cX9_both 6 = .ok (.bipush 38, 2) := by decide +kernel
theorem dX9_both_8 : decode cX9_both 8 = .ok (.invokevirtual 171, 3) := by decide +kernel
theorem dX9_both_11 : decode cX9_both 11 = .ok (.ifCond .eq 25, 3) := by decide +kernel
theorem dX9_both_14 : decode cX9_both 14 = .ok (.aload_n 0, 1) := by decide +kernel
theorem dX9_both_15 : decode cX9_both 15 = .ok (.invokevirtual 174, 3) := by decide +kernel
theorem dX9_both_18 : decode cX9_both 18 = .ok (.istore_n 2, 1) := by decide +kernel
theorem dX9_both_19 : decode cX9_both 19 = .ok (.iload_n 1, 1) := by decide +kernel
theorem dX9_both_20 : decode cX9_both 20 = .ok (.ifCond .eq 11, 3) := by decide +kernel
theorem dX9_both_23 : decode cX9_both 23 = .ok (.iload_n 2, 1) := by decide +kernel
theorem dX9_both_24 : decode cX9_both 24 = .ok (.ifCond .eq 7, 3) := by decide +kernel
theorem dX9_both_27 : decode cX9_both 27 = .ok (.iconst 1, 1) := by decide +kernel
theorem dX9_both_28 : decode cX9_both 28 = .ok (.goto 4, 3) := by decide +kernel
theorem dX9_both_31 : decode cX9_both 31 = .ok (.iconst 0, 1) := by decide +kernel
theorem dX9_both_32 : decode cX9_both 32 = .ok (.istore_n 1, 1) := by decide +kernel
theorem dX9_both_33 : decode cX9_both 33 = .ok (.goto (-28), 3) := by decide +kernel
theorem dX9_both_36 : decode cX9_both 36 = .ok (.iload_n 1, 1) := by decide +kernel
theorem dX9_both_37 : decode cX9_both 37 = .ok (.ireturn, 1) := by decide +kernel
theorem dX9_compared_0 : decode cX9_compared 0 = .ok (.aload_n 0, 1) := by decide +kernel
theorem dX9_compared_1 : decode cX9_compared 1 = .ok (.invokevirtual 177, 3) := by decide +kernel
theorem dX9_compared_4 : decode cX9_compared 4 = .ok (.istore_n 1, 1) := by decide +kernel
theorem dX9_compared_5 : decode cX9_compared 5 = .ok (.aload_n 0, 1) := by decide +kernel
theorem dX9_compared_6 : decode cX9_compared 6 = .ok (.invokevirtual 164, 3) := by decide +kernel
theorem dX9_compared_9 : decode cX9_compared 9 = .ok (.istore_n 2, 1) := by decide +kernel
theorem dX9_compared_10 : decode cX9_compared 10 = .ok (.aload_n 0, 1) := by decide +kernel
theorem dX9_compared_11 : decode cX9_compared 11 = .ok (.getfield 161, 3) := by decide +kernel
theorem dX9_compared_14 : decode cX9_compared 14 = .ok (.ifCond .ge 21, 3) := by decide +kernel
theorem dX9_compared_17 : decode cX9_compared 17 = .ok (.iload_n 2, 1) := by decide +kernel
theorem dX9_compared_18 : decode cX9_compared 18 = .ok (.bipush 60, 2) := by decide +kernel
theorem dX9_compared_20 : decode cX9_compared 20 = .ok (.if_icmp .eq 17, 3) := by decide +kernel
theorem dX9_compared_23 : decode cX9_compared 23 = .ok (.iload_n 2, 1) := by decide +kernel
theorem dX9_compared_24 : decode cX9_compared 24 = .ok (.bipush 61, 2) := by decide +kernel
theorem dX9_compared_26 : decode cX9_compared 26 = .ok (.if_icmp .eq 11, 3) := by decide +kernel
theorem dX9_compared_29 : decode cX9_compared 29 = .ok (.iload_n 2, 1) := by decide +kernel
theorem dX9_compared_30 : decode cX9_compared 30 = .ok (.bipush 62, 2) := by decide +kernel
theorem dX9_compared_32 : decode cX9_compared 32 = .ok (.if_icmp .eq 5, 3) := by decide +kernel
theorem dX9_compared_35 : decode cX9_compared 35 = .ok (.iload_n 1, 1) := by decide +kernel
theorem dX9_compared_36 : decode cX9_compared 36 = .ok (.ireturn, 1) := by decide +kernel
theorem dX9_compared_37 : decode cX9_compared 37 = .ok (.aload_n 0, 1) := by decide +kernel
theorem dX9_compared_38 : decode cX9_compared 38 = .ok (.dup, 1) := by decide +kernel
theorem dX9_compared_39 : decode cX9_compared 39 = .ok (.getfield 152, 3) := by decide +kernel
theorem dX9_compared_42 : decode cX9_compared 42 = .ok (.iconst 1, 1) := by decide +kernel
theorem dX9_compared_43 : decode cX9_compared 43 = .ok (.iadd, 1) := by decide +kernel
theorem dX9_compared_44 : decode cX9_compared 44 = .ok (.putfield 152, 3) := by decide +kernel
theorem dX9_compared_47 : decode cX9_compared 47 = .ok (.aload_n 0, 1) := by decide +kernel
theorem dX9_compared_48 : decode cX9_compared 48 = .ok (.invokevirtual 177, 3) := by decide +kernel
theorem dX9_compared_51 : decode cX9_compared 51 = .ok (.istore_n 3, 1) := by decide +kernel
theorem dX9_compared_52 : decode cX9_compared 52 = .ok (.iload_n 2, 1) := by decide +kernel
theorem dX9_compared_53 : decode cX9_compared 53 = .ok (.bipush 60, 2) := by decide +kernel
theorem dX9_compared_55 : decode cX9_compared 55 = .ok (.if_icmp .ne 11, 3) := by decide +kernel
theorem dX9_compared_58 : decode cX9_compared 58 = .ok (.iload_n 1, 1) := by decide +kernel
theorem dX9_compared_59 : decode cX9_compared 59 = .ok (.iload_n 3, 1) := by decide +kernel
theorem dX9_compared_60 : decode cX9_compared 60 = .ok (.if_icmp .ge 29, 3) := by decide +kernel
theorem dX9_compared_63 : decode cX9_compared 63 = .ok (.goto 22, 3) := by decide +kernel
theorem dX9_compared_66 : decode cX9_compared 66 = .ok (.iload_n 2, 1) := by decide +kernel
theorem dX9_compared_67 : decode cX9_compared 67 = .ok (.bipush 61, 2) := by decide +kernel
theorem dX9_compared_69 : decode cX9_compared 69 = .ok (.if_icmp .ne 11, 3) := by decide +kernel
theorem dX9_compared_72 : decode cX9_compared 72 = .ok (.iload_n 1, 1) := by decide +kernel
theorem dX9_compared_73 : decode cX9_compared 73 = .ok (.iload_n 3, 1) := by decide +kernel
theorem dX9_compared_74 : decode cX9_compared 74 = .ok (.if_icmp .ne 15, 3) := by decide +kernel
theorem dX9_compared_77 : decode cX9_compared 77 = .ok (.goto 8, 3) := by decide +kernel
theorem dX9_compared_80 : decode cX9_compared 80 = .ok (.iload_n 1, 1) := by decide +kernel
theorem dX9_compared_81 : decode cX9_compared 81 = .ok (.iload_n 3, 1) := by decide +kernel
theorem dX9_compared_82 : decode cX9_compared 82 = .ok (.if_icmp .le 7, 3) := by decide +kernel
theorem dX9_compared_85 : decode cX9_compared 85 = .ok (.iconst 1, 1) := by decide +kernel
theorem dX9_compared_86 : decode cX9_compared 86 = .ok (.goto 4, 3) := by decide +kernel
theorem dX9_compared_89 : decode cX9_compared 89 = .ok (.iconst 0, 1) := by decide +kernel
theorem dX9_compared_90 : decode cX9_compared 90 = .ok (.ireturn, 1) := by decide +kernel
theorem dX9_sums_0 : decode cX9_sums 0 = .ok (.aload_n 0, 1) := by decide +kernel
theorem dX9_sums_1 : decode cX9_sums 1 = .ok (.invokevirtual 180, 3) := by decide +kernel
theorem dX9_sums_4 : decode cX9_sums 4 = .ok (.istore_n 1, 1) := by decide +kernel
theorem dX9_sums_5 : decode cX9_sums 5 = .ok (.aload_n 0, 1) := by decide +kernel
theorem dX9_sums_6 : decode cX9_sums 6 = .ok (.getfield 161, 3) := by decide +kernel
theorem dX9_sums_9 : decode cX9_sums 9 = .ok (.ifCond .ge 68, 3) := by decide +kernel
theorem dX9_sums_12 : decode cX9_sums 12 = .ok (.aload_n 0, 1) := by decide +kernel
theorem dX9_sums_13 : decode cX9_sums 13 = .ok (.invokevirtual 164, 3) := by decide +kernel
theorem dX9_sums_16 : decode cX9_sums 16 = .ok (.bipush 43, 2) := by decide +kernel
theorem dX9_sums_18 : decode cX9_sums 18 = .ok (.if_icmp .eq 12, 3) := by decide +kernel
theorem dX9_sums_21 : decode cX9_sums 21 = .ok (.aload_n 0, 1) := by decide +kernel
theorem dX9_sums_22 : decode cX9_sums 22 = .ok (.invokevirtual 164, 3) := by decide +kernel
theorem dX9_sums_25 : decode cX9_sums 25 = .ok (.bipush 45, 2) := by decide +kernel
theorem dX9_sums_27 : decode cX9_sums 27 = .ok (.if_icmp .ne 50, 3) := by decide +kernel
theorem dX9_sums_30 : decode cX9_sums 30 = .ok (.aload_n 0, 1) := by decide +kernel
theorem dX9_sums_31 : decode cX9_sums 31 = .ok (.invokevirtual 164, 3) := by decide +kernel
theorem dX9_sums_34 : decode cX9_sums 34 = .ok (.bipush 43, 2) := by decide +kernel
theorem dX9_sums_36 : decode cX9_sums 36 = .ok (.if_icmp .ne 7, 3) := by decide +kernel
theorem dX9_sums_39 : decode cX9_sums 39 = .ok (.iconst 1, 1) := by decide +kernel
theorem dX9_sums_40 : decode cX9_sums 40 = .ok (.goto 4, 3) := by decide +kernel
theorem dX9_sums_43 : decode cX9_sums 43 = .ok (.iconst 0, 1) := by decide +kernel
theorem dX9_sums_44 : decode cX9_sums 44 = .ok (.istore_n 2, 1) := by decide +kernel
theorem dX9_sums_45 : decode cX9_sums 45 = .ok (.aload_n 0, 1) := by decide +kernel
theorem dX9_sums_46 : decode cX9_sums 46 = .ok (.dup, 1) := by decide +kernel
theorem dX9_sums_47 : decode cX9_sums 47 = .ok (.getfield 152, 3) := by decide +kernel
theorem dX9_sums_50 : decode cX9_sums 50 = .ok (.iconst 1, 1) := by decide +kernel
theorem dX9_sums_51 : decode cX9_sums 51 = .ok (.iadd, 1) := by decide +kernel
theorem dX9_sums_52 : decode cX9_sums 52 = .ok (.putfield 152, 3) := by decide +kernel
theorem dX9_sums_55 : decode cX9_sums 55 = .ok (.aload_n 0, 1) := by decide +kernel
theorem dX9_sums_56 : decode cX9_sums 56 = .ok (.invokevirtual 180, 3) := by decide +kernel
theorem dX9_sums_59 : decode cX9_sums 59 = .ok (.istore_n 3, 1) := by decide +kernel
theorem dX9_sums_60 : decode cX9_sums 60 = .ok (.iload_n 2, 1) := by decide +kernel
theorem dX9_sums_61 : decode cX9_sums 61 = .ok (.ifCond .eq 9, 3) := by decide +kernel
theorem dX9_sums_64 : decode cX9_sums 64 = .ok (.iload_n 1, 1) := by decide +kernel
theorem dX9_sums_65 : decode cX9_sums 65 = .ok (.iload_n 3, 1) := by decide +kernel
theorem dX9_sums_66 : decode cX9_sums 66 = .ok (.iadd, 1) := by decide +kernel
theorem dX9_sums_67 : decode cX9_sums 67 = .ok (.goto 6, 3) := by decide +kernel
theorem dX9_sums_70 : decode cX9_sums 70 = .ok (.iload_n 1, 1) := by decide +kernel
theorem dX9_sums_71 : decode cX9_sums 71 = .ok (.iload_n 3, 1) := by decide +kernel
theorem dX9_sums_72 : decode cX9_sums 72 = .ok (.isub, 1) := by decide +kernel
theorem dX9_sums_73 : decode cX9_sums 73 = .ok (.istore_n 1, 1) := by decide +kernel
theorem dX9_sums_74 : decode cX9_sums 74 = .ok (.goto (-69), 3) := by decide +kernel
theorem dX9_sums_77 : decode cX9_sums 77 = .ok (.iload_n 1, 1) := by decide +kernel
theorem dX9_sums_78 : decode cX9_sums 78 = .ok (.ireturn, 1) := by decide +kernel
theorem dX9_product_0 : decode cX9_product 0 = .ok (.aload_n 0, 1) := by decide +kernel
theorem dX9_product_1 : decode cX9_product 1 = .ok (.invokevirtual 183, 3) := by decide +kernel
theorem dX9_product_4 : decode cX9_product 4 = .ok (.istore_n 1, 1) := by decide +kernel
theorem dX9_product_5 : decode cX9_product 5 = .ok (.aload_n 0, 1) := by decide +kernel
theorem dX9_product_6 : decode cX9_product 6 = .ok (.invokevirtual 164, 3) := by decide +kernel
theorem dX9_product_9 : decode cX9_product 9 = .ok (.istore_n 2, 1) := by decide +kernel
theorem dX9_product_10 : decode cX9_product 10 = .ok (.aload_n 0, 1) := by decide +kernel
theorem dX9_product_11 : decode cX9_product 11 = .ok (.getfield 161, 3) := by decide +kernel
theorem dX9_product_14 : decode cX9_product 14 = .ok (.ifCond .ge 80, 3) := by decide +kernel
theorem dX9_product_17 : decode cX9_product 17 = .ok (.iload_n 2, 1) := by decide +kernel
theorem dX9_product_18 : decode cX9_product 18 = .ok (.bipush 42, 2) := by decide +kernel
theorem dX9_product_20 : decode cX9_product 20 = .ok (.if_icmp .eq 15, 3) := by decide +kernel
theorem dX9_product_23 : decode cX9_product 23 = .ok (.iload_n 2, 1) := by decide +kernel
theorem dX9_product_24 : decode cX9_product 24 = .ok (.bipush 47, 2) := by decide +kernel
theorem dX9_product_26 : decode cX9_product 26 = .ok (.if_icmp .eq 9, 3) := by decide +kernel
theorem dX9_product_29 : decode cX9_product 29 = .ok (.iload_n 2, 1) := by decide +kernel
theorem dX9_product_30 : decode cX9_product 30 = .ok (.bipush 37, 2) := by decide +kernel
theorem dX9_product_32 : decode cX9_product 32 = .ok (.if_icmp .ne 62, 3) := by decide +kernel
theorem dX9_product_35 : decode cX9_product 35 = .ok (.aload_n 0, 1) := by decide +kernel
theorem dX9_product_36 : decode cX9_product 36 = .ok (.dup, 1) := by decide +kernel
theorem dX9_product_37 : decode cX9_product 37 = .ok (.getfield 152, 3) := by decide +kernel
theorem dX9_product_40 : decode cX9_product 40 = .ok (.iconst 1, 1) := by decide +kernel
theorem dX9_product_41 : decode cX9_product 41 = .ok (.iadd, 1) := by decide +kernel
theorem dX9_product_42 : decode cX9_product 42 = .ok (.putfield 152, 3) := by decide +kernel
theorem dX9_product_45 : decode cX9_product 45 = .ok (.aload_n 0, 1) := by decide +kernel
theorem dX9_product_46 : decode cX9_product 46 = .ok (.invokevirtual 183, 3) := by decide +kernel
theorem dX9_product_49 : decode cX9_product 49 = .ok (.istore_n 3, 1) := by decide +kernel
theorem dX9_product_50 : decode cX9_product 50 = .ok (.iload_n 2, 1) := by decide +kernel
theorem dX9_product_51 : decode cX9_product 51 = .ok (.bipush 42, 2) := by decide +kernel
theorem dX9_product_53 : decode cX9_product 53 = .ok (.if_icmp .ne 9, 3) := by decide +kernel
theorem dX9_product_56 : decode cX9_product 56 = .ok (.iload_n 1, 1) := by decide +kernel
theorem dX9_product_57 : decode cX9_product 57 = .ok (.iload_n 3, 1) := by decide +kernel
theorem dX9_product_58 : decode cX9_product 58 = .ok (.imul, 1) := by decide +kernel
theorem dX9_product_59 : decode cX9_product 59 = .ok (.goto 26, 3) := by decide +kernel
theorem dX9_product_62 : decode cX9_product 62 = .ok (.iload_n 3, 1) := by decide +kernel
theorem dX9_product_63 : decode cX9_product 63 = .ok (.ifCond .ne 7, 3) := by decide +kernel
theorem dX9_product_66 : decode cX9_product 66 = .ok (.iconst 0, 1) := by decide +kernel
theorem dX9_product_67 : decode cX9_product 67 = .ok (.goto 18, 3) := by decide +kernel
theorem dX9_product_70 : decode cX9_product 70 = .ok (.iload_n 2, 1) := by decide +kernel
theorem dX9_product_71 : decode cX9_product 71 = .ok (.bipush 47, 2) := by decide +kernel
theorem dX9_product_73 : decode cX9_product 73 = .ok (.if_icmp .ne 9, 3) := by decide +kernel
theorem dX9_product_76 : decode cX9_product 76 = .ok (.iload_n 1, 1) := by decide +kernel
theorem dX9_product_77 : decode cX9_product 77 = .ok (.iload_n 3, 1) := by decide +kernel
theorem dX9_product_78 : decode cX9_product 78 = .ok (.idiv, 1) := by decide +kernel
theorem dX9_product_79 : decode cX9_product 79 = .ok (.goto 6, 3) := by decide +kernel
theorem dX9_product_82 : decode cX9_product 82 = .ok (.iload_n 1, 1) := by decide +kernel
theorem dX9_product_83 : decode cX9_product 83 = .ok (.iload_n 3, 1) := by decide +kernel
theorem dX9_product_84 : decode cX9_product 84 = .ok (.irem, 1) := by decide +kernel
theorem dX9_product_85 : decode cX9_product 85 = .ok (.istore_n 1, 1) := by decide +kernel
theorem dX9_product_86 : decode cX9_product 86 = .ok (.aload_n 0, 1) := by decide +kernel
theorem dX9_product_87 : decode cX9_product 87 = .ok (.invokevirtual 164, 3) := by decide +kernel
theorem dX9_product_90 : decode cX9_product 90 = .ok (.istore_n 2, 1) := by decide +kernel
theorem dX9_product_91 : decode cX9_product 91 = .ok (.goto (-81), 3) := by decide +kernel
theorem dX9_product_94 : decode cX9_product 94 = .ok (.iload_n 1, 1) := by decide +kernel
theorem dX9_product_95 : decode cX9_product 95 = .ok (.ireturn, 1) := by decide +kernel
theorem dX9_nameOf_0 : decode cX9_nameOf 0 = .ok (.iload_n 0, 1) := by decide +kernel
theorem dX9_nameOf_1 : decode cX9_nameOf 1 = .ok (.lookupswitch 71 #[(98, 65), (99, 67), (100, 59), (109, 63), (116, 69), (121, 61)], 59) := by decide +kernel
theorem dX9_nameOf_60 : decode cX9_nameOf 60 = .ok (.iconst 0, 1) := by decide +kernel
theorem dX9_nameOf_61 : decode cX9_nameOf 61 = .ok (.ireturn, 1) := by decide +kernel
theorem dX9_nameOf_62 : decode cX9_nameOf 62 = .ok (.iconst 1, 1) := by decide +kernel
theorem dX9_nameOf_63 : decode cX9_nameOf 63 = .ok (.ireturn, 1) := by decide +kernel
theorem dX9_nameOf_64 : decode cX9_nameOf 64 = .ok (.iconst 2, 1) := by decide +kernel
theorem dX9_nameOf_65 : decode cX9_nameOf 65 = .ok (.ireturn, 1) := by decide +kernel
theorem dX9_nameOf_66 : decode cX9_nameOf 66 = .ok (.iconst 3, 1) := by decide +kernel
theorem dX9_nameOf_67 : decode cX9_nameOf 67 = .ok (.ireturn, 1) := by decide +kernel
theorem dX9_nameOf_68 : decode cX9_nameOf 68 = .ok (.iconst 4, 1) := by decide +kernel
theorem dX9_nameOf_69 : decode cX9_nameOf 69 = .ok (.ireturn, 1) := by decide +kernel
theorem dX9_nameOf_70 : decode cX9_nameOf 70 = .ok (.iconst 5, 1) := by decide +kernel
theorem dX9_nameOf_71 : decode cX9_nameOf 71 = .ok (.ireturn, 1) := by decide +kernel
theorem dX9_nameOf_72 : decode cX9_nameOf 72 = .ok (.iconst (-1), 1) := by decide +kernel
theorem dX9_nameOf_73 : decode cX9_nameOf 73 = .ok (.ireturn, 1) := by decide +kernel
theorem dX9_one_0 : decode cX9_one 0 = .ok (.aload_n 0, 1) := by decide +kernel
theorem dX9_one_1 : decode cX9_one 1 = .ok (.getfield 161, 3) := by decide +kernel
theorem dX9_one_4 : decode cX9_one 4 = .ok (.ifCond .lt 5, 3) := by decide +kernel
theorem dX9_one_7 : decode cX9_one 7 = .ok (.iconst 0, 1) := by decide +kernel
theorem dX9_one_8 : decode cX9_one 8 = .ok (.ireturn, 1) := by decide +kernel
theorem dX9_one_9 : decode cX9_one 9 = .ok (.aload_n 0, 1) := by decide +kernel
theorem dX9_one_10 : decode cX9_one 10 = .ok (.invokevirtual 164, 3) := by decide +kernel
theorem dX9_one_13 : decode cX9_one 13 = .ok (.istore_n 1, 1) := by decide +kernel
theorem dX9_one_14 : decode cX9_one 14 = .ok (.iload_n 1, 1) := by decide +kernel
theorem dX9_one_15 : decode cX9_one 15 = .ok (.bipush 33, 2) := by decide +kernel
theorem dX9_one_17 : decode cX9_one 17 = .ok (.if_icmp .eq 15, 3) := by decide +kernel
theorem dX9_one_20 : decode cX9_one 20 = .ok (.iload_n 1, 1) := by decide +kernel
theorem dX9_one_21 : decode cX9_one 21 = .ok (.bipush 45, 2) := by decide +kernel
theorem dX9_one_23 : decode cX9_one 23 = .ok (.if_icmp .eq 9, 3) := by decide +kernel
theorem dX9_one_26 : decode cX9_one 26 = .ok (.iload_n 1, 1) := by decide +kernel
theorem dX9_one_27 : decode cX9_one 27 = .ok (.bipush 40, 2) := by decide +kernel
theorem dX9_one_29 : decode cX9_one 29 = .ok (.if_icmp .ne 116, 3) := by decide +kernel
theorem dX9_one_32 : decode cX9_one 32 = .ok (.aload_n 0, 1) := by decide +kernel
theorem dX9_one_33 : decode cX9_one 33 = .ok (.getfield 186, 3) := by decide +kernel
theorem dX9_one_36 : decode cX9_one 36 = .ok (.bipush 6, 2) := by decide +kernel
theorem dX9_one_38 : decode cX9_one 38 = .ok (.if_icmp .ne 8, 3) := by decide +kernel
theorem dX9_one_41 : decode cX9_one 41 = .ok (.aload_n 0, 1) := by decide +kernel
theorem dX9_one_42 : decode cX9_one 42 = .ok (.invokevirtual 189, 3) := by decide +kernel
theorem dX9_one_45 : decode cX9_one 45 = .ok (.ireturn, 1) := by decide +kernel
theorem dX9_one_46 : decode cX9_one 46 = .ok (.aload_n 0, 1) := by decide +kernel
theorem dX9_one_47 : decode cX9_one 47 = .ok (.dup, 1) := by decide +kernel
theorem dX9_one_48 : decode cX9_one 48 = .ok (.getfield 186, 3) := by decide +kernel
theorem dX9_one_51 : decode cX9_one 51 = .ok (.iconst 1, 1) := by decide +kernel
theorem dX9_one_52 : decode cX9_one 52 = .ok (.iadd, 1) := by decide +kernel
theorem dX9_one_53 : decode cX9_one 53 = .ok (.putfield 186, 3) := by decide +kernel
theorem dX9_one_56 : decode cX9_one 56 = .ok (.aload_n 0, 1) := by decide +kernel
theorem dX9_one_57 : decode cX9_one 57 = .ok (.dup, 1) := by decide +kernel
theorem dX9_one_58 : decode cX9_one 58 = .ok (.getfield 152, 3) := by decide +kernel
theorem dX9_one_61 : decode cX9_one 61 = .ok (.iconst 1, 1) := by decide +kernel
theorem dX9_one_62 : decode cX9_one 62 = .ok (.iadd, 1) := by decide +kernel
theorem dX9_one_63 : decode cX9_one 63 = .ok (.putfield 152, 3) := by decide +kernel
theorem dX9_one_66 : decode cX9_one 66 = .ok (.iload_n 1, 1) := by decide +kernel
theorem dX9_one_67 : decode cX9_one 67 = .ok (.bipush 40, 2) := by decide +kernel
theorem dX9_one_69 : decode cX9_one 69 = .ok (.if_icmp .ne 10, 3) := by decide +kernel
theorem dX9_one_72 : decode cX9_one 72 = .ok (.aload_n 0, 1) := by decide +kernel
theorem dX9_one_73 : decode cX9_one 73 = .ok (.invokevirtual 192, 3) := by decide +kernel
theorem dX9_one_76 : decode cX9_one 76 = .ok (.goto 7, 3) := by decide +kernel
theorem dX9_one_79 : decode cX9_one 79 = .ok (.aload_n 0, 1) := by decide +kernel
theorem dX9_one_80 : decode cX9_one 80 = .ok (.invokevirtual 183, 3) := by decide +kernel
theorem dX9_one_83 : decode cX9_one 83 = .ok (.istore_n 2, 1) := by decide +kernel
theorem dX9_one_84 : decode cX9_one 84 = .ok (.iload_n 1, 1) := by decide +kernel
theorem dX9_one_85 : decode cX9_one 85 = .ok (.bipush 40, 2) := by decide +kernel
theorem dX9_one_87 : decode cX9_one 87 = .ok (.if_icmp .ne 17, 3) := by decide +kernel
theorem dX9_one_90 : decode cX9_one 90 = .ok (.aload_n 0, 1) := by decide +kernel
theorem dX9_one_91 : decode cX9_one 91 = .ok (.bipush 41, 2) := by decide +kernel
theorem dX9_one_93 : decode cX9_one 93 = .ok (.invokevirtual 171, 3) := by decide +kernel
theorem dX9_one_96 : decode cX9_one 96 = .ok (.ifCond .ne 8, 3) := by decide +kernel
theorem dX9_one_99 : decode cX9_one 99 = .ok (.aload_n 0, 1) := by decide +kernel
theorem dX9_one_100 : decode cX9_one 100 = .ok (.invokevirtual 189, 3) := by decide +kernel
theorem dX9_one_103 : decode cX9_one 103 = .ok (.ireturn, 1) := by decide +kernel
theorem dX9_one_104 : decode cX9_one 104 = .ok (.aload_n 0, 1) := by decide +kernel
theorem dX9_one_105 : decode cX9_one 105 = .ok (.dup, 1) := by decide +kernel
theorem dX9_one_106 : decode cX9_one 106 = .ok (.getfield 186, 3) := by decide +kernel
theorem dX9_one_109 : decode cX9_one 109 = .ok (.iconst 1, 1) := by decide +kernel
theorem dX9_one_110 : decode cX9_one 110 = .ok (.isub, 1) := by decide +kernel
theorem dX9_one_111 : decode cX9_one 111 = .ok (.putfield 186, 3) := by decide +kernel
theorem dX9_one_114 : decode cX9_one 114 = .ok (.iload_n 1, 1) := by decide +kernel
theorem dX9_one_115 : decode cX9_one 115 = .ok (.bipush 40, 2) := by decide +kernel
theorem dX9_one_117 : decode cX9_one 117 = .ok (.if_icmp .ne 7, 3) := by decide +kernel
theorem dX9_one_120 : decode cX9_one 120 = .ok (.iload_n 2, 1) := by decide +kernel
theorem dX9_one_121 : decode cX9_one 121 = .ok (.goto 23, 3) := by decide +kernel
theorem dX9_one_124 : decode cX9_one 124 = .ok (.iload_n 1, 1) := by decide +kernel
theorem dX9_one_125 : decode cX9_one 125 = .ok (.bipush 45, 2) := by decide +kernel
theorem dX9_one_127 : decode cX9_one 127 = .ok (.if_icmp .ne 8, 3) := by decide +kernel
theorem dX9_one_130 : decode cX9_one 130 = .ok (.iload_n 2, 1) := by decide +kernel
theorem dX9_one_131 : decode cX9_one 131 = .ok (.ineg, 1) := by decide +kernel
theorem dX9_one_132 : decode cX9_one 132 = .ok (.goto 12, 3) := by decide +kernel
theorem dX9_one_135 : decode cX9_one 135 = .ok (.iload_n 2, 1) := by decide +kernel
theorem dX9_one_136 : decode cX9_one 136 = .ok (.ifCond .ne 7, 3) := by decide +kernel
theorem dX9_one_139 : decode cX9_one 139 = .ok (.iconst 1, 1) := by decide +kernel
theorem dX9_one_140 : decode cX9_one 140 = .ok (.goto 4, 3) := by decide +kernel
theorem dX9_one_143 : decode cX9_one 143 = .ok (.iconst 0, 1) := by decide +kernel
theorem dX9_one_144 : decode cX9_one 144 = .ok (.ireturn, 1) := by decide +kernel
theorem dX9_one_145 : decode cX9_one 145 = .ok (.iload_n 1, 1) := by decide +kernel
theorem dX9_one_146 : decode cX9_one 146 = .ok (.invokestatic 195, 3) := by decide +kernel
theorem dX9_one_149 : decode cX9_one 149 = .ok (.istore_n 2, 1) := by decide +kernel
theorem dX9_one_150 : decode cX9_one 150 = .ok (.iload_n 2, 1) := by decide +kernel
theorem dX9_one_151 : decode cX9_one 151 = .ok (.ifCond .lt 20, 3) := by decide +kernel
theorem dX9_one_154 : decode cX9_one 154 = .ok (.aload_n 0, 1) := by decide +kernel
theorem dX9_one_155 : decode cX9_one 155 = .ok (.dup, 1) := by decide +kernel
theorem dX9_one_156 : decode cX9_one 156 = .ok (.getfield 152, 3) := by decide +kernel
theorem dX9_one_159 : decode cX9_one 159 = .ok (.iconst 1, 1) := by decide +kernel
theorem dX9_one_160 : decode cX9_one 160 = .ok (.iadd, 1) := by decide +kernel
theorem dX9_one_161 : decode cX9_one 161 = .ok (.putfield 152, 3) := by decide +kernel
theorem dX9_one_164 : decode cX9_one 164 = .ok (.aload_n 0, 1) := by decide +kernel
theorem dX9_one_165 : decode cX9_one 165 = .ok (.getfield 28, 3) := by decide +kernel
theorem dX9_one_168 : decode cX9_one 168 = .ok (.iload_n 2, 1) := by decide +kernel
theorem dX9_one_169 : decode cX9_one 169 = .ok (.iaload, 1) := by decide +kernel
theorem dX9_one_170 : decode cX9_one 170 = .ok (.ireturn, 1) := by decide +kernel
theorem dX9_one_171 : decode cX9_one 171 = .ok (.iconst 0, 1) := by decide +kernel
theorem dX9_one_172 : decode cX9_one 172 = .ok (.istore_n 3, 1) := by decide +kernel
theorem dX9_one_173 : decode cX9_one 173 = .ok (.iconst 0, 1) := by decide +kernel
theorem dX9_one_174 : decode cX9_one 174 = .ok (.istore 4, 2) := by decide +kernel
theorem dX9_one_176 : decode cX9_one 176 = .ok (.iload 4, 2) := by decide +kernel
theorem dX9_one_178 : decode cX9_one 178 = .ok (.iconst 4, 1) := by decide +kernel
theorem dX9_one_179 : decode cX9_one 179 = .ok (.if_icmp .ge 50, 3) := by decide +kernel
theorem dX9_one_182 : decode cX9_one 182 = .ok (.aload_n 0, 1) := by decide +kernel
theorem dX9_one_183 : decode cX9_one 183 = .ok (.invokevirtual 164, 3) := by decide +kernel
theorem dX9_one_186 : decode cX9_one 186 = .ok (.bipush 48, 2) := by decide +kernel
theorem dX9_one_188 : decode cX9_one 188 = .ok (.if_icmp .lt 41, 3) := by decide +kernel
theorem dX9_one_191 : decode cX9_one 191 = .ok (.aload_n 0, 1) := by decide +kernel
theorem dX9_one_192 : decode cX9_one 192 = .ok (.invokevirtual 164, 3) := by decide +kernel
theorem dX9_one_195 : decode cX9_one 195 = .ok (.bipush 57, 2) := by decide +kernel
theorem dX9_one_197 : decode cX9_one 197 = .ok (.if_icmp .gt 32, 3) := by decide +kernel
theorem dX9_one_200 : decode cX9_one 200 = .ok (.bipush 10, 2) := by decide +kernel
theorem dX9_one_202 : decode cX9_one 202 = .ok (.iload_n 3, 1) := by decide +kernel
theorem dX9_one_203 : decode cX9_one 203 = .ok (.imul, 1) := by decide +kernel
theorem dX9_one_204 : decode cX9_one 204 = .ok (.aload_n 0, 1) := by decide +kernel
theorem dX9_one_205 : decode cX9_one 205 = .ok (.invokevirtual 164, 3) := by decide +kernel
theorem dX9_one_208 : decode cX9_one 208 = .ok (.iadd, 1) := by decide +kernel
theorem dX9_one_209 : decode cX9_one 209 = .ok (.bipush 48, 2) := by decide +kernel
theorem dX9_one_211 : decode cX9_one 211 = .ok (.isub, 1) := by decide +kernel
theorem dX9_one_212 : decode cX9_one 212 = .ok (.istore_n 3, 1) := by decide +kernel
theorem dX9_one_213 : decode cX9_one 213 = .ok (.iinc 4 1, 3) := by decide +kernel
theorem dX9_one_216 : decode cX9_one 216 = .ok (.aload_n 0, 1) := by decide +kernel
theorem dX9_one_217 : decode cX9_one 217 = .ok (.dup, 1) := by decide +kernel
theorem dX9_one_218 : decode cX9_one 218 = .ok (.getfield 152, 3) := by decide +kernel
theorem dX9_one_221 : decode cX9_one 221 = .ok (.iconst 1, 1) := by decide +kernel
theorem dX9_one_222 : decode cX9_one 222 = .ok (.iadd, 1) := by decide +kernel
theorem dX9_one_223 : decode cX9_one 223 = .ok (.putfield 152, 3) := by decide +kernel
theorem dX9_one_226 : decode cX9_one 226 = .ok (.goto (-50), 3) := by decide +kernel
theorem dX9_one_229 : decode cX9_one 229 = .ok (.iload 4, 2) := by decide +kernel
theorem dX9_one_231 : decode cX9_one 231 = .ok (.ifCond .ne 10, 3) := by decide +kernel
theorem dX9_one_234 : decode cX9_one 234 = .ok (.aload_n 0, 1) := by decide +kernel
theorem dX9_one_235 : decode cX9_one 235 = .ok (.invokevirtual 189, 3) := by decide +kernel
theorem dX9_one_238 : decode cX9_one 238 = .ok (.goto 4, 3) := by decide +kernel
theorem dX9_one_241 : decode cX9_one 241 = .ok (.iload_n 3, 1) := by decide +kernel
theorem dX9_one_242 : decode cX9_one 242 = .ok (.ireturn, 1) := by decide +kernel
theorem dX9_workOut_0 : decode cX9_workOut 0 = .ok (.aload_n 0, 1) := by decide +kernel
theorem dX9_workOut_1 : decode cX9_workOut 1 = .ok (.iload_n 1, 1) := by decide +kernel
theorem dX9_workOut_2 : decode cX9_workOut 2 = .ok (.putfield 158, 3) := by decide +kernel
theorem dX9_workOut_5 : decode cX9_workOut 5 = .ok (.aload_n 0, 1) := by decide +kernel
theorem dX9_workOut_6 : decode cX9_workOut 6 = .ok (.iconst 0, 1) := by decide +kernel
theorem dX9_workOut_7 : decode cX9_workOut 7 = .ok (.putfield 152, 3) := by decide +kernel
theorem dX9_workOut_10 : decode cX9_workOut 10 = .ok (.aload_n 0, 1) := by decide +kernel
theorem dX9_workOut_11 : decode cX9_workOut 11 = .ok (.iload_n 2, 1) := by decide +kernel
theorem dX9_workOut_12 : decode cX9_workOut 12 = .ok (.putfield 155, 3) := by decide +kernel
theorem dX9_workOut_15 : decode cX9_workOut 15 = .ok (.aload_n 0, 1) := by decide +kernel
theorem dX9_workOut_16 : decode cX9_workOut 16 = .ok (.iconst (-1), 1) := by decide +kernel
theorem dX9_workOut_17 : decode cX9_workOut 17 = .ok (.putfield 161, 3) := by decide +kernel
theorem dX9_workOut_20 : decode cX9_workOut 20 = .ok (.aload_n 0, 1) := by decide +kernel
theorem dX9_workOut_21 : decode cX9_workOut 21 = .ok (.iconst 0, 1) := by decide +kernel
theorem dX9_workOut_22 : decode cX9_workOut 22 = .ok (.putfield 186, 3) := by decide +kernel
theorem dX9_workOut_25 : decode cX9_workOut 25 = .ok (.iconst 0, 1) := by decide +kernel
theorem dX9_workOut_26 : decode cX9_workOut 26 = .ok (.istore_n 3, 1) := by decide +kernel
theorem dX9_workOut_27 : decode cX9_workOut 27 = .ok (.iconst 0, 1) := by decide +kernel
theorem dX9_workOut_28 : decode cX9_workOut 28 = .ok (.istore 4, 2) := by decide +kernel
theorem dX9_workOut_30 : decode cX9_workOut 30 = .ok (.iconst 1, 1) := by decide +kernel
theorem dX9_workOut_31 : decode cX9_workOut 31 = .ok (.istore 5, 2) := by decide +kernel
theorem dX9_workOut_33 : decode cX9_workOut 33 = .ok (.iload 5, 2) := by decide +kernel
theorem dX9_workOut_35 : decode cX9_workOut 35 = .ok (.ifCond .eq 72, 3) := by decide +kernel
theorem dX9_workOut_38 : decode cX9_workOut 38 = .ok (.aload_n 0, 1) := by decide +kernel
theorem dX9_workOut_39 : decode cX9_workOut 39 = .ok (.invokevirtual 192, 3) := by decide +kernel
theorem dX9_workOut_42 : decode cX9_workOut 42 = .ok (.istore 6, 2) := by decide +kernel
theorem dX9_workOut_44 : decode cX9_workOut 44 = .ok (.iconst 1, 1) := by decide +kernel
theorem dX9_workOut_45 : decode cX9_workOut 45 = .ok (.istore 7, 2) := by decide +kernel
theorem dX9_workOut_47 : decode cX9_workOut 47 = .ok (.aload_n 0, 1) := by decide +kernel
theorem dX9_workOut_48 : decode cX9_workOut 48 = .ok (.bipush 63, 2) := by decide +kernel
theorem dX9_workOut_50 : decode cX9_workOut 50 = .ok (.invokevirtual 171, 3) := by decide +kernel
theorem dX9_workOut_53 : decode cX9_workOut 53 = .ok (.ifCond .eq 21, 3) := by decide +kernel
theorem dX9_workOut_56 : decode cX9_workOut 56 = .ok (.iload 6, 2) := by decide +kernel
theorem dX9_workOut_58 : decode cX9_workOut 58 = .ok (.ifCond .eq 7, 3) := by decide +kernel
theorem dX9_workOut_61 : decode cX9_workOut 61 = .ok (.iconst 1, 1) := by decide +kernel
theorem dX9_workOut_62 : decode cX9_workOut 62 = .ok (.goto 4, 3) := by decide +kernel
theorem dX9_workOut_65 : decode cX9_workOut 65 = .ok (.iconst 0, 1) := by decide +kernel
theorem dX9_workOut_66 : decode cX9_workOut 66 = .ok (.istore 7, 2) := by decide +kernel
theorem dX9_workOut_68 : decode cX9_workOut 68 = .ok (.aload_n 0, 1) := by decide +kernel
theorem dX9_workOut_69 : decode cX9_workOut 69 = .ok (.invokevirtual 192, 3) := by decide +kernel
theorem dX9_workOut_72 : decode cX9_workOut 72 = .ok (.istore 6, 2) := by decide +kernel
theorem dX9_workOut_74 : decode cX9_workOut 74 = .ok (.aload_n 0, 1) := by decide +kernel
theorem dX9_workOut_75 : decode cX9_workOut 75 = .ok (.getfield 161, 3) := by decide +kernel
theorem dX9_workOut_78 : decode cX9_workOut 78 = .ok (.ifCond .ge 18, 3) := by decide +kernel
theorem dX9_workOut_81 : decode cX9_workOut 81 = .ok (.iload 7, 2) := by decide +kernel
theorem dX9_workOut_83 : decode cX9_workOut 83 = .ok (.ifCond .eq 13, 3) := by decide +kernel
theorem dX9_workOut_86 : decode cX9_workOut 86 = .ok (.iload_n 3, 1) := by decide +kernel
theorem dX9_workOut_87 : decode cX9_workOut 87 = .ok (.ifCond .ne 9, 3) := by decide +kernel
theorem dX9_workOut_90 : decode cX9_workOut 90 = .ok (.iconst 1, 1) := by decide +kernel
theorem dX9_workOut_91 : decode cX9_workOut 91 = .ok (.istore_n 3, 1) := by decide +kernel
theorem dX9_workOut_92 : decode cX9_workOut 92 = .ok (.iload 6, 2) := by decide +kernel
theorem dX9_workOut_94 : decode cX9_workOut 94 = .ok (.istore 4, 2) := by decide +kernel
theorem dX9_workOut_96 : decode cX9_workOut 96 = .ok (.aload_n 0, 1) := by decide +kernel
theorem dX9_workOut_97 : decode cX9_workOut 97 = .ok (.bipush 59, 2) := by decide +kernel
theorem dX9_workOut_99 : decode cX9_workOut 99 = .ok (.invokevirtual 171, 3) := by decide +kernel
theorem dX9_workOut_102 : decode cX9_workOut 102 = .ok (.istore 5, 2) := by decide +kernel
theorem dX9_workOut_104 : decode cX9_workOut 104 = .ok (.goto (-71), 3) := by decide +kernel
theorem dX9_workOut_107 : decode cX9_workOut 107 = .ok (.aload_n 0, 1) := by decide +kernel
theorem dX9_workOut_108 : decode cX9_workOut 108 = .ok (.getfield 161, 3) := by decide +kernel
theorem dX9_workOut_111 : decode cX9_workOut 111 = .ok (.ifCond .ge 19, 3) := by decide +kernel
theorem dX9_workOut_114 : decode cX9_workOut 114 = .ok (.aload_n 0, 1) := by decide +kernel
theorem dX9_workOut_115 : decode cX9_workOut 115 = .ok (.getfield 152, 3) := by decide +kernel
theorem dX9_workOut_118 : decode cX9_workOut 118 = .ok (.aload_n 0, 1) := by decide +kernel
theorem dX9_workOut_119 : decode cX9_workOut 119 = .ok (.getfield 155, 3) := by decide +kernel
theorem dX9_workOut_122 : decode cX9_workOut 122 = .ok (.if_icmp .ge 8, 3) := by decide +kernel
theorem dX9_workOut_125 : decode cX9_workOut 125 = .ok (.aload_n 0, 1) := by decide +kernel
theorem dX9_workOut_126 : decode cX9_workOut 126 = .ok (.invokevirtual 189, 3) := by decide +kernel
theorem dX9_workOut_129 : decode cX9_workOut 129 = .ok (.ireturn, 1) := by decide +kernel
theorem dX9_workOut_130 : decode cX9_workOut 130 = .ok (.iload 4, 2) := by decide +kernel
theorem dX9_workOut_132 : decode cX9_workOut 132 = .ok (.ireturn, 1) := by decide +kernel
theorem dX9_law_0 : decode cX9_law 0 = .ok (.aload_n 0, 1) := by decide +kernel
theorem dX9_law_1 : decode cX9_law 1 = .ok (.iconst (-1), 1) := by decide +kernel
theorem dX9_law_2 : decode cX9_law 2 = .ok (.aload_n 0, 1) := by decide +kernel
theorem dX9_law_3 : decode cX9_law 3 = .ok (.getfield 149, 3) := by decide +kernel
theorem dX9_law_6 : decode cX9_law 6 = .ok (.invokevirtual 198, 3) := by decide +kernel
theorem dX9_law_9 : decode cX9_law 9 = .ok (.istore_n 1, 1) := by decide +kernel
theorem dX9_law_10 : decode cX9_law 10 = .ok (.aload_n 0, 1) := by decide +kernel
theorem dX9_law_11 : decode cX9_law 11 = .ok (.getfield 149, 3) := by decide +kernel
theorem dX9_law_14 : decode cX9_law 14 = .ok (.istore_n 2, 1) := by decide +kernel
theorem dX9_law_15 : decode cX9_law 15 = .ok (.aload_n 0, 1) := by decide +kernel
theorem dX9_law_16 : decode cX9_law 16 = .ok (.iconst 0, 1) := by decide +kernel
theorem dX9_law_17 : decode cX9_law 17 = .ok (.putfield 149, 3) := by decide +kernel
theorem dX9_law_20 : decode cX9_law 20 = .ok (.aload_n 0, 1) := by decide +kernel
theorem dX9_law_21 : decode cX9_law 21 = .ok (.getfield 161, 3) := by decide +kernel
theorem dX9_law_24 : decode cX9_law 24 = .ok (.ifCond .lt 11, 3) := by decide +kernel
theorem dX9_law_27 : decode cX9_law 27 = .ok (.bipush (-100), 2) := by decide +kernel
theorem dX9_law_29 : decode cX9_law 29 = .ok (.aload_n 0, 1) := by decide +kernel
theorem dX9_law_30 : decode cX9_law 30 = .ok (.getfield 161, 3) := by decide +kernel
theorem dX9_law_33 : decode cX9_law 33 = .ok (.isub, 1) := by decide +kernel
theorem dX9_law_34 : decode cX9_law 34 = .ok (.ireturn, 1) := by decide +kernel
theorem dX9_law_35 : decode cX9_law 35 = .ok (.iconst 0, 1) := by decide +kernel
theorem dX9_law_36 : decode cX9_law 36 = .ok (.istore_n 3, 1) := by decide +kernel
theorem dX9_law_37 : decode cX9_law 37 = .ok (.iload_n 3, 1) := by decide +kernel
theorem dX9_law_38 : decode cX9_law 38 = .ok (.iload_n 2, 1) := by decide +kernel
theorem dX9_law_39 : decode cX9_law 39 = .ok (.if_icmp .ge 21, 3) := by decide +kernel
theorem dX9_law_42 : decode cX9_law 42 = .ok (.aload_n 0, 1) := by decide +kernel
theorem dX9_law_43 : decode cX9_law 43 = .ok (.getfield 25, 3) := by decide +kernel
theorem dX9_law_46 : decode cX9_law 46 = .ok (.iload_n 3, 1) := by decide +kernel
theorem dX9_law_47 : decode cX9_law 47 = .ok (.aload_n 0, 1) := by decide +kernel
theorem dX9_law_48 : decode cX9_law 48 = .ok (.getfield 22, 3) := by decide +kernel
theorem dX9_law_51 : decode cX9_law 51 = .ok (.iload_n 3, 1) := by decide +kernel
theorem dX9_law_52 : decode cX9_law 52 = .ok (.iaload, 1) := by decide +kernel
theorem dX9_law_53 : decode cX9_law 53 = .ok (.iastore, 1) := by decide +kernel
theorem dX9_law_54 : decode cX9_law 54 = .ok (.iinc 3 1, 3) := by decide +kernel
theorem dX9_law_57 : decode cX9_law 57 = .ok (.goto (-20), 3) := by decide +kernel
theorem dX9_law_60 : decode cX9_law 60 = .ok (.aload_n 0, 1) := by decide +kernel
theorem dX9_law_61 : decode cX9_law 61 = .ok (.iload_n 2, 1) := by decide +kernel
theorem dX9_law_62 : decode cX9_law 62 = .ok (.putfield 77, 3) := by decide +kernel
theorem dX9_law_65 : decode cX9_law 65 = .ok (.iconst 1, 1) := by decide +kernel
theorem dX9_law_66 : decode cX9_law 66 = .ok (.ireturn, 1) := by decide +kernel
theorem dX9_begins_0 : decode cX9_begins 0 = .ok (.iconst 0, 1) := by decide +kernel
theorem dX9_begins_1 : decode cX9_begins 1 = .ok (.istore_n 1, 1) := by decide +kernel
theorem dX9_begins_2 : decode cX9_begins 2 = .ok (.iload_n 1, 1) := by decide +kernel
theorem dX9_begins_3 : decode cX9_begins 3 = .ok (.bipush 12, 2) := by decide +kernel
theorem dX9_begins_5 : decode cX9_begins 5 = .ok (.if_icmp .ge 20, 3) := by decide +kernel
theorem dX9_begins_8 : decode cX9_begins 8 = .ok (.aload_n 0, 1) := by decide +kernel
theorem dX9_begins_9 : decode cX9_begins 9 = .ok (.getfield 31, 3) := by decide +kernel
theorem dX9_begins_12 : decode cX9_begins 12 = .ok (.iload_n 1, 1) := by decide +kernel
theorem dX9_begins_13 : decode cX9_begins 13 = .ok (.aload_n 0, 1) := by decide +kernel
theorem dX9_begins_14 : decode cX9_begins 14 = .ok (.iload_n 1, 1) := by decide +kernel
theorem dX9_begins_15 : decode cX9_begins 15 = .ok (.invokevirtual 87, 3) := by decide +kernel
theorem dX9_begins_18 : decode cX9_begins 18 = .ok (.iastore, 1) := by decide +kernel
theorem dX9_begins_19 : decode cX9_begins 19 = .ok (.iinc 1 1, 3) := by decide +kernel
theorem dX9_begins_22 : decode cX9_begins 22 = .ok (.goto (-20), 3) := by decide +kernel
theorem dX9_begins_25 : decode cX9_begins 25 = .ok (.iconst 0, 1) := by decide +kernel
theorem dX9_begins_26 : decode cX9_begins 26 = .ok (.istore_n 1, 1) := by decide +kernel
theorem dX9_begins_27 : decode cX9_begins 27 = .ok (.iload_n 1, 1) := by decide +kernel
theorem dX9_begins_28 : decode cX9_begins 28 = .ok (.aload_n 0, 1) := by decide +kernel
theorem dX9_begins_29 : decode cX9_begins 29 = .ok (.getfield 95, 3) := by decide +kernel
theorem dX9_begins_32 : decode cX9_begins 32 = .ok (.if_icmp .ge 24, 3) := by decide +kernel
theorem dX9_begins_35 : decode cX9_begins 35 = .ok (.aload_n 0, 1) := by decide +kernel
theorem dX9_begins_36 : decode cX9_begins 36 = .ok (.getfield 34, 3) := by decide +kernel
theorem dX9_begins_39 : decode cX9_begins 39 = .ok (.iload_n 1, 1) := by decide +kernel
theorem dX9_begins_40 : decode cX9_begins 40 = .ok (.aload_n 0, 1) := by decide +kernel
theorem dX9_begins_41 : decode cX9_begins 41 = .ok (.getfield 9, 3) := by decide +kernel
theorem dX9_begins_44 : decode cX9_begins 44 = .ok (.bipush 30, 2) := by decide +kernel
theorem dX9_begins_46 : decode cX9_begins 46 = .ok (.iload_n 1, 1) := by decide +kernel
theorem dX9_begins_47 : decode cX9_begins 47 = .ok (.iadd, 1) := by decide +kernel
theorem dX9_begins_48 : decode cX9_begins 48 = .ok (.iaload, 1) := by decide +kernel
theorem dX9_begins_49 : decode cX9_begins 49 = .ok (.iastore, 1) := by decide +kernel
theorem dX9_begins_50 : decode cX9_begins 50 = .ok (.iinc 1 1, 3) := by decide +kernel
theorem dX9_begins_53 : decode cX9_begins 53 = .ok (.goto (-26), 3) := by decide +kernel
theorem dX9_begins_56 : decode cX9_begins 56 = .ok (.aload_n 0, 1) := by decide +kernel
theorem dX9_begins_57 : decode cX9_begins 57 = .ok (.aload_n 0, 1) := by decide +kernel
theorem dX9_begins_58 : decode cX9_begins 58 = .ok (.getfield 9, 3) := by decide +kernel
theorem dX9_begins_61 : decode cX9_begins 61 = .ok (.bipush 50, 2) := by decide +kernel
theorem dX9_begins_63 : decode cX9_begins 63 = .ok (.iaload, 1) := by decide +kernel
theorem dX9_begins_64 : decode cX9_begins 64 = .ok (.putfield 201, 3) := by decide +kernel
theorem dX9_begins_67 : decode cX9_begins 67 = .ok (.aload_n 0, 1) := by decide +kernel
theorem dX9_begins_68 : decode cX9_begins 68 = .ok (.aload_n 0, 1) := by decide +kernel
theorem dX9_begins_69 : decode cX9_begins 69 = .ok (.getfield 9, 3) := by decide +kernel
theorem dX9_begins_72 : decode cX9_begins 72 = .ok (.bipush 52, 2) := by decide +kernel
theorem dX9_begins_74 : decode cX9_begins 74 = .ok (.iaload, 1) := by decide +kernel
theorem dX9_begins_75 : decode cX9_begins 75 = .ok (.putfield 204, 3) := by decide +kernel
theorem dX9_begins_78 : decode cX9_begins 78 = .ok (.return_, 1) := by decide +kernel
theorem dX9_isAwake_0 : decode cX9_isAwake 0 = .ok (.aload_n 0, 1) := by decide +kernel
theorem dX9_isAwake_1 : decode cX9_isAwake 1 = .ok (.getfield 34, 3) := by decide +kernel
theorem dX9_isAwake_4 : decode cX9_isAwake 4 = .ok (.iload_n 1, 1) := by decide +kernel
theorem dX9_isAwake_5 : decode cX9_isAwake 5 = .ok (.iaload, 1) := by decide +kernel
theorem dX9_isAwake_6 : decode cX9_isAwake 6 = .ok (.aload_n 0, 1) := by decide +kernel
theorem dX9_isAwake_7 : decode cX9_isAwake 7 = .ok (.getfield 9, 3) := by decide +kernel
theorem dX9_isAwake_10 : decode cX9_isAwake 10 = .ok (.bipush 51, 2) := by decide +kernel
theorem dX9_isAwake_12 : decode cX9_isAwake 12 = .ok (.iaload, 1) := by decide +kernel
theorem dX9_isAwake_13 : decode cX9_isAwake 13 = .ok (.if_icmp .le 7, 3) := by decide +kernel
theorem dX9_isAwake_16 : decode cX9_isAwake 16 = .ok (.iconst 1, 1) := by decide +kernel
theorem dX9_isAwake_17 : decode cX9_isAwake 17 = .ok (.goto 4, 3) := by decide +kernel
theorem dX9_isAwake_20 : decode cX9_isAwake 20 = .ok (.iconst 0, 1) := by decide +kernel
theorem dX9_isAwake_21 : decode cX9_isAwake 21 = .ok (.ireturn, 1) := by decide +kernel
theorem dX9_areBeside_0 : decode cX9_areBeside 0 = .ok (.iload_n 0, 1) := by decide +kernel
theorem dX9_areBeside_1 : decode cX9_areBeside 1 = .ok (.bipush 6, 2) := by decide +kernel
theorem dX9_areBeside_3 : decode cX9_areBeside 3 = .ok (.idiv, 1) := by decide +kernel
theorem dX9_areBeside_4 : decode cX9_areBeside 4 = .ok (.iload_n 1, 1) := by decide +kernel
theorem dX9_areBeside_5 : decode cX9_areBeside 5 = .ok (.bipush 6, 2) := by decide +kernel
theorem dX9_areBeside_7 : decode cX9_areBeside 7 = .ok (.idiv, 1) := by decide +kernel
theorem dX9_areBeside_8 : decode cX9_areBeside 8 = .ok (.if_icmp .ne 21, 3) := by decide +kernel
theorem dX9_areBeside_11 : decode cX9_areBeside 11 = .ok (.iload_n 0, 1) := by decide +kernel
theorem dX9_areBeside_12 : decode cX9_areBeside 12 = .ok (.iload_n 1, 1) := by decide +kernel
theorem dX9_areBeside_13 : decode cX9_areBeside 13 = .ok (.isub, 1) := by decide +kernel
theorem dX9_areBeside_14 : decode cX9_areBeside 14 = .ok (.invokestatic 207, 3) := by decide +kernel
theorem dX9_areBeside_17 : decode cX9_areBeside 17 = .ok (.iconst 1, 1) := by decide +kernel
theorem dX9_areBeside_18 : decode cX9_areBeside 18 = .ok (.if_icmp .ne 7, 3) := by decide +kernel
theorem dX9_areBeside_21 : decode cX9_areBeside 21 = .ok (.iconst 1, 1) := by decide +kernel
theorem dX9_areBeside_22 : decode cX9_areBeside 22 = .ok (.goto 23, 3) := by decide +kernel
theorem dX9_areBeside_25 : decode cX9_areBeside 25 = .ok (.iconst 0, 1) := by decide +kernel
theorem dX9_areBeside_26 : decode cX9_areBeside 26 = .ok (.goto 19, 3) := by decide +kernel
theorem dX9_areBeside_29 : decode cX9_areBeside 29 = .ok (.iload_n 0, 1) := by decide +kernel
theorem dX9_areBeside_30 : decode cX9_areBeside 30 = .ok (.bipush 6, 2) := by decide +kernel
theorem dX9_areBeside_32 : decode cX9_areBeside 32 = .ok (.irem, 1) := by decide +kernel
theorem dX9_areBeside_33 : decode cX9_areBeside 33 = .ok (.iload_n 1, 1) := by decide +kernel
theorem dX9_areBeside_34 : decode cX9_areBeside 34 = .ok (.bipush 6, 2) := by decide +kernel
theorem dX9_areBeside_36 : decode cX9_areBeside 36 = .ok (.irem, 1) := by decide +kernel
theorem dX9_areBeside_37 : decode cX9_areBeside 37 = .ok (.if_icmp .ne 7, 3) := by decide +kernel
theorem dX9_areBeside_40 : decode cX9_areBeside 40 = .ok (.iconst 1, 1) := by decide +kernel
theorem dX9_areBeside_41 : decode cX9_areBeside 41 = .ok (.goto 4, 3) := by decide +kernel
theorem dX9_areBeside_44 : decode cX9_areBeside 44 = .ok (.iconst 0, 1) := by decide +kernel
theorem dX9_areBeside_45 : decode cX9_areBeside 45 = .ok (.ireturn, 1) := by decide +kernel
theorem dX9_awakeBeside_0 : decode cX9_awakeBeside 0 = .ok (.iconst 0, 1) := by decide +kernel
theorem dX9_awakeBeside_1 : decode cX9_awakeBeside 1 = .ok (.istore_n 2, 1) := by decide +kernel
theorem dX9_awakeBeside_2 : decode cX9_awakeBeside 2 = .ok (.iconst 0, 1) := by decide +kernel
theorem dX9_awakeBeside_3 : decode cX9_awakeBeside 3 = .ok (.istore_n 3, 1) := by decide +kernel
theorem dX9_awakeBeside_4 : decode cX9_awakeBeside 4 = .ok (.iload_n 3, 1) := by decide +kernel
theorem dX9_awakeBeside_5 : decode cX9_awakeBeside 5 = .ok (.bipush 12, 2) := by decide +kernel
theorem dX9_awakeBeside_7 : decode cX9_awakeBeside 7 = .ok (.if_icmp .ge 47, 3) := by decide +kernel
theorem dX9_awakeBeside_10 : decode cX9_awakeBeside 10 = .ok (.iload_n 2, 1) := by decide +kernel
theorem dX9_awakeBeside_11 : decode cX9_awakeBeside 11 = .ok (.iload_n 1, 1) := by decide +kernel
theorem dX9_awakeBeside_12 : decode cX9_awakeBeside 12 = .ok (.iload_n 3, 1) := by decide +kernel
theorem dX9_awakeBeside_13 : decode cX9_awakeBeside 13 = .ok (.invokestatic 210, 3) := by decide +kernel
theorem dX9_awakeBeside_16 : decode cX9_awakeBeside 16 = .ok (.ifCond .eq 29, 3) := by decide +kernel
theorem dX9_awakeBeside_19 : decode cX9_awakeBeside 19 = .ok (.aload_n 0, 1) := by decide +kernel
theorem dX9_awakeBeside_20 : decode cX9_awakeBeside 20 = .ok (.getfield 31, 3) := by decide +kernel
theorem dX9_awakeBeside_23 : decode cX9_awakeBeside 23 = .ok (.iload_n 3, 1) := by decide +kernel
theorem dX9_awakeBeside_24 : decode cX9_awakeBeside 24 = .ok (.iaload, 1) := by decide +kernel
theorem dX9_awakeBeside_25 : decode cX9_awakeBeside 25 = .ok (.ifCond .lt 20, 3) := by decide +kernel
theorem dX9_awakeBeside_28 : decode cX9_awakeBeside 28 = .ok (.aload_n 0, 1) := by decide +kernel
theorem dX9_awakeBeside_29 : decode cX9_awakeBeside 29 = .ok (.aload_n 0, 1) := by decide +kernel
theorem dX9_awakeBeside_30 : decode cX9_awakeBeside 30 = .ok (.getfield 31, 3) := by decide +kernel
theorem dX9_awakeBeside_33 : decode cX9_awakeBeside 33 = .ok (.iload_n 3, 1) := by decide +kernel
theorem dX9_awakeBeside_34 : decode cX9_awakeBeside 34 = .ok (.iaload, 1) := by decide +kernel
theorem dX9_awakeBeside_35 : decode cX9_awakeBeside 35 = .ok (.invokevirtual 214, 3) := by decide +kernel
theorem dX9_awakeBeside_38 : decode cX9_awakeBeside 38 = .ok (.ifCond .eq 7, 3) := by decide +kernel
theorem dX9_awakeBeside_41 : decode cX9_awakeBeside 41 = .ok (.iconst 1, 1) := by decide +kernel
theorem dX9_awakeBeside_42 : decode cX9_awakeBeside 42 = .ok (.goto 4, 3) := by decide +kernel
theorem dX9_awakeBeside_45 : decode cX9_awakeBeside 45 = .ok (.iconst 0, 1) := by decide +kernel
theorem dX9_awakeBeside_46 : decode cX9_awakeBeside 46 = .ok (.iadd, 1) := by decide +kernel
theorem dX9_awakeBeside_47 : decode cX9_awakeBeside 47 = .ok (.istore_n 2, 1) := by decide +kernel
theorem dX9_awakeBeside_48 : decode cX9_awakeBeside 48 = .ok (.iinc 3 1, 3) := by decide +kernel
theorem dX9_awakeBeside_51 : decode cX9_awakeBeside 51 = .ok (.goto (-47), 3) := by decide +kernel
theorem dX9_awakeBeside_54 : decode cX9_awakeBeside 54 = .ok (.iload_n 2, 1) := by decide +kernel
theorem dX9_awakeBeside_55 : decode cX9_awakeBeside 55 = .ok (.ireturn, 1) := by decide +kernel
theorem dX9_growsIn_0 : decode cX9_growsIn 0 = .ok (.aload_n 0, 1) := by decide +kernel
theorem dX9_growsIn_1 : decode cX9_growsIn 1 = .ok (.getfield 31, 3) := by decide +kernel
theorem dX9_growsIn_4 : decode cX9_growsIn 4 = .ok (.iload_n 1, 1) := by decide +kernel
theorem dX9_growsIn_5 : decode cX9_growsIn 5 = .ok (.iaload, 1) := by decide +kernel
theorem dX9_growsIn_6 : decode cX9_growsIn 6 = .ok (.istore_n 2, 1) := by decide +kernel
theorem dX9_growsIn_7 : decode cX9_growsIn 7 = .ok (.aload_n 0, 1) := by decide +kernel
theorem dX9_growsIn_8 : decode cX9_growsIn 8 = .ok (.iload_n 1, 1) := by decide +kernel
theorem dX9_growsIn_9 : decode cX9_growsIn 9 = .ok (.invokevirtual 217, 3) := by decide +kernel
theorem dX9_growsIn_12 : decode cX9_growsIn 12 = .ok (.istore_n 3, 1) := by decide +kernel
theorem dX9_growsIn_13 : decode cX9_growsIn 13 = .ok (.aload_n 0, 1) := by decide +kernel
theorem dX9_growsIn_14 : decode cX9_growsIn 14 = .ok (.getfield 204, 3) := by decide +kernel
theorem dX9_growsIn_17 : decode cX9_growsIn 17 = .ok (.iload_n 1, 1) := by decide +kernel
theorem dX9_growsIn_18 : decode cX9_growsIn 18 = .ok (.if_icmp .ne 7, 3) := by decide +kernel
theorem dX9_growsIn_21 : decode cX9_growsIn 21 = .ok (.iconst 1, 1) := by decide +kernel
theorem dX9_growsIn_22 : decode cX9_growsIn 22 = .ok (.goto 4, 3) := by decide +kernel
theorem dX9_growsIn_25 : decode cX9_growsIn 25 = .ok (.iconst 0, 1) := by decide +kernel
theorem dX9_growsIn_26 : decode cX9_growsIn 26 = .ok (.istore 4, 2) := by decide +kernel
theorem dX9_growsIn_28 : decode cX9_growsIn 28 = .ok (.aload_n 0, 1) := by decide +kernel
theorem dX9_growsIn_29 : decode cX9_growsIn 29 = .ok (.getfield 9, 3) := by decide +kernel
theorem dX9_growsIn_32 : decode cX9_growsIn 32 = .ok (.bipush 10, 2) := by decide +kernel
theorem dX9_growsIn_34 : decode cX9_growsIn 34 = .ok (.iload_n 2, 1) := by decide +kernel
theorem dX9_growsIn_35 : decode cX9_growsIn 35 = .ok (.iadd, 1) := by decide +kernel
theorem dX9_growsIn_36 : decode cX9_growsIn 36 = .ok (.iaload, 1) := by decide +kernel
theorem dX9_growsIn_37 : decode cX9_growsIn 37 = .ok (.iconst 3, 1) := by decide +kernel
theorem dX9_growsIn_38 : decode cX9_growsIn 38 = .ok (.iload_n 3, 1) := by decide +kernel
theorem dX9_growsIn_39 : decode cX9_growsIn 39 = .ok (.imul, 1) := by decide +kernel
theorem dX9_growsIn_40 : decode cX9_growsIn 40 = .ok (.iadd, 1) := by decide +kernel
theorem dX9_growsIn_41 : decode cX9_growsIn 41 = .ok (.aload_n 0, 1) := by decide +kernel
theorem dX9_growsIn_42 : decode cX9_growsIn 42 = .ok (.getfield 9, 3) := by decide +kernel
theorem dX9_growsIn_45 : decode cX9_growsIn 45 = .ok (.bipush 20, 2) := by decide +kernel
theorem dX9_growsIn_47 : decode cX9_growsIn 47 = .ok (.iload_n 2, 1) := by decide +kernel
theorem dX9_growsIn_48 : decode cX9_growsIn 48 = .ok (.iadd, 1) := by decide +kernel
theorem dX9_growsIn_49 : decode cX9_growsIn 49 = .ok (.iaload, 1) := by decide +kernel
theorem dX9_growsIn_50 : decode cX9_growsIn 50 = .ok (.bipush 20, 2) := by decide +kernel
theorem dX9_growsIn_52 : decode cX9_growsIn 52 = .ok (.idiv, 1) := by decide +kernel
theorem dX9_growsIn_53 : decode cX9_growsIn 53 = .ok (.isub, 1) := by decide +kernel
theorem dX9_growsIn_54 : decode cX9_growsIn 54 = .ok (.bipush 8, 2) := by decide +kernel
theorem dX9_growsIn_56 : decode cX9_growsIn 56 = .ok (.iload 4, 2) := by decide +kernel
theorem dX9_growsIn_58 : decode cX9_growsIn 58 = .ok (.imul, 1) := by decide +kernel
theorem dX9_growsIn_59 : decode cX9_growsIn 59 = .ok (.isub, 1) := by decide +kernel
theorem dX9_growsIn_60 : decode cX9_growsIn 60 = .ok (.iconst 2, 1) := by decide +kernel
theorem dX9_growsIn_61 : decode cX9_growsIn 61 = .ok (.isub, 1) := by decide +kernel
theorem dX9_growsIn_62 : decode cX9_growsIn 62 = .ok (.istore 5, 2) := by decide +kernel
theorem dX9_growsIn_64 : decode cX9_growsIn 64 = .ok (.aload_n 0, 1) := by decide +kernel
theorem dX9_growsIn_65 : decode cX9_growsIn 65 = .ok (.getfield 77, 3) := by decide +kernel
theorem dX9_growsIn_68 : decode cX9_growsIn 68 = .ok (.ifCond .lt 81, 3) := by decide +kernel
theorem dX9_growsIn_71 : decode cX9_growsIn 71 = .ok (.aload_n 0, 1) := by decide +kernel
theorem dX9_growsIn_72 : decode cX9_growsIn 72 = .ok (.getfield 28, 3) := by decide +kernel
theorem dX9_growsIn_75 : decode cX9_growsIn 75 = .ok (.iconst 0, 1) := by decide +kernel
theorem dX9_growsIn_76 : decode cX9_growsIn 76 = .ok (.aload_n 0, 1) := by decide +kernel
theorem dX9_growsIn_77 : decode cX9_growsIn 77 = .ok (.getfield 9, 3) := by decide +kernel
theorem dX9_growsIn_80 : decode cX9_growsIn 80 = .ok (.bipush 10, 2) := by decide +kernel
theorem dX9_growsIn_82 : decode cX9_growsIn 82 = .ok (.iload_n 2, 1) := by decide +kernel
theorem dX9_growsIn_83 : decode cX9_growsIn 83 = .ok (.iadd, 1) := by decide +kernel
theorem dX9_growsIn_84 : decode cX9_growsIn 84 = .ok (.iaload, 1) := by decide +kernel
theorem dX9_growsIn_85 : decode cX9_growsIn 85 = .ok (.iastore, 1) := by decide +kernel
theorem dX9_growsIn_86 : decode cX9_growsIn 86 = .ok (.aload_n 0, 1) := by decide +kernel
theorem dX9_growsIn_87 : decode cX9_growsIn 87 = .ok (.getfield 28, 3) := by decide +kernel
theorem dX9_growsIn_90 : decode cX9_growsIn 90 = .ok (.iconst 1, 1) := by decide +kernel
theorem dX9_growsIn_91 : decode cX9_growsIn 91 = .ok (.aload_n 0, 1) := by decide +kernel
theorem dX9_growsIn_92 : decode cX9_growsIn 92 = .ok (.getfield 9, 3) := by decide +kernel
theorem dX9_growsIn_95 : decode cX9_growsIn 95 = .ok (.bipush 20, 2) := by decide +kernel
theorem dX9_growsIn_97 : decode cX9_growsIn 97 = .ok (.iload_n 2, 1) := by decide +kernel
theorem dX9_growsIn_98 : decode cX9_growsIn 98 = .ok (.iadd, 1) := by decide +kernel
theorem dX9_growsIn_99 : decode cX9_growsIn 99 = .ok (.iaload, 1) := by decide +kernel
theorem dX9_growsIn_100 : decode cX9_growsIn 100 = .ok (.iastore, 1) := by decide +kernel
theorem dX9_growsIn_101 : decode cX9_growsIn 101 = .ok (.aload_n 0, 1) := by decide +kernel
theorem dX9_growsIn_102 : decode cX9_growsIn 102 = .ok (.getfield 28, 3) := by decide +kernel
theorem dX9_growsIn_105 : decode cX9_growsIn 105 = .ok (.iconst 2, 1) := by decide +kernel
theorem dX9_growsIn_106 : decode cX9_growsIn 106 = .ok (.aload_n 0, 1) := by decide +kernel
theorem dX9_growsIn_107 : decode cX9_growsIn 107 = .ok (.getfield 34, 3) := by decide +kernel
theorem dX9_growsIn_110 : decode cX9_growsIn 110 = .ok (.iload_n 2, 1) := by decide +kernel
theorem dX9_growsIn_111 : decode cX9_growsIn 111 = .ok (.iaload, 1) := by decide +kernel
theorem dX9_growsIn_112 : decode cX9_growsIn 112 = .ok (.iastore, 1) := by decide +kernel
theorem dX9_growsIn_113 : decode cX9_growsIn 113 = .ok (.aload_n 0, 1) := by decide +kernel
theorem dX9_growsIn_114 : decode cX9_growsIn 114 = .ok (.getfield 28, 3) := by decide +kernel
theorem dX9_growsIn_117 : decode cX9_growsIn 117 = .ok (.iconst 3, 1) := by decide +kernel
theorem dX9_growsIn_118 : decode cX9_growsIn 118 = .ok (.iload_n 3, 1) := by decide +kernel
theorem dX9_growsIn_119 : decode cX9_growsIn 119 = .ok (.iastore, 1) := by decide +kernel
theorem dX9_growsIn_120 : decode cX9_growsIn 120 = .ok (.aload_n 0, 1) := by decide +kernel
theorem dX9_growsIn_121 : decode cX9_growsIn 121 = .ok (.getfield 28, 3) := by decide +kernel
theorem dX9_growsIn_124 : decode cX9_growsIn 124 = .ok (.iconst 4, 1) := by decide +kernel
theorem dX9_growsIn_125 : decode cX9_growsIn 125 = .ok (.iload 4, 2) := by decide +kernel
theorem dX9_growsIn_127 : decode cX9_growsIn 127 = .ok (.iastore, 1) := by decide +kernel
theorem dX9_growsIn_128 : decode cX9_growsIn 128 = .ok (.aload_n 0, 1) := by decide +kernel
theorem dX9_growsIn_129 : decode cX9_growsIn 129 = .ok (.getfield 28, 3) := by decide +kernel
theorem dX9_growsIn_132 : decode cX9_growsIn 132 = .ok (.iconst 5, 1) := by decide +kernel
theorem dX9_growsIn_133 : decode cX9_growsIn 133 = .ok (.aload_n 0, 1) := by decide +kernel
theorem dX9_growsIn_134 : decode cX9_growsIn 134 = .ok (.getfield 201, 3) := by decide +kernel
theorem dX9_growsIn_137 : decode cX9_growsIn 137 = .ok (.iastore, 1) := by decide +kernel
theorem dX9_growsIn_138 : decode cX9_growsIn 138 = .ok (.aload_n 0, 1) := by decide +kernel
theorem dX9_growsIn_139 : decode cX9_growsIn 139 = .ok (.iconst 0, 1) := by decide +kernel
theorem dX9_growsIn_140 : decode cX9_growsIn 140 = .ok (.aload_n 0, 1) := by decide +kernel
theorem dX9_growsIn_141 : decode cX9_growsIn 141 = .ok (.getfield 77, 3) := by decide +kernel
theorem dX9_growsIn_144 : decode cX9_growsIn 144 = .ok (.invokevirtual 198, 3) := by decide +kernel
theorem dX9_growsIn_147 : decode cX9_growsIn 147 = .ok (.istore 5, 2) := by decide +kernel
theorem dX9_growsIn_149 : decode cX9_growsIn 149 = .ok (.iload 5, 2) := by decide +kernel
theorem dX9_growsIn_151 : decode cX9_growsIn 151 = .ok (.bipush (-20), 2) := by decide +kernel
theorem dX9_growsIn_153 : decode cX9_growsIn 153 = .ok (.if_icmp .ge 8, 3) := by decide +kernel
theorem dX9_growsIn_156 : decode cX9_growsIn 156 = .ok (.bipush (-20), 2) := by decide +kernel
theorem dX9_growsIn_158 : decode cX9_growsIn 158 = .ok (.goto 17, 3) := by decide +kernel
theorem dX9_growsIn_161 : decode cX9_growsIn 161 = .ok (.iload 5, 2) := by decide +kernel
theorem dX9_growsIn_163 : decode cX9_growsIn 163 = .ok (.bipush 20, 2) := by decide +kernel
theorem dX9_growsIn_165 : decode cX9_growsIn 165 = .ok (.if_icmp .le 8, 3) := by decide +kernel
theorem dX9_growsIn_168 : decode cX9_growsIn 168 = .ok (.bipush 20, 2) := by decide +kernel
theorem dX9_growsIn_170 : decode cX9_growsIn 170 = .ok (.goto 5, 3) := by decide +kernel
theorem dX9_growsIn_173 : decode cX9_growsIn 173 = .ok (.iload 5, 2) := by decide +kernel
theorem dX9_growsIn_175 : decode cX9_growsIn 175 = .ok (.ireturn, 1) := by decide +kernel
theorem dX9_heldMind_0 : decode cX9_heldMind 0 = .ok (.iload_n 0, 1) := by decide +kernel
theorem dX9_heldMind_1 : decode cX9_heldMind 1 = .ok (.ifCond .ge 7, 3) := by decide +kernel
theorem dX9_heldMind_4 : decode cX9_heldMind 4 = .ok (.iconst 0, 1) := by decide +kernel
theorem dX9_heldMind_5 : decode cX9_heldMind 5 = .ok (.goto 15, 3) := by decide +kernel
theorem dX9_heldMind_8 : decode cX9_heldMind 8 = .ok (.iload_n 0, 1) := by decide +kernel
theorem dX9_heldMind_9 : decode cX9_heldMind 9 = .ok (.bipush 99, 2) := by decide +kernel
theorem dX9_heldMind_11 : decode cX9_heldMind 11 = .ok (.if_icmp .le 8, 3) := by decide +kernel
theorem dX9_heldMind_14 : decode cX9_heldMind 14 = .ok (.bipush 99, 2) := by decide +kernel
theorem dX9_heldMind_16 : decode cX9_heldMind 16 = .ok (.goto 4, 3) := by decide +kernel
theorem dX9_heldMind_19 : decode cX9_heldMind 19 = .ok (.iload_n 0, 1) := by decide +kernel
theorem dX9_heldMind_20 : decode cX9_heldMind 20 = .ok (.ireturn, 1) := by decide +kernel
theorem dX9_goesHour_0 : decode cX9_goesHour 0 = .ok (.iconst 0, 1) := by decide +kernel
theorem dX9_goesHour_1 : decode cX9_goesHour 1 = .ok (.istore_n 1, 1) := by decide +kernel
theorem dX9_goesHour_2 : decode cX9_goesHour 2 = .ok (.iload_n 1, 1) := by decide +kernel
theorem dX9_goesHour_3 : decode cX9_goesHour 3 = .ok (.bipush 12, 2) := by decide +kernel
theorem dX9_goesHour_5 : decode cX9_goesHour 5 = .ok (.if_icmp .ge 50, 3) := by decide +kernel
theorem dX9_goesHour_8 : decode cX9_goesHour 8 = .ok (.aload_n 0, 1) := by decide +kernel
theorem dX9_goesHour_9 : decode cX9_goesHour 9 = .ok (.getfield 37, 3) := by decide +kernel
theorem dX9_goesHour_12 : decode cX9_goesHour 12 = .ok (.iload_n 1, 1) := by decide +kernel
theorem dX9_goesHour_13 : decode cX9_goesHour 13 = .ok (.aload_n 0, 1) := by decide +kernel
theorem dX9_goesHour_14 : decode cX9_goesHour 14 = .ok (.getfield 31, 3) := by decide +kernel
theorem dX9_goesHour_17 : decode cX9_goesHour 17 = .ok (.iload_n 1, 1) := by decide +kernel
theorem dX9_goesHour_18 : decode cX9_goesHour 18 = .ok (.iaload, 1) := by decide +kernel
theorem dX9_goesHour_19 : decode cX9_goesHour 19 = .ok (.ifCond .ge 7, 3) := by decide +kernel
theorem dX9_goesHour_22 : decode cX9_goesHour 22 = .ok (.iconst 0, 1) := by decide +kernel
theorem dX9_goesHour_23 : decode cX9_goesHour 23 = .ok (.goto 25, 3) := by decide +kernel
theorem dX9_goesHour_26 : decode cX9_goesHour 26 = .ok (.aload_n 0, 1) := by decide +kernel
theorem dX9_goesHour_27 : decode cX9_goesHour 27 = .ok (.iload_n 1, 1) := by decide +kernel
theorem dX9_goesHour_28 : decode cX9_goesHour 28 = .ok (.invokevirtual 220, 3) := by decide +kernel
theorem dX9_goesHour_31 : decode cX9_goesHour 31 = .ok (.iconst 3, 1) := by decide +kernel
theorem dX9_goesHour_32 : decode cX9_goesHour 32 = .ok (.aload_n 0, 1) := by decide +kernel
theorem dX9_goesHour_33 : decode cX9_goesHour 33 = .ok (.getfield 9, 3) := by decide +kernel
theorem dX9_goesHour_36 : decode cX9_goesHour 36 = .ok (.bipush 40, 2) := by decide +kernel
theorem dX9_goesHour_38 : decode cX9_goesHour 38 = .ok (.aload_n 0, 1) := by decide +kernel
theorem dX9_goesHour_39 : decode cX9_goesHour 39 = .ok (.getfield 31, 3) := by decide +kernel
theorem dX9_goesHour_42 : decode cX9_goesHour 42 = .ok (.iload_n 1, 1) := by decide +kernel
theorem dX9_goesHour_43 : decode cX9_goesHour 43 = .ok (.iaload, 1) := by decide +kernel
theorem dX9_goesHour_44 : decode cX9_goesHour 44 = .ok (.iadd, 1) := by decide +kernel
theorem dX9_goesHour_45 : decode cX9_goesHour 45 = .ok (.iaload, 1) := by decide +kernel
theorem dX9_goesHour_46 : decode cX9_goesHour 46 = .ok (.imul, 1) := by decide +kernel
theorem dX9_goesHour_47 : decode cX9_goesHour 47 = .ok (.isub, 1) := by decide +kernel
theorem dX9_goesHour_48 : decode cX9_goesHour 48 = .ok (.iastore, 1) := by decide +kernel
theorem dX9_goesHour_49 : decode cX9_goesHour 49 = .ok (.iinc 1 1, 3) := by decide +kernel
theorem dX9_goesHour_52 : decode cX9_goesHour 52 = .ok (.goto (-50), 3) := by decide +kernel
theorem dX9_goesHour_55 : decode cX9_goesHour 55 = .ok (.iconst 0, 1) := by decide +kernel
theorem dX9_goesHour_56 : decode cX9_goesHour 56 = .ok (.istore_n 1, 1) := by decide +kernel
theorem dX9_goesHour_57 : decode cX9_goesHour 57 = .ok (.iload_n 1, 1) := by decide +kernel
theorem dX9_goesHour_58 : decode cX9_goesHour 58 = .ok (.bipush 12, 2) := by decide +kernel
theorem dX9_goesHour_60 : decode cX9_goesHour 60 = .ok (.if_icmp .ge 50, 3) := by decide +kernel
theorem dX9_goesHour_63 : decode cX9_goesHour 63 = .ok (.aload_n 0, 1) := by decide +kernel
theorem dX9_goesHour_64 : decode cX9_goesHour 64 = .ok (.getfield 31, 3) := by decide +kernel
theorem dX9_goesHour_67 : decode cX9_goesHour 67 = .ok (.iload_n 1, 1) := by decide +kernel
theorem dX9_goesHour_68 : decode cX9_goesHour 68 = .ok (.iaload, 1) := by decide +kernel
theorem dX9_goesHour_69 : decode cX9_goesHour 69 = .ok (.ifCond .lt 35, 3) := by decide +kernel
theorem dX9_goesHour_72 : decode cX9_goesHour 72 = .ok (.aload_n 0, 1) := by decide +kernel
theorem dX9_goesHour_73 : decode cX9_goesHour 73 = .ok (.getfield 34, 3) := by decide +kernel
theorem dX9_goesHour_76 : decode cX9_goesHour 76 = .ok (.aload_n 0, 1) := by decide +kernel
theorem dX9_goesHour_77 : decode cX9_goesHour 77 = .ok (.getfield 31, 3) := by decide +kernel
theorem dX9_goesHour_80 : decode cX9_goesHour 80 = .ok (.iload_n 1, 1) := by decide +kernel
theorem dX9_goesHour_81 : decode cX9_goesHour 81 = .ok (.iaload, 1) := by decide +kernel
theorem dX9_goesHour_82 : decode cX9_goesHour 82 = .ok (.aload_n 0, 1) := by decide +kernel
theorem dX9_goesHour_83 : decode cX9_goesHour 83 = .ok (.getfield 34, 3) := by decide +kernel
theorem dX9_goesHour_86 : decode cX9_goesHour 86 = .ok (.aload_n 0, 1) := by decide +kernel
theorem dX9_goesHour_87 : decode cX9_goesHour 87 = .ok (.getfield 31, 3) := by decide +kernel
theorem dX9_goesHour_90 : decode cX9_goesHour 90 = .ok (.iload_n 1, 1) := by decide +kernel
theorem dX9_goesHour_91 : decode cX9_goesHour 91 = .ok (.iaload, 1) := by decide +kernel
theorem dX9_goesHour_92 : decode cX9_goesHour 92 = .ok (.iaload, 1) := by decide +kernel
theorem dX9_goesHour_93 : decode cX9_goesHour 93 = .ok (.aload_n 0, 1) := by decide +kernel
theorem dX9_goesHour_94 : decode cX9_goesHour 94 = .ok (.getfield 37, 3) := by decide +kernel
theorem dX9_goesHour_97 : decode cX9_goesHour 97 = .ok (.iload_n 1, 1) := by decide +kernel
theorem dX9_goesHour_98 : decode cX9_goesHour 98 = .ok (.iaload, 1) := by decide +kernel
theorem dX9_goesHour_99 : decode cX9_goesHour 99 = .ok (.iadd, 1) := by decide +kernel
theorem dX9_goesHour_100 : decode cX9_goesHour 100 = .ok (.invokestatic 223, 3) := by decide +kernel
theorem dX9_goesHour_103 : decode cX9_goesHour 103 = .ok (.iastore, 1) := by decide +kernel
theorem dX9_goesHour_104 : decode cX9_goesHour 104 = .ok (.iinc 1 1, 3) := by decide +kernel
theorem dX9_goesHour_107 : decode cX9_goesHour 107 = .ok (.goto (-50), 3) := by decide +kernel
theorem dX9_goesHour_110 : decode cX9_goesHour 110 = .ok (.aload_n 0, 1) := by decide +kernel
theorem dX9_goesHour_111 : decode cX9_goesHour 111 = .ok (.aload_n 0, 1) := by decide +kernel
theorem dX9_goesHour_112 : decode cX9_goesHour 112 = .ok (.getfield 201, 3) := by decide +kernel
theorem dX9_goesHour_115 : decode cX9_goesHour 115 = .ok (.iconst 1, 1) := by decide +kernel
theorem dX9_goesHour_116 : decode cX9_goesHour 116 = .ok (.iadd, 1) := by decide +kernel
theorem dX9_goesHour_117 : decode cX9_goesHour 117 = .ok (.bipush 12, 2) := by decide +kernel
theorem dX9_goesHour_119 : decode cX9_goesHour 119 = .ok (.irem, 1) := by decide +kernel
theorem dX9_goesHour_120 : decode cX9_goesHour 120 = .ok (.putfield 201, 3) := by decide +kernel
theorem dX9_goesHour_123 : decode cX9_goesHour 123 = .ok (.return_, 1) := by decide +kernel
theorem dX9_awakeSet_0 : decode cX9_awakeSet 0 = .ok (.iconst 0, 1) := by decide +kernel
theorem dX9_awakeSet_1 : decode cX9_awakeSet 1 = .ok (.istore_n 1, 1) := by decide +kernel
theorem dX9_awakeSet_2 : decode cX9_awakeSet 2 = .ok (.iconst 0, 1) := by decide +kernel
theorem dX9_awakeSet_3 : decode cX9_awakeSet 3 = .ok (.istore_n 2, 1) := by decide +kernel
theorem dX9_awakeSet_4 : decode cX9_awakeSet 4 = .ok (.iload_n 2, 1) := by decide +kernel
theorem dX9_awakeSet_5 : decode cX9_awakeSet 5 = .ok (.aload_n 0, 1) := by decide +kernel
theorem dX9_awakeSet_6 : decode cX9_awakeSet 6 = .ok (.getfield 95, 3) := by decide +kernel
theorem dX9_awakeSet_9 : decode cX9_awakeSet 9 = .ok (.if_icmp .ge 27, 3) := by decide +kernel
theorem dX9_awakeSet_12 : decode cX9_awakeSet 12 = .ok (.iload_n 1, 1) := by decide +kernel
theorem dX9_awakeSet_13 : decode cX9_awakeSet 13 = .ok (.aload_n 0, 1) := by decide +kernel
theorem dX9_awakeSet_14 : decode cX9_awakeSet 14 = .ok (.iload_n 2, 1) := by decide +kernel
theorem dX9_awakeSet_15 : decode cX9_awakeSet 15 = .ok (.invokevirtual 214, 3) := by decide +kernel
theorem dX9_awakeSet_18 : decode cX9_awakeSet 18 = .ok (.ifCond .eq 9, 3) := by decide +kernel
theorem dX9_awakeSet_21 : decode cX9_awakeSet 21 = .ok (.iconst 1, 1) := by decide +kernel
theorem dX9_awakeSet_22 : decode cX9_awakeSet 22 = .ok (.iload_n 2, 1) := by decide +kernel
theorem dX9_awakeSet_23 : decode cX9_awakeSet 23 = .ok (.ishl, 1) := by decide +kernel
theorem dX9_awakeSet_24 : decode cX9_awakeSet 24 = .ok (.goto 4, 3) := by decide +kernel
theorem dX9_awakeSet_27 : decode cX9_awakeSet 27 = .ok (.iconst 0, 1) := by decide +kernel
theorem dX9_awakeSet_28 : decode cX9_awakeSet 28 = .ok (.ior, 1) := by decide +kernel
theorem dX9_awakeSet_29 : decode cX9_awakeSet 29 = .ok (.istore_n 1, 1) := by decide +kernel
theorem dX9_awakeSet_30 : decode cX9_awakeSet 30 = .ok (.iinc 2 1, 3) := by decide +kernel
theorem dX9_awakeSet_33 : decode cX9_awakeSet 33 = .ok (.goto (-29), 3) := by decide +kernel
theorem dX9_awakeSet_36 : decode cX9_awakeSet 36 = .ok (.iload_n 1, 1) := by decide +kernel
theorem dX9_awakeSet_37 : decode cX9_awakeSet 37 = .ok (.ireturn, 1) := by decide +kernel
theorem dX9_awakeMany_0 : decode cX9_awakeMany 0 = .ok (.aload_n 0, 1) := by decide +kernel
theorem dX9_awakeMany_1 : decode cX9_awakeMany 1 = .ok (.invokevirtual 226, 3) := by decide +kernel
theorem dX9_awakeMany_4 : decode cX9_awakeMany 4 = .ok (.invokestatic 229, 3) := by decide +kernel
theorem dX9_awakeMany_7 : decode cX9_awakeMany 7 = .ok (.ireturn, 1) := by decide +kernel
theorem dX9_mindAll_0 : decode cX9_mindAll 0 = .ok (.iconst 0, 1) := by decide +kernel
theorem dX9_mindAll_1 : decode cX9_mindAll 1 = .ok (.istore_n 1, 1) := by decide +kernel
theorem dX9_mindAll_2 : decode cX9_mindAll 2 = .ok (.iconst 0, 1) := by decide +kernel
theorem dX9_mindAll_3 : decode cX9_mindAll 3 = .ok (.istore_n 2, 1) := by decide +kernel
theorem dX9_mindAll_4 : decode cX9_mindAll 4 = .ok (.iload_n 2, 1) := by decide +kernel
theorem dX9_mindAll_5 : decode cX9_mindAll 5 = .ok (.aload_n 0, 1) := by decide +kernel
theorem dX9_mindAll_6 : decode cX9_mindAll 6 = .ok (.getfield 95, 3) := by decide +kernel
theorem dX9_mindAll_9 : decode cX9_mindAll 9 = .ok (.if_icmp .ge 18, 3) := by decide +kernel
theorem dX9_mindAll_12 : decode cX9_mindAll 12 = .ok (.iload_n 1, 1) := by decide +kernel
theorem dX9_mindAll_13 : decode cX9_mindAll 13 = .ok (.aload_n 0, 1) := by decide +kernel
theorem dX9_mindAll_14 : decode cX9_mindAll 14 = .ok (.getfield 34, 3) := by decide +kernel
theorem dX9_mindAll_17 : decode cX9_mindAll 17 = .ok (.iload_n 2, 1) := by decide +kernel
theorem dX9_mindAll_18 : decode cX9_mindAll 18 = .ok (.iaload, 1) := by decide +kernel
theorem dX9_mindAll_19 : decode cX9_mindAll 19 = .ok (.iadd, 1) := by decide +kernel
theorem dX9_mindAll_20 : decode cX9_mindAll 20 = .ok (.istore_n 1, 1) := by decide +kernel
theorem dX9_mindAll_21 : decode cX9_mindAll 21 = .ok (.iinc 2 1, 3) := by decide +kernel
theorem dX9_mindAll_24 : decode cX9_mindAll 24 = .ok (.goto (-20), 3) := by decide +kernel
theorem dX9_mindAll_27 : decode cX9_mindAll 27 = .ok (.iload_n 1, 1) := by decide +kernel
theorem dX9_mindAll_28 : decode cX9_mindAll 28 = .ok (.ireturn, 1) := by decide +kernel
theorem dX9_grows_0 : decode cX9_grows 0 = .ok (.aload_n 0, 1) := by decide +kernel
theorem dX9_grows_1 : decode cX9_grows 1 = .ok (.iload_n 1, 1) := by decide +kernel
theorem dX9_grows_2 : decode cX9_grows 2 = .ok (.i2l, 1) := by decide +kernel
theorem dX9_grows_3 : decode cX9_grows 3 = .ok (.invokevirtual 127, 3) := by decide +kernel
theorem dX9_grows_6 : decode cX9_grows 6 = .ok (.ifCond .ne 6, 3) := by decide +kernel
theorem dX9_grows_9 : decode cX9_grows 9 = .ok (.ldc 232, 2) := by decide +kernel
theorem dX9_grows_11 : decode cX9_grows 11 = .ok (.ireturn, 1) := by decide +kernel
theorem dX9_grows_12 : decode cX9_grows 12 = .ok (.aload_n 0, 1) := by decide +kernel
theorem dX9_grows_13 : decode cX9_grows 13 = .ok (.invokevirtual 233, 3) := by decide +kernel
theorem dX9_grows_16 : decode cX9_grows 16 = .ok (.aload_n 0, 1) := by decide +kernel
theorem dX9_grows_17 : decode cX9_grows 17 = .ok (.aload_n 0, 1) := by decide +kernel
theorem dX9_grows_18 : decode cX9_grows 18 = .ok (.getfield 9, 3) := by decide +kernel
theorem dX9_grows_21 : decode cX9_grows 21 = .ok (.iload_n 1, 1) := by decide +kernel
theorem dX9_grows_22 : decode cX9_grows 22 = .ok (.iaload, 1) := by decide +kernel
theorem dX9_grows_23 : decode cX9_grows 23 = .ok (.invokevirtual 220, 3) := by decide +kernel
theorem dX9_grows_26 : decode cX9_grows 26 = .ok (.ireturn, 1) := by decide +kernel
theorem dX9_isToldAt_0 : decode cX9_isToldAt 0 = .ok (.aload_n 0, 1) := by decide +kernel
theorem dX9_isToldAt_1 : decode cX9_isToldAt 1 = .ok (.getfield 31, 3) := by decide +kernel
theorem dX9_isToldAt_4 : decode cX9_isToldAt 4 = .ok (.iload_n 1, 1) := by decide +kernel
theorem dX9_isToldAt_5 : decode cX9_isToldAt 5 = .ok (.iaload, 1) := by decide +kernel
theorem dX9_isToldAt_6 : decode cX9_isToldAt 6 = .ok (.istore_n 3, 1) := by decide +kernel
theorem dX9_isToldAt_7 : decode cX9_isToldAt 7 = .ok (.iload_n 3, 1) := by decide +kernel
theorem dX9_isToldAt_8 : decode cX9_isToldAt 8 = .ok (.ifCond .lt 40, 3) := by decide +kernel
theorem dX9_isToldAt_11 : decode cX9_isToldAt 11 = .ok (.aload_n 0, 1) := by decide +kernel
theorem dX9_isToldAt_12 : decode cX9_isToldAt 12 = .ok (.getfield 34, 3) := by decide +kernel
theorem dX9_isToldAt_15 : decode cX9_isToldAt 15 = .ok (.iload_n 3, 1) := by decide +kernel
theorem dX9_isToldAt_16 : decode cX9_isToldAt 16 = .ok (.aload_n 0, 1) := by decide +kernel
theorem dX9_isToldAt_17 : decode cX9_isToldAt 17 = .ok (.getfield 34, 3) := by decide +kernel
theorem dX9_isToldAt_20 : decode cX9_isToldAt 20 = .ok (.iload_n 3, 1) := by decide +kernel
theorem dX9_isToldAt_21 : decode cX9_isToldAt 21 = .ok (.iaload, 1) := by decide +kernel
theorem dX9_isToldAt_22 : decode cX9_isToldAt 22 = .ok (.aload_n 0, 1) := by decide +kernel
theorem dX9_isToldAt_23 : decode cX9_isToldAt 23 = .ok (.getfield 9, 3) := by decide +kernel
theorem dX9_isToldAt_26 : decode cX9_isToldAt 26 = .ok (.bipush 10, 2) := by decide +kernel
theorem dX9_isToldAt_28 : decode cX9_isToldAt 28 = .ok (.iload_n 3, 1) := by decide +kernel
theorem dX9_isToldAt_29 : decode cX9_isToldAt 29 = .ok (.iadd, 1) := by decide +kernel
theorem dX9_isToldAt_30 : decode cX9_isToldAt 30 = .ok (.iaload, 1) := by decide +kernel
theorem dX9_isToldAt_31 : decode cX9_isToldAt 31 = .ok (.iload_n 2, 1) := by decide +kernel
theorem dX9_isToldAt_32 : decode cX9_isToldAt 32 = .ok (.if_icmp .gt 10, 3) := by decide +kernel
theorem dX9_isToldAt_35 : decode cX9_isToldAt 35 = .ok (.bipush (-2), 2) := by decide +kernel
theorem dX9_isToldAt_37 : decode cX9_isToldAt 37 = .ok (.iload_n 2, 1) := by decide +kernel
theorem dX9_isToldAt_38 : decode cX9_isToldAt 38 = .ok (.imul, 1) := by decide +kernel
theorem dX9_isToldAt_39 : decode cX9_isToldAt 39 = .ok (.goto 4, 3) := by decide +kernel
theorem dX9_isToldAt_42 : decode cX9_isToldAt 42 = .ok (.iload_n 2, 1) := by decide +kernel
theorem dX9_isToldAt_43 : decode cX9_isToldAt 43 = .ok (.iadd, 1) := by decide +kernel
theorem dX9_isToldAt_44 : decode cX9_isToldAt 44 = .ok (.invokestatic 223, 3) := by decide +kernel
theorem dX9_isToldAt_47 : decode cX9_isToldAt 47 = .ok (.iastore, 1) := by decide +kernel
theorem dX9_isToldAt_48 : decode cX9_isToldAt 48 = .ok (.return_, 1) := by decide +kernel
theorem dX9_touchedMany_0 : decode cX9_touchedMany 0 = .ok (.iconst 0, 1) := by decide +kernel
theorem dX9_touchedMany_1 : decode cX9_touchedMany 1 = .ok (.istore_n 1, 1) := by decide +kernel
theorem dX9_touchedMany_2 : decode cX9_touchedMany 2 = .ok (.iconst 0, 1) := by decide +kernel
theorem dX9_touchedMany_3 : decode cX9_touchedMany 3 = .ok (.istore_n 2, 1) := by decide +kernel
theorem dX9_touchedMany_4 : decode cX9_touchedMany 4 = .ok (.iload_n 2, 1) := by decide +kernel
theorem dX9_touchedMany_5 : decode cX9_touchedMany 5 = .ok (.bipush 12, 2) := by decide +kernel
theorem dX9_touchedMany_7 : decode cX9_touchedMany 7 = .ok (.if_icmp .ge 27, 3) := by decide +kernel
theorem dX9_touchedMany_10 : decode cX9_touchedMany 10 = .ok (.iload_n 1, 1) := by decide +kernel
theorem dX9_touchedMany_11 : decode cX9_touchedMany 11 = .ok (.aload_n 0, 1) := by decide +kernel
theorem dX9_touchedMany_12 : decode cX9_touchedMany 12 = .ok (.getfield 40, 3) := by decide +kernel
theorem dX9_touchedMany_15 : decode cX9_touchedMany 15 = .ok (.iload_n 2, 1) := by decide +kernel
theorem dX9_touchedMany_16 : decode cX9_touchedMany 16 = .ok (.iaload, 1) := by decide +kernel
theorem dX9_touchedMany_17 : decode cX9_touchedMany 17 = .ok (.iconst 2, 1) := by decide +kernel
theorem dX9_touchedMany_18 : decode cX9_touchedMany 18 = .ok (.if_icmp .ne 7, 3) := by decide +kernel
theorem dX9_touchedMany_21 : decode cX9_touchedMany 21 = .ok (.iconst 1, 1) := by decide +kernel
theorem dX9_touchedMany_22 : decode cX9_touchedMany 22 = .ok (.goto 4, 3) := by decide +kernel
theorem dX9_touchedMany_25 : decode cX9_touchedMany 25 = .ok (.iconst 0, 1) := by decide +kernel
theorem dX9_touchedMany_26 : decode cX9_touchedMany 26 = .ok (.iadd, 1) := by decide +kernel
theorem dX9_touchedMany_27 : decode cX9_touchedMany 27 = .ok (.istore_n 1, 1) := by decide +kernel
theorem dX9_touchedMany_28 : decode cX9_touchedMany 28 = .ok (.iinc 2 1, 3) := by decide +kernel
theorem dX9_touchedMany_31 : decode cX9_touchedMany 31 = .ok (.goto (-27), 3) := by decide +kernel
theorem dX9_touchedMany_34 : decode cX9_touchedMany 34 = .ok (.iload_n 1, 1) := by decide +kernel
theorem dX9_touchedMany_35 : decode cX9_touchedMany 35 = .ok (.ireturn, 1) := by decide +kernel
theorem dX9_isTouched_0 : decode cX9_isTouched 0 = .ok (.iconst 0, 1) := by decide +kernel
theorem dX9_isTouched_1 : decode cX9_isTouched 1 = .ok (.istore_n 2, 1) := by decide +kernel
theorem dX9_isTouched_2 : decode cX9_isTouched 2 = .ok (.iload_n 2, 1) := by decide +kernel
theorem dX9_isTouched_3 : decode cX9_isTouched 3 = .ok (.bipush 12, 2) := by decide +kernel
theorem dX9_isTouched_5 : decode cX9_isTouched 5 = .ok (.if_icmp .ge 25, 3) := by decide +kernel
theorem dX9_isTouched_8 : decode cX9_isTouched 8 = .ok (.aload_n 0, 1) := by decide +kernel
theorem dX9_isTouched_9 : decode cX9_isTouched 9 = .ok (.getfield 40, 3) := by decide +kernel
theorem dX9_isTouched_12 : decode cX9_isTouched 12 = .ok (.iload_n 2, 1) := by decide +kernel
theorem dX9_isTouched_13 : decode cX9_isTouched 13 = .ok (.iload_n 2, 1) := by decide +kernel
theorem dX9_isTouched_14 : decode cX9_isTouched 14 = .ok (.iload_n 1, 1) := by decide +kernel
theorem dX9_isTouched_15 : decode cX9_isTouched 15 = .ok (.if_icmp .ne 7, 3) := by decide +kernel
theorem dX9_isTouched_18 : decode cX9_isTouched 18 = .ok (.iconst 1, 1) := by decide +kernel
theorem dX9_isTouched_19 : decode cX9_isTouched 19 = .ok (.goto 4, 3) := by decide +kernel
theorem dX9_isTouched_22 : decode cX9_isTouched 22 = .ok (.iconst 0, 1) := by decide +kernel
theorem dX9_isTouched_23 : decode cX9_isTouched 23 = .ok (.iastore, 1) := by decide +kernel
theorem dX9_isTouched_24 : decode cX9_isTouched 24 = .ok (.iinc 2 1, 3) := by decide +kernel
theorem dX9_isTouched_27 : decode cX9_isTouched 27 = .ok (.goto (-25), 3) := by decide +kernel
theorem dX9_isTouched_30 : decode cX9_isTouched 30 = .ok (.iconst 1, 1) := by decide +kernel
theorem dX9_isTouched_31 : decode cX9_isTouched 31 = .ok (.istore_n 2, 1) := by decide +kernel
theorem dX9_isTouched_32 : decode cX9_isTouched 32 = .ok (.iload_n 2, 1) := by decide +kernel
theorem dX9_isTouched_33 : decode cX9_isTouched 33 = .ok (.ifCond .eq 161, 3) := by decide +kernel
theorem dX9_isTouched_36 : decode cX9_isTouched 36 = .ok (.iconst 0, 1) := by decide +kernel
theorem dX9_isTouched_37 : decode cX9_isTouched 37 = .ok (.istore_n 2, 1) := by decide +kernel
theorem dX9_isTouched_38 : decode cX9_isTouched 38 = .ok (.iconst 0, 1) := by decide +kernel
theorem dX9_isTouched_39 : decode cX9_isTouched 39 = .ok (.istore_n 3, 1) := by decide +kernel
theorem dX9_isTouched_40 : decode cX9_isTouched 40 = .ok (.iload_n 3, 1) := by decide +kernel
theorem dX9_isTouched_41 : decode cX9_isTouched 41 = .ok (.bipush 12, 2) := by decide +kernel
theorem dX9_isTouched_43 : decode cX9_isTouched 43 = .ok (.if_icmp .ge 148, 3) := by decide +kernel
theorem dX9_isTouched_46 : decode cX9_isTouched 46 = .ok (.aload_n 0, 1) := by decide +kernel
theorem dX9_isTouched_47 : decode cX9_isTouched 47 = .ok (.getfield 40, 3) := by decide +kernel
theorem dX9_isTouched_50 : decode cX9_isTouched 50 = .ok (.iload_n 3, 1) := by decide +kernel
theorem dX9_isTouched_51 : decode cX9_isTouched 51 = .ok (.iaload, 1) := by decide +kernel
theorem dX9_isTouched_52 : decode cX9_isTouched 52 = .ok (.iconst 1, 1) := by decide +kernel
theorem dX9_isTouched_53 : decode cX9_isTouched 53 = .ok (.if_icmp .ne 132, 3) := by decide +kernel
theorem dX9_isTouched_56 : decode cX9_isTouched 56 = .ok (.aload_n 0, 1) := by decide +kernel
theorem dX9_isTouched_57 : decode cX9_isTouched 57 = .ok (.getfield 31, 3) := by decide +kernel
theorem dX9_isTouched_60 : decode cX9_isTouched 60 = .ok (.iload_n 3, 1) := by decide +kernel
theorem dX9_isTouched_61 : decode cX9_isTouched 61 = .ok (.iaload, 1) := by decide +kernel
theorem dX9_isTouched_62 : decode cX9_isTouched 62 = .ok (.ifCond .lt 123, 3) := by decide +kernel
theorem dX9_isTouched_65 : decode cX9_isTouched 65 = .ok (.iconst 1, 1) := by decide +kernel
theorem dX9_isTouched_66 : decode cX9_isTouched 66 = .ok (.istore_n 2, 1) := by decide +kernel
theorem dX9_isTouched_67 : decode cX9_isTouched 67 = .ok (.aload_n 0, 1) := by decide +kernel
theorem dX9_isTouched_68 : decode cX9_isTouched 68 = .ok (.getfield 40, 3) := by decide +kernel
theorem dX9_isTouched_71 : decode cX9_isTouched 71 = .ok (.iload_n 3, 1) := by decide +kernel
theorem dX9_isTouched_72 : decode cX9_isTouched 72 = .ok (.iconst 2, 1) := by decide +kernel
theorem dX9_isTouched_73 : decode cX9_isTouched 73 = .ok (.iastore, 1) := by decide +kernel
theorem dX9_isTouched_74 : decode cX9_isTouched 74 = .ok (.aload_n 0, 1) := by decide +kernel
theorem dX9_isTouched_75 : decode cX9_isTouched 75 = .ok (.aload_n 0, 1) := by decide +kernel
theorem dX9_isTouched_76 : decode cX9_isTouched 76 = .ok (.getfield 31, 3) := by decide +kernel
theorem dX9_isTouched_79 : decode cX9_isTouched 79 = .ok (.iload_n 3, 1) := by decide +kernel
theorem dX9_isTouched_80 : decode cX9_isTouched 80 = .ok (.iaload, 1) := by decide +kernel
theorem dX9_isTouched_81 : decode cX9_isTouched 81 = .ok (.invokevirtual 214, 3) := by decide +kernel
theorem dX9_isTouched_84 : decode cX9_isTouched 84 = .ok (.istore 4, 2) := by decide +kernel
theorem dX9_isTouched_86 : decode cX9_isTouched 86 = .ok (.aload_n 0, 1) := by decide +kernel
theorem dX9_isTouched_87 : decode cX9_isTouched 87 = .ok (.getfield 34, 3) := by decide +kernel
theorem dX9_isTouched_90 : decode cX9_isTouched 90 = .ok (.aload_n 0, 1) := by decide +kernel
theorem dX9_isTouched_91 : decode cX9_isTouched 91 = .ok (.getfield 31, 3) := by decide +kernel
theorem dX9_isTouched_94 : decode cX9_isTouched 94 = .ok (.iload_n 3, 1) := by decide +kernel
theorem dX9_isTouched_95 : decode cX9_isTouched 95 = .ok (.iaload, 1) := by decide +kernel
theorem dX9_isTouched_96 : decode cX9_isTouched 96 = .ok (.aload_n 0, 1) := by decide +kernel
theorem dX9_isTouched_97 : decode cX9_isTouched 97 = .ok (.getfield 34, 3) := by decide +kernel
theorem dX9_isTouched_100 : decode cX9_isTouched 100 = .ok (.aload_n 0, 1) := by decide +kernel
theorem dX9_isTouched_101 : decode cX9_isTouched 101 = .ok (.getfield 31, 3) := by decide +kernel
theorem dX9_isTouched_104 : decode cX9_isTouched 104 = .ok (.iload_n 3, 1) := by decide +kernel
theorem dX9_isTouched_105 : decode cX9_isTouched 105 = .ok (.iaload, 1) := by decide +kernel
theorem dX9_isTouched_106 : decode cX9_isTouched 106 = .ok (.iaload, 1) := by decide +kernel
theorem dX9_isTouched_107 : decode cX9_isTouched 107 = .ok (.bipush 15, 2) := by decide +kernel
theorem dX9_isTouched_109 : decode cX9_isTouched 109 = .ok (.iadd, 1) := by decide +kernel
theorem dX9_isTouched_110 : decode cX9_isTouched 110 = .ok (.invokestatic 223, 3) := by decide +kernel
theorem dX9_isTouched_113 : decode cX9_isTouched 113 = .ok (.iastore, 1) := by decide +kernel
theorem dX9_isTouched_114 : decode cX9_isTouched 114 = .ok (.iconst 0, 1) := by decide +kernel
theorem dX9_isTouched_115 : decode cX9_isTouched 115 = .ok (.istore 5, 2) := by decide +kernel
theorem dX9_isTouched_117 : decode cX9_isTouched 117 = .ok (.iload 5, 2) := by decide +kernel
theorem dX9_isTouched_119 : decode cX9_isTouched 119 = .ok (.bipush 12, 2) := by decide +kernel
theorem dX9_isTouched_121 : decode cX9_isTouched 121 = .ok (.if_icmp .ge 64, 3) := by decide +kernel
theorem dX9_isTouched_124 : decode cX9_isTouched 124 = .ok (.aload_n 0, 1) := by decide +kernel
theorem dX9_isTouched_125 : decode cX9_isTouched 125 = .ok (.getfield 40, 3) := by decide +kernel
theorem dX9_isTouched_128 : decode cX9_isTouched 128 = .ok (.iload 5, 2) := by decide +kernel
theorem dX9_isTouched_130 : decode cX9_isTouched 130 = .ok (.iload 4, 2) := by decide +kernel
theorem dX9_isTouched_132 : decode cX9_isTouched 132 = .ok (.ifCond .ne 39, 3) := by decide +kernel
theorem dX9_isTouched_135 : decode cX9_isTouched 135 = .ok (.aload_n 0, 1) := by decide +kernel
theorem dX9_isTouched_136 : decode cX9_isTouched 136 = .ok (.aload_n 0, 1) := by decide +kernel
theorem dX9_isTouched_137 : decode cX9_isTouched 137 = .ok (.getfield 31, 3) := by decide +kernel
theorem dX9_isTouched_140 : decode cX9_isTouched 140 = .ok (.iload_n 3, 1) := by decide +kernel
theorem dX9_isTouched_141 : decode cX9_isTouched 141 = .ok (.iaload, 1) := by decide +kernel
theorem dX9_isTouched_142 : decode cX9_isTouched 142 = .ok (.invokevirtual 214, 3) := by decide +kernel
theorem dX9_isTouched_145 : decode cX9_isTouched 145 = .ok (.ifCond .eq 26, 3) := by decide +kernel
theorem dX9_isTouched_148 : decode cX9_isTouched 148 = .ok (.iload_n 3, 1) := by decide +kernel
theorem dX9_isTouched_149 : decode cX9_isTouched 149 = .ok (.iload 5, 2) := by decide +kernel
theorem dX9_isTouched_151 : decode cX9_isTouched 151 = .ok (.invokestatic 210, 3) := by decide +kernel
theorem dX9_isTouched_154 : decode cX9_isTouched 154 = .ok (.ifCond .eq 17, 3) := by decide +kernel
theorem dX9_isTouched_157 : decode cX9_isTouched 157 = .ok (.aload_n 0, 1) := by decide +kernel
theorem dX9_isTouched_158 : decode cX9_isTouched 158 = .ok (.getfield 40, 3) := by decide +kernel
theorem dX9_isTouched_161 : decode cX9_isTouched 161 = .ok (.iload 5, 2) := by decide +kernel
theorem dX9_isTouched_163 : decode cX9_isTouched 163 = .ok (.iaload, 1) := by decide +kernel
theorem dX9_isTouched_164 : decode cX9_isTouched 164 = .ok (.ifCond .ne 7, 3) := by decide +kernel
theorem dX9_isTouched_167 : decode cX9_isTouched 167 = .ok (.iconst 1, 1) := by decide +kernel
theorem dX9_isTouched_168 : decode cX9_isTouched 168 = .ok (.goto 10, 3) := by decide +kernel
theorem dX9_isTouched_171 : decode cX9_isTouched 171 = .ok (.aload_n 0, 1) := by decide +kernel
theorem dX9_isTouched_172 : decode cX9_isTouched 172 = .ok (.getfield 40, 3) := by decide +kernel
theorem dX9_isTouched_175 : decode cX9_isTouched 175 = .ok (.iload 5, 2) := by decide +kernel
theorem dX9_isTouched_177 : decode cX9_isTouched 177 = .ok (.iaload, 1) := by decide +kernel
theorem dX9_isTouched_178 : decode cX9_isTouched 178 = .ok (.iastore, 1) := by decide +kernel
theorem dX9_isTouched_179 : decode cX9_isTouched 179 = .ok (.iinc 5 1, 3) := by decide +kernel
theorem dX9_isTouched_182 : decode cX9_isTouched 182 = .ok (.goto (-65), 3) := by decide +kernel
theorem dX9_isTouched_185 : decode cX9_isTouched 185 = .ok (.iinc 3 1, 3) := by decide +kernel
theorem dX9_isTouched_188 : decode cX9_isTouched 188 = .ok (.goto (-148), 3) := by decide +kernel
theorem dX9_isTouched_191 : decode cX9_isTouched 191 = .ok (.goto (-159), 3) := by decide +kernel
theorem dX9_isTouched_194 : decode cX9_isTouched 194 = .ok (.return_, 1) := by decide +kernel
theorem dX9_bytesIs_0 : decode cX9_bytesIs 0 = .ok (.iload_n 1, 1) := by decide +kernel
theorem dX9_bytesIs_1 : decode cX9_bytesIs 1 = .ok (.invokestatic 119, 3) := by decide +kernel
theorem dX9_bytesIs_4 : decode cX9_bytesIs 4 = .ok (.ifCond .ne 7, 3) := by decide +kernel
theorem dX9_bytesIs_7 : decode cX9_bytesIs 7 = .ok (.iconst (-1), 1) := by decide +kernel
theorem dX9_bytesIs_8 : decode cX9_bytesIs 8 = .ok (.goto 34, 3) := by decide +kernel
theorem dX9_bytesIs_11 : decode cX9_bytesIs 11 = .ok (.aload_n 0, 1) := by decide +kernel
theorem dX9_bytesIs_12 : decode cX9_bytesIs 12 = .ok (.getfield 64, 3) := by decide +kernel
theorem dX9_bytesIs_15 : decode cX9_bytesIs 15 = .ok (.iload_n 1, 1) := by decide +kernel
theorem dX9_bytesIs_16 : decode cX9_bytesIs 16 = .ok (.iaload, 1) := by decide +kernel
theorem dX9_bytesIs_17 : decode cX9_bytesIs 17 = .ok (.ifCond .ge 8, 3) := by decide +kernel
theorem dX9_bytesIs_20 : decode cX9_bytesIs 20 = .ok (.bipush (-11), 2) := by decide +kernel
theorem dX9_bytesIs_22 : decode cX9_bytesIs 22 = .ok (.goto 20, 3) := by decide +kernel
theorem dX9_bytesIs_25 : decode cX9_bytesIs 25 = .ok (.aload_n 0, 1) := by decide +kernel
theorem dX9_bytesIs_26 : decode cX9_bytesIs 26 = .ok (.getfield 64, 3) := by decide +kernel
theorem dX9_bytesIs_29 : decode cX9_bytesIs 29 = .ok (.iload_n 1, 1) := by decide +kernel
theorem dX9_bytesIs_30 : decode cX9_bytesIs 30 = .ok (.iaload, 1) := by decide +kernel
theorem dX9_bytesIs_31 : decode cX9_bytesIs 31 = .ok (.bipush 50, 2) := by decide +kernel
theorem dX9_bytesIs_33 : decode cX9_bytesIs 33 = .ok (.if_icmp .ne 7, 3) := by decide +kernel
theorem dX9_bytesIs_36 : decode cX9_bytesIs 36 = .ok (.iconst 1, 1) := by decide +kernel
theorem dX9_bytesIs_37 : decode cX9_bytesIs 37 = .ok (.goto 5, 3) := by decide +kernel
theorem dX9_bytesIs_40 : decode cX9_bytesIs 40 = .ok (.bipush (-12), 2) := by decide +kernel
theorem dX9_bytesIs_42 : decode cX9_bytesIs 42 = .ok (.ireturn, 1) := by decide +kernel
theorem dX9_hourMany_0 : decode cX9_hourMany 0 = .ok (.iconst 0, 1) := by decide +kernel
theorem dX9_hourMany_1 : decode cX9_hourMany 1 = .ok (.istore_n 2, 1) := by decide +kernel
theorem dX9_hourMany_2 : decode cX9_hourMany 2 = .ok (.iload_n 2, 1) := by decide +kernel
theorem dX9_hourMany_3 : decode cX9_hourMany 3 = .ok (.bipush 24, 2) := by decide +kernel
theorem dX9_hourMany_5 : decode cX9_hourMany 5 = .ok (.if_icmp .ge 36, 3) := by decide +kernel
theorem dX9_hourMany_8 : decode cX9_hourMany 8 = .ok (.iload_n 2, 1) := by decide +kernel
theorem dX9_hourMany_9 : decode cX9_hourMany 9 = .ok (.aload_n 0, 1) := by decide +kernel
theorem dX9_hourMany_10 : decode cX9_hourMany 10 = .ok (.getfield 67, 3) := by decide +kernel
theorem dX9_hourMany_13 : decode cX9_hourMany 13 = .ok (.iload_n 1, 1) := by decide +kernel
theorem dX9_hourMany_14 : decode cX9_hourMany 14 = .ok (.iaload, 1) := by decide +kernel
theorem dX9_hourMany_15 : decode cX9_hourMany 15 = .ok (.if_icmp .ge 26, 3) := by decide +kernel
theorem dX9_hourMany_18 : decode cX9_hourMany 18 = .ok (.aload_n 0, 1) := by decide +kernel
theorem dX9_hourMany_19 : decode cX9_hourMany 19 = .ok (.getfield 70, 3) := by decide +kernel
theorem dX9_hourMany_22 : decode cX9_hourMany 22 = .ok (.bipush 60, 2) := by decide +kernel
theorem dX9_hourMany_24 : decode cX9_hourMany 24 = .ok (.iload_n 1, 1) := by decide +kernel
theorem dX9_hourMany_25 : decode cX9_hourMany 25 = .ok (.imul, 1) := by decide +kernel
theorem dX9_hourMany_26 : decode cX9_hourMany 26 = .ok (.iload_n 2, 1) := by decide +kernel
theorem dX9_hourMany_27 : decode cX9_hourMany 27 = .ok (.iadd, 1) := by decide +kernel
theorem dX9_hourMany_28 : decode cX9_hourMany 28 = .ok (.laload, 1) := by decide +kernel
theorem dX9_hourMany_29 : decode cX9_hourMany 29 = .ok (.invokestatic 104, 3) := by decide +kernel
theorem dX9_hourMany_32 : decode cX9_hourMany 32 = .ok (.ifCond .eq 9, 3) := by decide +kernel
theorem dX9_hourMany_35 : decode cX9_hourMany 35 = .ok (.iinc 2 1, 3) := by decide +kernel
theorem dX9_hourMany_38 : decode cX9_hourMany 38 = .ok (.goto (-36), 3) := by decide +kernel
theorem dX9_hourMany_41 : decode cX9_hourMany 41 = .ok (.iload_n 2, 1) := by decide +kernel
theorem dX9_hourMany_42 : decode cX9_hourMany 42 = .ok (.ireturn, 1) := by decide +kernel
theorem dX9_goesNext_0 : decode cX9_goesNext 0 = .ok (.aload_n 0, 1) := by decide +kernel
theorem dX9_goesNext_1 : decode cX9_goesNext 1 = .ok (.aload_n 0, 1) := by decide +kernel
theorem dX9_goesNext_2 : decode cX9_goesNext 2 = .ok (.getfield 70, 3) := by decide +kernel
theorem dX9_goesNext_5 : decode cX9_goesNext 5 = .ok (.bipush 60, 2) := by decide +kernel
theorem dX9_goesNext_7 : decode cX9_goesNext 7 = .ok (.iload_n 1, 1) := by decide +kernel
theorem dX9_goesNext_8 : decode cX9_goesNext 8 = .ok (.imul, 1) := by decide +kernel
theorem dX9_goesNext_9 : decode cX9_goesNext 9 = .ok (.iload_n 2, 1) := by decide +kernel
theorem dX9_goesNext_10 : decode cX9_goesNext 10 = .ok (.iadd, 1) := by decide +kernel
theorem dX9_goesNext_11 : decode cX9_goesNext 11 = .ok (.laload, 1) := by decide +kernel
theorem dX9_goesNext_12 : decode cX9_goesNext 12 = .ok (.l2i, 1) := by decide +kernel
theorem dX9_goesNext_13 : decode cX9_goesNext 13 = .ok (.putfield 204, 3) := by decide +kernel
theorem dX9_goesNext_16 : decode cX9_goesNext 16 = .ok (.aload_n 0, 1) := by decide +kernel
theorem dX9_goesNext_17 : decode cX9_goesNext 17 = .ok (.invokevirtual 236, 3) := by decide +kernel
theorem dX9_goesNext_20 : decode cX9_goesNext 20 = .ok (.return_, 1) := by decide +kernel
theorem dX9_goesRound_0 : decode cX9_goesRound 0 = .ok (.aload_n 0, 1) := by decide +kernel
theorem dX9_goesRound_1 : decode cX9_goesRound 1 = .ok (.invokevirtual 233, 3) := by decide +kernel
theorem dX9_goesRound_4 : decode cX9_goesRound 4 = .ok (.aload_n 0, 1) := by decide +kernel
theorem dX9_goesRound_5 : decode cX9_goesRound 5 = .ok (.iload_n 1, 1) := by decide +kernel
theorem dX9_goesRound_6 : decode cX9_goesRound 6 = .ok (.invokevirtual 239, 3) := by decide +kernel
theorem dX9_goesRound_9 : decode cX9_goesRound 9 = .ok (.istore_n 3, 1) := by decide +kernel
theorem dX9_goesRound_10 : decode cX9_goesRound 10 = .ok (.iconst 0, 1) := by decide +kernel
theorem dX9_goesRound_11 : decode cX9_goesRound 11 = .ok (.istore 4, 2) := by decide +kernel
theorem dX9_goesRound_13 : decode cX9_goesRound 13 = .ok (.iload 4, 2) := by decide +kernel
theorem dX9_goesRound_15 : decode cX9_goesRound 15 = .ok (.iload_n 2, 1) := by decide +kernel
theorem dX9_goesRound_16 : decode cX9_goesRound 16 = .ok (.if_icmp .ge 22, 3) := by decide +kernel
theorem dX9_goesRound_19 : decode cX9_goesRound 19 = .ok (.iload 4, 2) := by decide +kernel
theorem dX9_goesRound_21 : decode cX9_goesRound 21 = .ok (.iload_n 3, 1) := by decide +kernel
theorem dX9_goesRound_22 : decode cX9_goesRound 22 = .ok (.if_icmp .ge 16, 3) := by decide +kernel
theorem dX9_goesRound_25 : decode cX9_goesRound 25 = .ok (.aload_n 0, 1) := by decide +kernel
theorem dX9_goesRound_26 : decode cX9_goesRound 26 = .ok (.iload_n 1, 1) := by decide +kernel
theorem dX9_goesRound_27 : decode cX9_goesRound 27 = .ok (.iload 4, 2) := by decide +kernel
theorem dX9_goesRound_29 : decode cX9_goesRound 29 = .ok (.invokevirtual 242, 3) := by decide +kernel
theorem dX9_goesRound_32 : decode cX9_goesRound 32 = .ok (.iinc 4 1, 3) := by decide +kernel
theorem dX9_goesRound_35 : decode cX9_goesRound 35 = .ok (.goto (-22), 3) := by decide +kernel
theorem dX9_goesRound_38 : decode cX9_goesRound 38 = .ok (.return_, 1) := by decide +kernel
theorem dX9_later_0 : decode cX9_later 0 = .ok (.aload_n 0, 1) := by decide +kernel
theorem dX9_later_1 : decode cX9_later 1 = .ok (.iload_n 1, 1) := by decide +kernel
theorem dX9_later_2 : decode cX9_later 2 = .ok (.invokevirtual 245, 3) := by decide +kernel
theorem dX9_later_5 : decode cX9_later 5 = .ok (.iconst (-1), 1) := by decide +kernel
theorem dX9_later_6 : decode cX9_later 6 = .ok (.if_icmp .eq 24, 3) := by decide +kernel
theorem dX9_later_9 : decode cX9_later 9 = .ok (.iload_n 2, 1) := by decide +kernel
theorem dX9_later_10 : decode cX9_later 10 = .ok (.i2l, 1) := by decide +kernel
theorem dX9_later_11 : decode cX9_later 11 = .ok (.lconst 0, 1) := by decide +kernel
theorem dX9_later_12 : decode cX9_later 12 = .ok (.ldc2_w 248, 3) := by decide +kernel
theorem dX9_later_15 : decode cX9_later 15 = .ok (.invokestatic 98, 3) := by decide +kernel
theorem dX9_later_18 : decode cX9_later 18 = .ok (.ifCond .eq 12, 3) := by decide +kernel
theorem dX9_later_21 : decode cX9_later 21 = .ok (.aload_n 0, 1) := by decide +kernel
theorem dX9_later_22 : decode cX9_later 22 = .ok (.iload_n 3, 1) := by decide +kernel
theorem dX9_later_23 : decode cX9_later 23 = .ok (.i2l, 1) := by decide +kernel
theorem dX9_later_24 : decode cX9_later 24 = .ok (.invokevirtual 127, 3) := by decide +kernel
theorem dX9_later_27 : decode cX9_later 27 = .ok (.ifCond .ne 5, 3) := by decide +kernel
theorem dX9_later_30 : decode cX9_later 30 = .ok (.iconst (-1), 1) := by decide +kernel
theorem dX9_later_31 : decode cX9_later 31 = .ok (.ireturn, 1) := by decide +kernel
theorem dX9_later_32 : decode cX9_later 32 = .ok (.aload_n 0, 1) := by decide +kernel
theorem dX9_later_33 : decode cX9_later 33 = .ok (.iload_n 1, 1) := by decide +kernel
theorem dX9_later_34 : decode cX9_later 34 = .ok (.invokevirtual 245, 3) := by decide +kernel
theorem dX9_later_37 : decode cX9_later 37 = .ok (.ifCond .ge 9, 3) := by decide +kernel
theorem dX9_later_40 : decode cX9_later 40 = .ok (.aload_n 0, 1) := by decide +kernel
theorem dX9_later_41 : decode cX9_later 41 = .ok (.iload_n 1, 1) := by decide +kernel
theorem dX9_later_42 : decode cX9_later 42 = .ok (.invokevirtual 245, 3) := by decide +kernel
theorem dX9_later_45 : decode cX9_later 45 = .ok (.ireturn, 1) := by decide +kernel
theorem dX9_later_46 : decode cX9_later 46 = .ok (.aload_n 0, 1) := by decide +kernel
theorem dX9_later_47 : decode cX9_later 47 = .ok (.iload_n 1, 1) := by decide +kernel
theorem dX9_later_48 : decode cX9_later 48 = .ok (.iload_n 2, 1) := by decide +kernel
theorem dX9_later_49 : decode cX9_later 49 = .ok (.invokevirtual 250, 3) := by decide +kernel
theorem dX9_later_52 : decode cX9_later 52 = .ok (.aload_n 0, 1) := by decide +kernel
theorem dX9_later_53 : decode cX9_later 53 = .ok (.getfield 34, 3) := by decide +kernel
theorem dX9_later_56 : decode cX9_later 56 = .ok (.iload_n 3, 1) := by decide +kernel
theorem dX9_later_57 : decode cX9_later 57 = .ok (.iaload, 1) := by decide +kernel
theorem dX9_later_58 : decode cX9_later 58 = .ok (.ireturn, 1) := by decide +kernel
theorem dX9_awake_0 : decode cX9_awake 0 = .ok (.aload_n 0, 1) := by decide +kernel
theorem dX9_awake_1 : decode cX9_awake 1 = .ok (.iload_n 1, 1) := by decide +kernel
theorem dX9_awake_2 : decode cX9_awake 2 = .ok (.invokevirtual 245, 3) := by decide +kernel
theorem dX9_awake_5 : decode cX9_awake 5 = .ok (.iconst (-1), 1) := by decide +kernel
theorem dX9_awake_6 : decode cX9_awake 6 = .ok (.if_icmp .eq 25, 3) := by decide +kernel
theorem dX9_awake_9 : decode cX9_awake 9 = .ok (.iload_n 2, 1) := by decide +kernel
theorem dX9_awake_10 : decode cX9_awake 10 = .ok (.i2l, 1) := by decide +kernel
theorem dX9_awake_11 : decode cX9_awake 11 = .ok (.lconst 0, 1) := by decide +kernel
theorem dX9_awake_12 : decode cX9_awake 12 = .ok (.ldc2_w 248, 3) := by decide +kernel
theorem dX9_awake_15 : decode cX9_awake 15 = .ok (.invokestatic 98, 3) := by decide +kernel
theorem dX9_awake_18 : decode cX9_awake 18 = .ok (.ifCond .eq 13, 3) := by decide +kernel
theorem dX9_awake_21 : decode cX9_awake 21 = .ok (.iload_n 3, 1) := by decide +kernel
theorem dX9_awake_22 : decode cX9_awake 22 = .ok (.i2l, 1) := by decide +kernel
theorem dX9_awake_23 : decode cX9_awake 23 = .ok (.lconst 0, 1) := by decide +kernel
theorem dX9_awake_24 : decode cX9_awake 24 = .ok (.lconst 1, 1) := by decide +kernel
theorem dX9_awake_25 : decode cX9_awake 25 = .ok (.invokestatic 98, 3) := by decide +kernel
theorem dX9_awake_28 : decode cX9_awake 28 = .ok (.ifCond .ne 5, 3) := by decide +kernel
theorem dX9_awake_31 : decode cX9_awake 31 = .ok (.iconst (-1), 1) := by decide +kernel
theorem dX9_awake_32 : decode cX9_awake 32 = .ok (.ireturn, 1) := by decide +kernel
theorem dX9_awake_33 : decode cX9_awake 33 = .ok (.aload_n 0, 1) := by decide +kernel
theorem dX9_awake_34 : decode cX9_awake 34 = .ok (.iload_n 1, 1) := by decide +kernel
theorem dX9_awake_35 : decode cX9_awake 35 = .ok (.invokevirtual 245, 3) := by decide +kernel
theorem dX9_awake_38 : decode cX9_awake 38 = .ok (.ifCond .ge 9, 3) := by decide +kernel
theorem dX9_awake_41 : decode cX9_awake 41 = .ok (.aload_n 0, 1) := by decide +kernel
theorem dX9_awake_42 : decode cX9_awake 42 = .ok (.iload_n 1, 1) := by decide +kernel
theorem dX9_awake_43 : decode cX9_awake 43 = .ok (.invokevirtual 245, 3) := by decide +kernel
theorem dX9_awake_46 : decode cX9_awake 46 = .ok (.ireturn, 1) := by decide +kernel
theorem dX9_awake_47 : decode cX9_awake 47 = .ok (.aload_n 0, 1) := by decide +kernel
theorem dX9_awake_48 : decode cX9_awake 48 = .ok (.iload_n 1, 1) := by decide +kernel
theorem dX9_awake_49 : decode cX9_awake 49 = .ok (.iload_n 2, 1) := by decide +kernel
theorem dX9_awake_50 : decode cX9_awake 50 = .ok (.invokevirtual 250, 3) := by decide +kernel
theorem dX9_awake_53 : decode cX9_awake 53 = .ok (.iload_n 3, 1) := by decide +kernel
theorem dX9_awake_54 : decode cX9_awake 54 = .ok (.ifCond .ne 10, 3) := by decide +kernel
theorem dX9_awake_57 : decode cX9_awake 57 = .ok (.aload_n 0, 1) := by decide +kernel
theorem dX9_awake_58 : decode cX9_awake 58 = .ok (.invokevirtual 226, 3) := by decide +kernel
theorem dX9_awake_61 : decode cX9_awake 61 = .ok (.goto 7, 3) := by decide +kernel
theorem dX9_awake_64 : decode cX9_awake 64 = .ok (.aload_n 0, 1) := by decide +kernel
theorem dX9_awake_65 : decode cX9_awake 65 = .ok (.invokevirtual 253, 3) := by decide +kernel
theorem dX9_awake_68 : decode cX9_awake 68 = .ok (.ireturn, 1) := by decide +kernel
theorem dX9_cries_0 : decode cX9_cries 0 = .ok (.aload_n 0, 1) := by decide +kernel
theorem dX9_cries_1 : decode cX9_cries 1 = .ok (.iload_n 1, 1) := by decide +kernel
theorem dX9_cries_2 : decode cX9_cries 2 = .ok (.invokevirtual 245, 3) := by decide +kernel
theorem dX9_cries_5 : decode cX9_cries 5 = .ok (.iconst (-1), 1) := by decide +kernel
theorem dX9_cries_6 : decode cX9_cries 6 = .ok (.if_icmp .eq 24, 3) := by decide +kernel
theorem dX9_cries_9 : decode cX9_cries 9 = .ok (.aload_n 0, 1) := by decide +kernel
theorem dX9_cries_10 : decode cX9_cries 10 = .ok (.iload_n 2, 1) := by decide +kernel
theorem dX9_cries_11 : decode cX9_cries 11 = .ok (.i2l, 1) := by decide +kernel
theorem dX9_cries_12 : decode cX9_cries 12 = .ok (.invokevirtual 127, 3) := by decide +kernel
theorem dX9_cries_15 : decode cX9_cries 15 = .ok (.ifCond .eq 15, 3) := by decide +kernel
theorem dX9_cries_18 : decode cX9_cries 18 = .ok (.iload_n 3, 1) := by decide +kernel
theorem dX9_cries_19 : decode cX9_cries 19 = .ok (.i2l, 1) := by decide +kernel
theorem dX9_cries_20 : decode cX9_cries 20 = .ok (.lconst 0, 1) := by decide +kernel
theorem dX9_cries_21 : decode cX9_cries 21 = .ok (.ldc2_w 110, 3) := by decide +kernel
theorem dX9_cries_24 : decode cX9_cries 24 = .ok (.invokestatic 98, 3) := by decide +kernel
theorem dX9_cries_27 : decode cX9_cries 27 = .ok (.ifCond .ne 5, 3) := by decide +kernel
theorem dX9_cries_30 : decode cX9_cries 30 = .ok (.iconst (-1), 1) := by decide +kernel
theorem dX9_cries_31 : decode cX9_cries 31 = .ok (.ireturn, 1) := by decide +kernel
theorem dX9_cries_32 : decode cX9_cries 32 = .ok (.aload_n 0, 1) := by decide +kernel
theorem dX9_cries_33 : decode cX9_cries 33 = .ok (.iload_n 1, 1) := by decide +kernel
theorem dX9_cries_34 : decode cX9_cries 34 = .ok (.invokevirtual 245, 3) := by decide +kernel
theorem dX9_cries_37 : decode cX9_cries 37 = .ok (.ifCond .ge 9, 3) := by decide +kernel
theorem dX9_cries_40 : decode cX9_cries 40 = .ok (.aload_n 0, 1) := by decide +kernel
theorem dX9_cries_41 : decode cX9_cries 41 = .ok (.iload_n 1, 1) := by decide +kernel
theorem dX9_cries_42 : decode cX9_cries 42 = .ok (.invokevirtual 245, 3) := by decide +kernel
theorem dX9_cries_45 : decode cX9_cries 45 = .ok (.ireturn, 1) := by decide +kernel
theorem dX9_cries_46 : decode cX9_cries 46 = .ok (.iconst 0, 1) := by decide +kernel
theorem dX9_cries_47 : decode cX9_cries 47 = .ok (.istore 4, 2) := by decide +kernel
theorem dX9_cries_49 : decode cX9_cries 49 = .ok (.iload 4, 2) := by decide +kernel
theorem dX9_cries_51 : decode cX9_cries 51 = .ok (.aload_n 0, 1) := by decide +kernel
theorem dX9_cries_52 : decode cX9_cries 52 = .ok (.iload_n 1, 1) := by decide +kernel
theorem dX9_cries_53 : decode cX9_cries 53 = .ok (.invokevirtual 239, 3) := by decide +kernel
theorem dX9_cries_56 : decode cX9_cries 56 = .ok (.if_icmp .gt 29, 3) := by decide +kernel
theorem dX9_cries_59 : decode cX9_cries 59 = .ok (.aload_n 0, 1) := by decide +kernel
theorem dX9_cries_60 : decode cX9_cries 60 = .ok (.iload_n 1, 1) := by decide +kernel
