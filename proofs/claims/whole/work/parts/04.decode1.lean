theorem dX4_touchFrom_90 : decode cX4_touchFrom 90 = .ok (.ixor, 1) := by decide +kernel
theorem dX4_touchFrom_91 : decode cX4_touchFrom 91 = .ok (.iand, 1) := by decide +kernel
theorem dX4_touchFrom_92 : decode cX4_touchFrom 92 = .ok (.iconst 1, 1) := by decide +kernel
theorem dX4_touchFrom_93 : decode cX4_touchFrom 93 = .ok (.iload 6, 2) := by decide +kernel
theorem dX4_touchFrom_95 : decode cX4_touchFrom 95 = .ok (.ishl, 1) := by decide +kernel
theorem dX4_touchFrom_96 : decode cX4_touchFrom 96 = .ok (.iand, 1) := by decide +kernel
theorem dX4_touchFrom_97 : decode cX4_touchFrom 97 = .ok (.ifCond .eq 7, 3) := by decide +kernel
theorem dX4_touchFrom_100 : decode cX4_touchFrom 100 = .ok (.iconst 1, 1) := by decide +kernel
theorem dX4_touchFrom_101 : decode cX4_touchFrom 101 = .ok (.goto 4, 3) := by decide +kernel
theorem dX4_touchFrom_104 : decode cX4_touchFrom 104 = .ok (.iconst 0, 1) := by decide +kernel
theorem dX4_touchFrom_105 : decode cX4_touchFrom 105 = .ok (.istore 7, 2) := by decide +kernel
theorem dX4_touchFrom_107 : decode cX4_touchFrom 107 = .ok (.iload 7, 2) := by decide +kernel
theorem dX4_touchFrom_109 : decode cX4_touchFrom 109 = .ok (.ifCond .eq 37, 3) := by decide +kernel
theorem dX4_touchFrom_112 : decode cX4_touchFrom 112 = .ok (.aload_n 0, 1) := by decide +kernel
theorem dX4_touchFrom_113 : decode cX4_touchFrom 113 = .ok (.getfield 43, 3) := by decide +kernel
theorem dX4_touchFrom_116 : decode cX4_touchFrom 116 = .ok (.iload 6, 2) := by decide +kernel
theorem dX4_touchFrom_118 : decode cX4_touchFrom 118 = .ok (.iaload, 1) := by decide +kernel
theorem dX4_touchFrom_119 : decode cX4_touchFrom 119 = .ok (.ifCond .lt 27, 3) := by decide +kernel
theorem dX4_touchFrom_122 : decode cX4_touchFrom 122 = .ok (.iload_n 2, 1) := by decide +kernel
theorem dX4_touchFrom_123 : decode cX4_touchFrom 123 = .ok (.bipush 12, 2) := by decide +kernel
theorem dX4_touchFrom_125 : decode cX4_touchFrom 125 = .ok (.if_icmp .ge 21, 3) := by decide +kernel
theorem dX4_touchFrom_128 : decode cX4_touchFrom 128 = .ok (.aload_n 0, 1) := by decide +kernel
theorem dX4_touchFrom_129 : decode cX4_touchFrom 129 = .ok (.getfield 52, 3) := by decide +kernel
theorem dX4_touchFrom_132 : decode cX4_touchFrom 132 = .ok (.iload_n 2, 1) := by decide +kernel
theorem dX4_touchFrom_133 : decode cX4_touchFrom 133 = .ok (.iinc 2 1, 3) := by decide +kernel
theorem dX4_touchFrom_136 : decode cX4_touchFrom 136 = .ok (.iload 6, 2) := by decide +kernel
theorem dX4_touchFrom_138 : decode cX4_touchFrom 138 = .ok (.iastore, 1) := by decide +kernel
theorem dX4_touchFrom_139 : decode cX4_touchFrom 139 = .ok (.iload_n 3, 1) := by decide +kernel
theorem dX4_touchFrom_140 : decode cX4_touchFrom 140 = .ok (.iconst 1, 1) := by decide +kernel
theorem dX4_touchFrom_141 : decode cX4_touchFrom 141 = .ok (.iload 6, 2) := by decide +kernel
theorem dX4_touchFrom_143 : decode cX4_touchFrom 143 = .ok (.ishl, 1) := by decide +kernel
theorem dX4_touchFrom_144 : decode cX4_touchFrom 144 = .ok (.ior, 1) := by decide +kernel
theorem dX4_touchFrom_145 : decode cX4_touchFrom 145 = .ok (.istore_n 3, 1) := by decide +kernel
theorem dX4_touchFrom_146 : decode cX4_touchFrom 146 = .ok (.iinc 6 1, 3) := by decide +kernel
theorem dX4_touchFrom_149 : decode cX4_touchFrom 149 = .ok (.goto (-74), 3) := by decide +kernel
theorem dX4_touchFrom_152 : decode cX4_touchFrom 152 = .ok (.iinc 4 1, 3) := by decide +kernel
theorem dX4_touchFrom_155 : decode cX4_touchFrom 155 = .ok (.goto (-122), 3) := by decide +kernel
theorem dX4_touchFrom_158 : decode cX4_touchFrom 158 = .ok (.iload_n 2, 1) := by decide +kernel
theorem dX4_touchFrom_159 : decode cX4_touchFrom 159 = .ok (.ireturn, 1) := by decide +kernel
theorem dX4_isWokenByTouch_0 : decode cX4_isWokenByTouch 0 = .ok (.aload_n 0, 1) := by decide +kernel
theorem dX4_isWokenByTouch_1 : decode cX4_isWokenByTouch 1 = .ok (.iload_n 1, 1) := by decide +kernel
theorem dX4_isWokenByTouch_2 : decode cX4_isWokenByTouch 2 = .ok (.invokevirtual 94, 3) := by decide +kernel
theorem dX4_isWokenByTouch_5 : decode cX4_isWokenByTouch 5 = .ok (.istore_n 2, 1) := by decide +kernel
theorem dX4_isWokenByTouch_6 : decode cX4_isWokenByTouch 6 = .ok (.aload_n 0, 1) := by decide +kernel
theorem dX4_isWokenByTouch_7 : decode cX4_isWokenByTouch 7 = .ok (.getfield 37, 3) := by decide +kernel
theorem dX4_isWokenByTouch_10 : decode cX4_isWokenByTouch 10 = .ok (.iload_n 1, 1) := by decide +kernel
theorem dX4_isWokenByTouch_11 : decode cX4_isWokenByTouch 11 = .ok (.bipush 99, 2) := by decide +kernel
theorem dX4_isWokenByTouch_13 : decode cX4_isWokenByTouch 13 = .ok (.aload_n 0, 1) := by decide +kernel
theorem dX4_isWokenByTouch_14 : decode cX4_isWokenByTouch 14 = .ok (.getfield 37, 3) := by decide +kernel
theorem dX4_isWokenByTouch_17 : decode cX4_isWokenByTouch 17 = .ok (.iload_n 1, 1) := by decide +kernel
theorem dX4_isWokenByTouch_18 : decode cX4_isWokenByTouch 18 = .ok (.iaload, 1) := by decide +kernel
theorem dX4_isWokenByTouch_19 : decode cX4_isWokenByTouch 19 = .ok (.bipush 15, 2) := by decide +kernel
theorem dX4_isWokenByTouch_21 : decode cX4_isWokenByTouch 21 = .ok (.iadd, 1) := by decide +kernel
theorem dX4_isWokenByTouch_22 : decode cX4_isWokenByTouch 22 = .ok (.invokestatic 130, 3) := by decide +kernel
theorem dX4_isWokenByTouch_25 : decode cX4_isWokenByTouch 25 = .ok (.iastore, 1) := by decide +kernel
theorem dX4_isWokenByTouch_26 : decode cX4_isWokenByTouch 26 = .ok (.iload_n 2, 1) := by decide +kernel
theorem dX4_isWokenByTouch_27 : decode cX4_isWokenByTouch 27 = .ok (.ifCond .ne 15, 3) := by decide +kernel
theorem dX4_isWokenByTouch_30 : decode cX4_isWokenByTouch 30 = .ok (.aload_n 0, 1) := by decide +kernel
theorem dX4_isWokenByTouch_31 : decode cX4_isWokenByTouch 31 = .ok (.iload_n 1, 1) := by decide +kernel
theorem dX4_isWokenByTouch_32 : decode cX4_isWokenByTouch 32 = .ok (.invokevirtual 94, 3) := by decide +kernel
theorem dX4_isWokenByTouch_35 : decode cX4_isWokenByTouch 35 = .ok (.ifCond .eq 7, 3) := by decide +kernel
theorem dX4_isWokenByTouch_38 : decode cX4_isWokenByTouch 38 = .ok (.iconst 1, 1) := by decide +kernel
theorem dX4_isWokenByTouch_39 : decode cX4_isWokenByTouch 39 = .ok (.goto 4, 3) := by decide +kernel
theorem dX4_isWokenByTouch_42 : decode cX4_isWokenByTouch 42 = .ok (.iconst 0, 1) := by decide +kernel
theorem dX4_isWokenByTouch_43 : decode cX4_isWokenByTouch 43 = .ok (.istore_n 3, 1) := by decide +kernel
theorem dX4_isWokenByTouch_44 : decode cX4_isWokenByTouch 44 = .ok (.aload_n 0, 1) := by decide +kernel
theorem dX4_isWokenByTouch_45 : decode cX4_isWokenByTouch 45 = .ok (.dup, 1) := by decide +kernel
theorem dX4_isWokenByTouch_46 : decode cX4_isWokenByTouch 46 = .ok (.getfield 24, 3) := by decide +kernel
theorem dX4_isWokenByTouch_49 : decode cX4_isWokenByTouch 49 = .ok (.iload_n 3, 1) := by decide +kernel
theorem dX4_isWokenByTouch_50 : decode cX4_isWokenByTouch 50 = .ok (.ifCond .eq 9, 3) := by decide +kernel
theorem dX4_isWokenByTouch_53 : decode cX4_isWokenByTouch 53 = .ok (.iconst 1, 1) := by decide +kernel
theorem dX4_isWokenByTouch_54 : decode cX4_isWokenByTouch 54 = .ok (.iload_n 1, 1) := by decide +kernel
theorem dX4_isWokenByTouch_55 : decode cX4_isWokenByTouch 55 = .ok (.ishl, 1) := by decide +kernel
theorem dX4_isWokenByTouch_56 : decode cX4_isWokenByTouch 56 = .ok (.goto 4, 3) := by decide +kernel
theorem dX4_isWokenByTouch_59 : decode cX4_isWokenByTouch 59 = .ok (.iconst 0, 1) := by decide +kernel
theorem dX4_isWokenByTouch_60 : decode cX4_isWokenByTouch 60 = .ok (.ior, 1) := by decide +kernel
theorem dX4_isWokenByTouch_61 : decode cX4_isWokenByTouch 61 = .ok (.putfield 24, 3) := by decide +kernel
theorem dX4_isWokenByTouch_64 : decode cX4_isWokenByTouch 64 = .ok (.iload_n 3, 1) := by decide +kernel
theorem dX4_isWokenByTouch_65 : decode cX4_isWokenByTouch 65 = .ok (.ireturn, 1) := by decide +kernel
theorem dX4_mindWhenTold_0 : decode cX4_mindWhenTold 0 = .ok (.iconst 0, 1) := by decide +kernel
theorem dX4_mindWhenTold_1 : decode cX4_mindWhenTold 1 = .ok (.aload_n 0, 1) := by decide +kernel
theorem dX4_mindWhenTold_2 : decode cX4_mindWhenTold 2 = .ok (.getfield 37, 3) := by decide +kernel
theorem dX4_mindWhenTold_5 : decode cX4_mindWhenTold 5 = .ok (.iload_n 1, 1) := by decide +kernel
theorem dX4_mindWhenTold_6 : decode cX4_mindWhenTold 6 = .ok (.iaload, 1) := by decide +kernel
theorem dX4_mindWhenTold_7 : decode cX4_mindWhenTold 7 = .ok (.bipush 18, 2) := by decide +kernel
theorem dX4_mindWhenTold_9 : decode cX4_mindWhenTold 9 = .ok (.isub, 1) := by decide +kernel
theorem dX4_mindWhenTold_10 : decode cX4_mindWhenTold 10 = .ok (.invokestatic 136, 3) := by decide +kernel
theorem dX4_mindWhenTold_13 : decode cX4_mindWhenTold 13 = .ok (.ireturn, 1) := by decide +kernel
theorem dX4_canAllBeTold_0 : decode cX4_canAllBeTold 0 = .ok (.iconst 0, 1) := by decide +kernel
theorem dX4_canAllBeTold_1 : decode cX4_canAllBeTold 1 = .ok (.istore_n 1, 1) := by decide +kernel
theorem dX4_canAllBeTold_2 : decode cX4_canAllBeTold 2 = .ok (.iload_n 1, 1) := by decide +kernel
theorem dX4_canAllBeTold_3 : decode cX4_canAllBeTold 3 = .ok (.aload_n 0, 1) := by decide +kernel
theorem dX4_canAllBeTold_4 : decode cX4_canAllBeTold 4 = .ok (.getfield 9, 3) := by decide +kernel
theorem dX4_canAllBeTold_7 : decode cX4_canAllBeTold 7 = .ok (.if_icmp .ge 31, 3) := by decide +kernel
theorem dX4_canAllBeTold_10 : decode cX4_canAllBeTold 10 = .ok (.aload_n 0, 1) := by decide +kernel
theorem dX4_canAllBeTold_11 : decode cX4_canAllBeTold 11 = .ok (.iload_n 1, 1) := by decide +kernel
theorem dX4_canAllBeTold_12 : decode cX4_canAllBeTold 12 = .ok (.invokevirtual 94, 3) := by decide +kernel
theorem dX4_canAllBeTold_15 : decode cX4_canAllBeTold 15 = .ok (.ifCond .eq 17, 3) := by decide +kernel
theorem dX4_canAllBeTold_18 : decode cX4_canAllBeTold 18 = .ok (.aload_n 0, 1) := by decide +kernel
theorem dX4_canAllBeTold_19 : decode cX4_canAllBeTold 19 = .ok (.iload_n 1, 1) := by decide +kernel
theorem dX4_canAllBeTold_20 : decode cX4_canAllBeTold 20 = .ok (.invokevirtual 139, 3) := by decide +kernel
theorem dX4_canAllBeTold_23 : decode cX4_canAllBeTold 23 = .ok (.aload_n 0, 1) := by decide +kernel
theorem dX4_canAllBeTold_24 : decode cX4_canAllBeTold 24 = .ok (.getfield 18, 3) := by decide +kernel
theorem dX4_canAllBeTold_27 : decode cX4_canAllBeTold 27 = .ok (.if_icmp .le 5, 3) := by decide +kernel
theorem dX4_canAllBeTold_30 : decode cX4_canAllBeTold 30 = .ok (.iconst 0, 1) := by decide +kernel
theorem dX4_canAllBeTold_31 : decode cX4_canAllBeTold 31 = .ok (.ireturn, 1) := by decide +kernel
theorem dX4_canAllBeTold_32 : decode cX4_canAllBeTold 32 = .ok (.iinc 1 1, 3) := by decide +kernel
theorem dX4_canAllBeTold_35 : decode cX4_canAllBeTold 35 = .ok (.goto (-33), 3) := by decide +kernel
theorem dX4_canAllBeTold_38 : decode cX4_canAllBeTold 38 = .ok (.iconst 1, 1) := by decide +kernel
theorem dX4_canAllBeTold_39 : decode cX4_canAllBeTold 39 = .ok (.ireturn, 1) := by decide +kernel
theorem dX4_mindOfAllTold_0 : decode cX4_mindOfAllTold 0 = .ok (.iconst 0, 1) := by decide +kernel
theorem dX4_mindOfAllTold_1 : decode cX4_mindOfAllTold 1 = .ok (.istore_n 1, 1) := by decide +kernel
theorem dX4_mindOfAllTold_2 : decode cX4_mindOfAllTold 2 = .ok (.iconst 0, 1) := by decide +kernel
theorem dX4_mindOfAllTold_3 : decode cX4_mindOfAllTold 3 = .ok (.istore_n 2, 1) := by decide +kernel
theorem dX4_mindOfAllTold_4 : decode cX4_mindOfAllTold 4 = .ok (.iload_n 2, 1) := by decide +kernel
theorem dX4_mindOfAllTold_5 : decode cX4_mindOfAllTold 5 = .ok (.aload_n 0, 1) := by decide +kernel
theorem dX4_mindOfAllTold_6 : decode cX4_mindOfAllTold 6 = .ok (.getfield 9, 3) := by decide +kernel
theorem dX4_mindOfAllTold_9 : decode cX4_mindOfAllTold 9 = .ok (.if_icmp .ge 34, 3) := by decide +kernel
theorem dX4_mindOfAllTold_12 : decode cX4_mindOfAllTold 12 = .ok (.iload_n 1, 1) := by decide +kernel
theorem dX4_mindOfAllTold_13 : decode cX4_mindOfAllTold 13 = .ok (.aload_n 0, 1) := by decide +kernel
theorem dX4_mindOfAllTold_14 : decode cX4_mindOfAllTold 14 = .ok (.iload_n 2, 1) := by decide +kernel
theorem dX4_mindOfAllTold_15 : decode cX4_mindOfAllTold 15 = .ok (.invokevirtual 94, 3) := by decide +kernel
theorem dX4_mindOfAllTold_18 : decode cX4_mindOfAllTold 18 = .ok (.ifCond .eq 11, 3) := by decide +kernel
theorem dX4_mindOfAllTold_21 : decode cX4_mindOfAllTold 21 = .ok (.aload_n 0, 1) := by decide +kernel
theorem dX4_mindOfAllTold_22 : decode cX4_mindOfAllTold 22 = .ok (.iload_n 2, 1) := by decide +kernel
theorem dX4_mindOfAllTold_23 : decode cX4_mindOfAllTold 23 = .ok (.invokevirtual 139, 3) := by decide +kernel
theorem dX4_mindOfAllTold_26 : decode cX4_mindOfAllTold 26 = .ok (.goto 9, 3) := by decide +kernel
theorem dX4_mindOfAllTold_29 : decode cX4_mindOfAllTold 29 = .ok (.aload_n 0, 1) := by decide +kernel
theorem dX4_mindOfAllTold_30 : decode cX4_mindOfAllTold 30 = .ok (.getfield 37, 3) := by decide +kernel
theorem dX4_mindOfAllTold_33 : decode cX4_mindOfAllTold 33 = .ok (.iload_n 2, 1) := by decide +kernel
theorem dX4_mindOfAllTold_34 : decode cX4_mindOfAllTold 34 = .ok (.iaload, 1) := by decide +kernel
theorem dX4_mindOfAllTold_35 : decode cX4_mindOfAllTold 35 = .ok (.iadd, 1) := by decide +kernel
theorem dX4_mindOfAllTold_36 : decode cX4_mindOfAllTold 36 = .ok (.istore_n 1, 1) := by decide +kernel
theorem dX4_mindOfAllTold_37 : decode cX4_mindOfAllTold 37 = .ok (.iinc 2 1, 3) := by decide +kernel
theorem dX4_mindOfAllTold_40 : decode cX4_mindOfAllTold 40 = .ok (.goto (-36), 3) := by decide +kernel
theorem dX4_mindOfAllTold_43 : decode cX4_mindOfAllTold 43 = .ok (.iload_n 1, 1) := by decide +kernel
theorem dX4_mindOfAllTold_44 : decode cX4_mindOfAllTold 44 = .ok (.ireturn, 1) := by decide +kernel
theorem dX4_nearestAwakeCot_0 : decode cX4_nearestAwakeCot 0 = .ok (.iconst (-1), 1) := by decide +kernel
theorem dX4_nearestAwakeCot_1 : decode cX4_nearestAwakeCot 1 = .ok (.istore_n 1, 1) := by decide +kernel
theorem dX4_nearestAwakeCot_2 : decode cX4_nearestAwakeCot 2 = .ok (.iconst 0, 1) := by decide +kernel
theorem dX4_nearestAwakeCot_3 : decode cX4_nearestAwakeCot 3 = .ok (.istore_n 2, 1) := by decide +kernel
theorem dX4_nearestAwakeCot_4 : decode cX4_nearestAwakeCot 4 = .ok (.iload_n 2, 1) := by decide +kernel
theorem dX4_nearestAwakeCot_5 : decode cX4_nearestAwakeCot 5 = .ok (.bipush 12, 2) := by decide +kernel
theorem dX4_nearestAwakeCot_7 : decode cX4_nearestAwakeCot 7 = .ok (.if_icmp .ge 66, 3) := by decide +kernel
theorem dX4_nearestAwakeCot_10 : decode cX4_nearestAwakeCot 10 = .ok (.aload_n 0, 1) := by decide +kernel
theorem dX4_nearestAwakeCot_11 : decode cX4_nearestAwakeCot 11 = .ok (.getfield 43, 3) := by decide +kernel
theorem dX4_nearestAwakeCot_14 : decode cX4_nearestAwakeCot 14 = .ok (.iload_n 2, 1) := by decide +kernel
theorem dX4_nearestAwakeCot_15 : decode cX4_nearestAwakeCot 15 = .ok (.iaload, 1) := by decide +kernel
theorem dX4_nearestAwakeCot_16 : decode cX4_nearestAwakeCot 16 = .ok (.ifCond .lt 20, 3) := by decide +kernel
theorem dX4_nearestAwakeCot_19 : decode cX4_nearestAwakeCot 19 = .ok (.aload_n 0, 1) := by decide +kernel
theorem dX4_nearestAwakeCot_20 : decode cX4_nearestAwakeCot 20 = .ok (.aload_n 0, 1) := by decide +kernel
theorem dX4_nearestAwakeCot_21 : decode cX4_nearestAwakeCot 21 = .ok (.getfield 43, 3) := by decide +kernel
theorem dX4_nearestAwakeCot_24 : decode cX4_nearestAwakeCot 24 = .ok (.iload_n 2, 1) := by decide +kernel
theorem dX4_nearestAwakeCot_25 : decode cX4_nearestAwakeCot 25 = .ok (.iaload, 1) := by decide +kernel
theorem dX4_nearestAwakeCot_26 : decode cX4_nearestAwakeCot 26 = .ok (.invokevirtual 94, 3) := by decide +kernel
theorem dX4_nearestAwakeCot_29 : decode cX4_nearestAwakeCot 29 = .ok (.ifCond .eq 7, 3) := by decide +kernel
theorem dX4_nearestAwakeCot_32 : decode cX4_nearestAwakeCot 32 = .ok (.iconst 1, 1) := by decide +kernel
theorem dX4_nearestAwakeCot_33 : decode cX4_nearestAwakeCot 33 = .ok (.goto 4, 3) := by decide +kernel
theorem dX4_nearestAwakeCot_36 : decode cX4_nearestAwakeCot 36 = .ok (.iconst 0, 1) := by decide +kernel
theorem dX4_nearestAwakeCot_37 : decode cX4_nearestAwakeCot 37 = .ok (.istore_n 3, 1) := by decide +kernel
theorem dX4_nearestAwakeCot_38 : decode cX4_nearestAwakeCot 38 = .ok (.iload_n 3, 1) := by decide +kernel
theorem dX4_nearestAwakeCot_39 : decode cX4_nearestAwakeCot 39 = .ok (.ifCond .eq 28, 3) := by decide +kernel
theorem dX4_nearestAwakeCot_42 : decode cX4_nearestAwakeCot 42 = .ok (.iload_n 1, 1) := by decide +kernel
theorem dX4_nearestAwakeCot_43 : decode cX4_nearestAwakeCot 43 = .ok (.ifCond .lt 22, 3) := by decide +kernel
theorem dX4_nearestAwakeCot_46 : decode cX4_nearestAwakeCot 46 = .ok (.aload_n 0, 1) := by decide +kernel
theorem dX4_nearestAwakeCot_47 : decode cX4_nearestAwakeCot 47 = .ok (.getfield 21, 3) := by decide +kernel
theorem dX4_nearestAwakeCot_50 : decode cX4_nearestAwakeCot 50 = .ok (.iload_n 2, 1) := by decide +kernel
theorem dX4_nearestAwakeCot_51 : decode cX4_nearestAwakeCot 51 = .ok (.invokestatic 142, 3) := by decide +kernel
theorem dX4_nearestAwakeCot_54 : decode cX4_nearestAwakeCot 54 = .ok (.aload_n 0, 1) := by decide +kernel
theorem dX4_nearestAwakeCot_55 : decode cX4_nearestAwakeCot 55 = .ok (.getfield 21, 3) := by decide +kernel
theorem dX4_nearestAwakeCot_58 : decode cX4_nearestAwakeCot 58 = .ok (.iload_n 1, 1) := by decide +kernel
theorem dX4_nearestAwakeCot_59 : decode cX4_nearestAwakeCot 59 = .ok (.invokestatic 142, 3) := by decide +kernel
theorem dX4_nearestAwakeCot_62 : decode cX4_nearestAwakeCot 62 = .ok (.if_icmp .ge 5, 3) := by decide +kernel
theorem dX4_nearestAwakeCot_65 : decode cX4_nearestAwakeCot 65 = .ok (.iload_n 2, 1) := by decide +kernel
theorem dX4_nearestAwakeCot_66 : decode cX4_nearestAwakeCot 66 = .ok (.istore_n 1, 1) := by decide +kernel
theorem dX4_nearestAwakeCot_67 : decode cX4_nearestAwakeCot 67 = .ok (.iinc 2 1, 3) := by decide +kernel
theorem dX4_nearestAwakeCot_70 : decode cX4_nearestAwakeCot 70 = .ok (.goto (-66), 3) := by decide +kernel
theorem dX4_nearestAwakeCot_73 : decode cX4_nearestAwakeCot 73 = .ok (.iload_n 1, 1) := by decide +kernel
theorem dX4_nearestAwakeCot_74 : decode cX4_nearestAwakeCot 74 = .ok (.ireturn, 1) := by decide +kernel
theorem dX4_pairsOf_0 : decode cX4_pairsOf 0 = .ok (.iconst 0, 1) := by decide +kernel
theorem dX4_pairsOf_1 : decode cX4_pairsOf 1 = .ok (.istore_n 2, 1) := by decide +kernel
theorem dX4_pairsOf_2 : decode cX4_pairsOf 2 = .ok (.iconst 0, 1) := by decide +kernel
theorem dX4_pairsOf_3 : decode cX4_pairsOf 3 = .ok (.istore_n 3, 1) := by decide +kernel
theorem dX4_pairsOf_4 : decode cX4_pairsOf 4 = .ok (.iload_n 3, 1) := by decide +kernel
theorem dX4_pairsOf_5 : decode cX4_pairsOf 5 = .ok (.aload_n 0, 1) := by decide +kernel
theorem dX4_pairsOf_6 : decode cX4_pairsOf 6 = .ok (.getfield 9, 3) := by decide +kernel
theorem dX4_pairsOf_9 : decode cX4_pairsOf 9 = .ok (.if_icmp .ge 90, 3) := by decide +kernel
theorem dX4_pairsOf_12 : decode cX4_pairsOf 12 = .ok (.iload_n 3, 1) := by decide +kernel
theorem dX4_pairsOf_13 : decode cX4_pairsOf 13 = .ok (.iconst 1, 1) := by decide +kernel
theorem dX4_pairsOf_14 : decode cX4_pairsOf 14 = .ok (.iadd, 1) := by decide +kernel
theorem dX4_pairsOf_15 : decode cX4_pairsOf 15 = .ok (.istore 4, 2) := by decide +kernel
theorem dX4_pairsOf_17 : decode cX4_pairsOf 17 = .ok (.iload 4, 2) := by decide +kernel
theorem dX4_pairsOf_19 : decode cX4_pairsOf 19 = .ok (.aload_n 0, 1) := by decide +kernel
theorem dX4_pairsOf_20 : decode cX4_pairsOf 20 = .ok (.getfield 9, 3) := by decide +kernel
theorem dX4_pairsOf_23 : decode cX4_pairsOf 23 = .ok (.if_icmp .ge 70, 3) := by decide +kernel
theorem dX4_pairsOf_26 : decode cX4_pairsOf 26 = .ok (.getstatic 106, 3) := by decide +kernel
theorem dX4_pairsOf_29 : decode cX4_pairsOf 29 = .ok (.aload_n 0, 1) := by decide +kernel
theorem dX4_pairsOf_30 : decode cX4_pairsOf 30 = .ok (.getfield 27, 3) := by decide +kernel
theorem dX4_pairsOf_33 : decode cX4_pairsOf 33 = .ok (.iload_n 3, 1) := by decide +kernel
theorem dX4_pairsOf_34 : decode cX4_pairsOf 34 = .ok (.iaload, 1) := by decide +kernel
theorem dX4_pairsOf_35 : decode cX4_pairsOf 35 = .ok (.iaload, 1) := by decide +kernel
theorem dX4_pairsOf_36 : decode cX4_pairsOf 36 = .ok (.iconst 1, 1) := by decide +kernel
theorem dX4_pairsOf_37 : decode cX4_pairsOf 37 = .ok (.aload_n 0, 1) := by decide +kernel
theorem dX4_pairsOf_38 : decode cX4_pairsOf 38 = .ok (.getfield 27, 3) := by decide +kernel
theorem dX4_pairsOf_41 : decode cX4_pairsOf 41 = .ok (.iload 4, 2) := by decide +kernel
theorem dX4_pairsOf_43 : decode cX4_pairsOf 43 = .ok (.iaload, 1) := by decide +kernel
theorem dX4_pairsOf_44 : decode cX4_pairsOf 44 = .ok (.ishl, 1) := by decide +kernel
theorem dX4_pairsOf_45 : decode cX4_pairsOf 45 = .ok (.iand, 1) := by decide +kernel
theorem dX4_pairsOf_46 : decode cX4_pairsOf 46 = .ok (.ifCond .eq 7, 3) := by decide +kernel
theorem dX4_pairsOf_49 : decode cX4_pairsOf 49 = .ok (.iconst 1, 1) := by decide +kernel
theorem dX4_pairsOf_50 : decode cX4_pairsOf 50 = .ok (.goto 4, 3) := by decide +kernel
theorem dX4_pairsOf_53 : decode cX4_pairsOf 53 = .ok (.iconst 0, 1) := by decide +kernel
theorem dX4_pairsOf_54 : decode cX4_pairsOf 54 = .ok (.istore 5, 2) := by decide +kernel
theorem dX4_pairsOf_56 : decode cX4_pairsOf 56 = .ok (.iload_n 2, 1) := by decide +kernel
theorem dX4_pairsOf_57 : decode cX4_pairsOf 57 = .ok (.iload 5, 2) := by decide +kernel
theorem dX4_pairsOf_59 : decode cX4_pairsOf 59 = .ok (.ifCond .eq 25, 3) := by decide +kernel
theorem dX4_pairsOf_62 : decode cX4_pairsOf 62 = .ok (.aload_n 0, 1) := by decide +kernel
theorem dX4_pairsOf_63 : decode cX4_pairsOf 63 = .ok (.getfield 31, 3) := by decide +kernel
theorem dX4_pairsOf_66 : decode cX4_pairsOf 66 = .ok (.iload_n 3, 1) := by decide +kernel
theorem dX4_pairsOf_67 : decode cX4_pairsOf 67 = .ok (.iaload, 1) := by decide +kernel
theorem dX4_pairsOf_68 : decode cX4_pairsOf 68 = .ok (.aload_n 0, 1) := by decide +kernel
theorem dX4_pairsOf_69 : decode cX4_pairsOf 69 = .ok (.getfield 31, 3) := by decide +kernel
theorem dX4_pairsOf_72 : decode cX4_pairsOf 72 = .ok (.iload 4, 2) := by decide +kernel
theorem dX4_pairsOf_74 : decode cX4_pairsOf 74 = .ok (.iaload, 1) := by decide +kernel
theorem dX4_pairsOf_75 : decode cX4_pairsOf 75 = .ok (.iadd, 1) := by decide +kernel
theorem dX4_pairsOf_76 : decode cX4_pairsOf 76 = .ok (.iload_n 1, 1) := by decide +kernel
theorem dX4_pairsOf_77 : decode cX4_pairsOf 77 = .ok (.if_icmp .lt 7, 3) := by decide +kernel
theorem dX4_pairsOf_80 : decode cX4_pairsOf 80 = .ok (.iconst 1, 1) := by decide +kernel
theorem dX4_pairsOf_81 : decode cX4_pairsOf 81 = .ok (.goto 4, 3) := by decide +kernel
theorem dX4_pairsOf_84 : decode cX4_pairsOf 84 = .ok (.iconst 0, 1) := by decide +kernel
theorem dX4_pairsOf_85 : decode cX4_pairsOf 85 = .ok (.iadd, 1) := by decide +kernel
theorem dX4_pairsOf_86 : decode cX4_pairsOf 86 = .ok (.istore_n 2, 1) := by decide +kernel
theorem dX4_pairsOf_87 : decode cX4_pairsOf 87 = .ok (.iinc 4 1, 3) := by decide +kernel
theorem dX4_pairsOf_90 : decode cX4_pairsOf 90 = .ok (.goto (-73), 3) := by decide +kernel
theorem dX4_pairsOf_93 : decode cX4_pairsOf 93 = .ok (.iinc 3 1, 3) := by decide +kernel
theorem dX4_pairsOf_96 : decode cX4_pairsOf 96 = .ok (.goto (-92), 3) := by decide +kernel
theorem dX4_pairsOf_99 : decode cX4_pairsOf 99 = .ok (.iload_n 2, 1) := by decide +kernel
theorem dX4_pairsOf_100 : decode cX4_pairsOf 100 = .ok (.ireturn, 1) := by decide +kernel
theorem dX4_mostApart_0 : decode cX4_mostApart 0 = .ok (.iconst 0, 1) := by decide +kernel
theorem dX4_mostApart_1 : decode cX4_mostApart 1 = .ok (.istore_n 1, 1) := by decide +kernel
theorem dX4_mostApart_2 : decode cX4_mostApart 2 = .ok (.iconst 0, 1) := by decide +kernel
theorem dX4_mostApart_3 : decode cX4_mostApart 3 = .ok (.istore_n 2, 1) := by decide +kernel
theorem dX4_mostApart_4 : decode cX4_mostApart 4 = .ok (.iload_n 2, 1) := by decide +kernel
theorem dX4_mostApart_5 : decode cX4_mostApart 5 = .ok (.aload_n 0, 1) := by decide +kernel
theorem dX4_mostApart_6 : decode cX4_mostApart 6 = .ok (.getfield 9, 3) := by decide +kernel
theorem dX4_mostApart_9 : decode cX4_mostApart 9 = .ok (.if_icmp .ge 20, 3) := by decide +kernel
theorem dX4_mostApart_12 : decode cX4_mostApart 12 = .ok (.iload_n 1, 1) := by decide +kernel
theorem dX4_mostApart_13 : decode cX4_mostApart 13 = .ok (.iconst 1, 1) := by decide +kernel
theorem dX4_mostApart_14 : decode cX4_mostApart 14 = .ok (.aload_n 0, 1) := by decide +kernel
theorem dX4_mostApart_15 : decode cX4_mostApart 15 = .ok (.getfield 27, 3) := by decide +kernel
theorem dX4_mostApart_18 : decode cX4_mostApart 18 = .ok (.iload_n 2, 1) := by decide +kernel
theorem dX4_mostApart_19 : decode cX4_mostApart 19 = .ok (.iaload, 1) := by decide +kernel
theorem dX4_mostApart_20 : decode cX4_mostApart 20 = .ok (.ishl, 1) := by decide +kernel
theorem dX4_mostApart_21 : decode cX4_mostApart 21 = .ok (.ior, 1) := by decide +kernel
theorem dX4_mostApart_22 : decode cX4_mostApart 22 = .ok (.istore_n 1, 1) := by decide +kernel
theorem dX4_mostApart_23 : decode cX4_mostApart 23 = .ok (.iinc 2 1, 3) := by decide +kernel
theorem dX4_mostApart_26 : decode cX4_mostApart 26 = .ok (.goto (-22), 3) := by decide +kernel
theorem dX4_mostApart_29 : decode cX4_mostApart 29 = .ok (.iconst 0, 1) := by decide +kernel
theorem dX4_mostApart_30 : decode cX4_mostApart 30 = .ok (.istore_n 2, 1) := by decide +kernel
theorem dX4_mostApart_31 : decode cX4_mostApart 31 = .ok (.iconst 1, 1) := by decide +kernel
theorem dX4_mostApart_32 : decode cX4_mostApart 32 = .ok (.istore_n 3, 1) := by decide +kernel
theorem dX4_mostApart_33 : decode cX4_mostApart 33 = .ok (.iload_n 3, 1) := by decide +kernel
theorem dX4_mostApart_34 : decode cX4_mostApart 34 = .ok (.sipush 4096, 3) := by decide +kernel
theorem dX4_mostApart_37 : decode cX4_mostApart 37 = .ok (.if_icmp .ge 49, 3) := by decide +kernel
theorem dX4_mostApart_40 : decode cX4_mostApart 40 = .ok (.iload_n 3, 1) := by decide +kernel
theorem dX4_mostApart_41 : decode cX4_mostApart 41 = .ok (.iload_n 1, 1) := by decide +kernel
theorem dX4_mostApart_42 : decode cX4_mostApart 42 = .ok (.iconst (-1), 1) := by decide +kernel
theorem dX4_mostApart_43 : decode cX4_mostApart 43 = .ok (.ixor, 1) := by decide +kernel
theorem dX4_mostApart_44 : decode cX4_mostApart 44 = .ok (.iand, 1) := by decide +kernel
theorem dX4_mostApart_45 : decode cX4_mostApart 45 = .ok (.ifCond .ne 7, 3) := by decide +kernel
theorem dX4_mostApart_48 : decode cX4_mostApart 48 = .ok (.iconst 1, 1) := by decide +kernel
theorem dX4_mostApart_49 : decode cX4_mostApart 49 = .ok (.goto 4, 3) := by decide +kernel
theorem dX4_mostApart_52 : decode cX4_mostApart 52 = .ok (.iconst 0, 1) := by decide +kernel
theorem dX4_mostApart_53 : decode cX4_mostApart 53 = .ok (.istore 4, 2) := by decide +kernel
theorem dX4_mostApart_55 : decode cX4_mostApart 55 = .ok (.iload 4, 2) := by decide +kernel
theorem dX4_mostApart_57 : decode cX4_mostApart 57 = .ok (.ifCond .eq 23, 3) := by decide +kernel
theorem dX4_mostApart_60 : decode cX4_mostApart 60 = .ok (.iload_n 3, 1) := by decide +kernel
theorem dX4_mostApart_61 : decode cX4_mostApart 61 = .ok (.invokestatic 145, 3) := by decide +kernel
theorem dX4_mostApart_64 : decode cX4_mostApart 64 = .ok (.ifCond .eq 16, 3) := by decide +kernel
theorem dX4_mostApart_67 : decode cX4_mostApart 67 = .ok (.iload_n 3, 1) := by decide +kernel
theorem dX4_mostApart_68 : decode cX4_mostApart 68 = .ok (.invokestatic 101, 3) := by decide +kernel
theorem dX4_mostApart_71 : decode cX4_mostApart 71 = .ok (.iload_n 2, 1) := by decide +kernel
theorem dX4_mostApart_72 : decode cX4_mostApart 72 = .ok (.invokestatic 101, 3) := by decide +kernel
theorem dX4_mostApart_75 : decode cX4_mostApart 75 = .ok (.if_icmp .le 5, 3) := by decide +kernel
theorem dX4_mostApart_78 : decode cX4_mostApart 78 = .ok (.iload_n 3, 1) := by decide +kernel
theorem dX4_mostApart_79 : decode cX4_mostApart 79 = .ok (.istore_n 2, 1) := by decide +kernel
theorem dX4_mostApart_80 : decode cX4_mostApart 80 = .ok (.iinc 3 1, 3) := by decide +kernel
theorem dX4_mostApart_83 : decode cX4_mostApart 83 = .ok (.goto (-50), 3) := by decide +kernel
theorem dX4_mostApart_86 : decode cX4_mostApart 86 = .ok (.iload_n 2, 1) := by decide +kernel
theorem dX4_mostApart_87 : decode cX4_mostApart 87 = .ok (.ireturn, 1) := by decide +kernel
theorem dX4_areApart_0 : decode cX4_areApart 0 = .ok (.bipush 32, 2) := by decide +kernel
theorem dX4_areApart_2 : decode cX4_areApart 2 = .ok (.istore_n 1, 1) := by decide +kernel
theorem dX4_areApart_3 : decode cX4_areApart 3 = .ok (.iload_n 0, 1) := by decide +kernel
theorem dX4_areApart_4 : decode cX4_areApart 4 = .ok (.iload_n 0, 1) := by decide +kernel
theorem dX4_areApart_5 : decode cX4_areApart 5 = .ok (.bipush 6, 2) := by decide +kernel
theorem dX4_areApart_7 : decode cX4_areApart 7 = .ok (.ishr, 1) := by decide +kernel
theorem dX4_areApart_8 : decode cX4_areApart 8 = .ok (.iand, 1) := by decide +kernel
theorem dX4_areApart_9 : decode cX4_areApart 9 = .ok (.ifCond .ne 19, 3) := by decide +kernel
theorem dX4_areApart_12 : decode cX4_areApart 12 = .ok (.iload_n 0, 1) := by decide +kernel
theorem dX4_areApart_13 : decode cX4_areApart 13 = .ok (.iload_n 0, 1) := by decide +kernel
theorem dX4_areApart_14 : decode cX4_areApart 14 = .ok (.iconst 1, 1) := by decide +kernel
theorem dX4_areApart_15 : decode cX4_areApart 15 = .ok (.ishr, 1) := by decide +kernel
theorem dX4_areApart_16 : decode cX4_areApart 16 = .ok (.iand, 1) := by decide +kernel
theorem dX4_areApart_17 : decode cX4_areApart 17 = .ok (.iload_n 1, 1) := by decide +kernel
theorem dX4_areApart_18 : decode cX4_areApart 18 = .ok (.iconst (-1), 1) := by decide +kernel
theorem dX4_areApart_19 : decode cX4_areApart 19 = .ok (.ixor, 1) := by decide +kernel
theorem dX4_areApart_20 : decode cX4_areApart 20 = .ok (.iand, 1) := by decide +kernel
theorem dX4_areApart_21 : decode cX4_areApart 21 = .ok (.ifCond .ne 7, 3) := by decide +kernel
theorem dX4_areApart_24 : decode cX4_areApart 24 = .ok (.iconst 1, 1) := by decide +kernel
theorem dX4_areApart_25 : decode cX4_areApart 25 = .ok (.goto 4, 3) := by decide +kernel
theorem dX4_areApart_28 : decode cX4_areApart 28 = .ok (.iconst 0, 1) := by decide +kernel
theorem dX4_areApart_29 : decode cX4_areApart 29 = .ok (.ireturn, 1) := by decide +kernel
theorem dX5_init_0 : decode cX5_init 0 = .ok (.aload_n 0, 1) := by decide +kernel
theorem dX5_init_1 : decode cX5_init 1 = .ok (.invokespecial 3, 3) := by decide +kernel
theorem dX5_init_4 : decode cX5_init 4 = .ok (.aload_n 0, 1) := by decide +kernel
theorem dX5_init_5 : decode cX5_init 5 = .ok (.iconst 0, 1) := by decide +kernel
theorem dX5_init_6 : decode cX5_init 6 = .ok (.putfield 9, 3) := by decide +kernel
theorem dX5_init_9 : decode cX5_init 9 = .ok (.aload_n 0, 1) := by decide +kernel
theorem dX5_init_10 : decode cX5_init 10 = .ok (.iconst 0, 1) := by decide +kernel
theorem dX5_init_11 : decode cX5_init 11 = .ok (.putfield 15, 3) := by decide +kernel
theorem dX5_init_14 : decode cX5_init 14 = .ok (.aload_n 0, 1) := by decide +kernel
theorem dX5_init_15 : decode cX5_init 15 = .ok (.iconst 0, 1) := by decide +kernel
theorem dX5_init_16 : decode cX5_init 16 = .ok (.putfield 18, 3) := by decide +kernel
theorem dX5_init_19 : decode cX5_init 19 = .ok (.aload_n 0, 1) := by decide +kernel
theorem dX5_init_20 : decode cX5_init 20 = .ok (.bipush 60, 2) := by decide +kernel
theorem dX5_init_22 : decode cX5_init 22 = .ok (.newarray .long, 2) := by decide +kernel
theorem dX5_init_24 : decode cX5_init 24 = .ok (.putfield 21, 3) := by decide +kernel
theorem dX5_init_27 : decode cX5_init 27 = .ok (.aload_n 0, 1) := by decide +kernel
theorem dX5_init_28 : decode cX5_init 28 = .ok (.iconst 0, 1) := by decide +kernel
theorem dX5_init_29 : decode cX5_init 29 = .ok (.putfield 25, 3) := by decide +kernel
theorem dX5_init_32 : decode cX5_init 32 = .ok (.return_, 1) := by decide +kernel
theorem dX5_holdsNothing_0 : decode cX5_holdsNothing 0 = .ok (.aload_n 0, 1) := by decide +kernel
theorem dX5_holdsNothing_1 : decode cX5_holdsNothing 1 = .ok (.getfield 25, 3) := by decide +kernel
theorem dX5_holdsNothing_4 : decode cX5_holdsNothing 4 = .ok (.ifCond .ne 7, 3) := by decide +kernel
theorem dX5_holdsNothing_7 : decode cX5_holdsNothing 7 = .ok (.iconst 1, 1) := by decide +kernel
theorem dX5_holdsNothing_8 : decode cX5_holdsNothing 8 = .ok (.goto 4, 3) := by decide +kernel
theorem dX5_holdsNothing_11 : decode cX5_holdsNothing 11 = .ok (.iconst 0, 1) := by decide +kernel
theorem dX5_holdsNothing_12 : decode cX5_holdsNothing 12 = .ok (.ireturn, 1) := by decide +kernel
theorem dX5_holdsBlade_0 : decode cX5_holdsBlade 0 = .ok (.aload_n 0, 1) := by decide +kernel
theorem dX5_holdsBlade_1 : decode cX5_holdsBlade 1 = .ok (.getfield 25, 3) := by decide +kernel
theorem dX5_holdsBlade_4 : decode cX5_holdsBlade 4 = .ok (.iconst 1, 1) := by decide +kernel
theorem dX5_holdsBlade_5 : decode cX5_holdsBlade 5 = .ok (.if_icmp .ne 7, 3) := by decide +kernel
theorem dX5_holdsBlade_8 : decode cX5_holdsBlade 8 = .ok (.iconst 1, 1) := by decide +kernel
theorem dX5_holdsBlade_9 : decode cX5_holdsBlade 9 = .ok (.goto 4, 3) := by decide +kernel
theorem dX5_holdsBlade_12 : decode cX5_holdsBlade 12 = .ok (.iconst 0, 1) := by decide +kernel
theorem dX5_holdsBlade_13 : decode cX5_holdsBlade 13 = .ok (.ireturn, 1) := by decide +kernel
theorem dX5_holdsRow_0 : decode cX5_holdsRow 0 = .ok (.aload_n 0, 1) := by decide +kernel
theorem dX5_holdsRow_1 : decode cX5_holdsRow 1 = .ok (.getfield 25, 3) := by decide +kernel
theorem dX5_holdsRow_4 : decode cX5_holdsRow 4 = .ok (.iconst 2, 1) := by decide +kernel
theorem dX5_holdsRow_5 : decode cX5_holdsRow 5 = .ok (.if_icmp .ne 7, 3) := by decide +kernel
theorem dX5_holdsRow_8 : decode cX5_holdsRow 8 = .ok (.iconst 1, 1) := by decide +kernel
theorem dX5_holdsRow_9 : decode cX5_holdsRow 9 = .ok (.goto 4, 3) := by decide +kernel
theorem dX5_holdsRow_12 : decode cX5_holdsRow 12 = .ok (.iconst 0, 1) := by decide +kernel
theorem dX5_holdsRow_13 : decode cX5_holdsRow 13 = .ok (.ireturn, 1) := by decide +kernel
theorem dX5_holdsBytes_0 : decode cX5_holdsBytes 0 = .ok (.aload_n 0, 1) := by decide +kernel
theorem dX5_holdsBytes_1 : decode cX5_holdsBytes 1 = .ok (.getfield 25, 3) := by decide +kernel
theorem dX5_holdsBytes_4 : decode cX5_holdsBytes 4 = .ok (.iconst 2, 1) := by decide +kernel
theorem dX5_holdsBytes_5 : decode cX5_holdsBytes 5 = .ok (.if_icmp .ne 14, 3) := by decide +kernel
theorem dX5_holdsBytes_8 : decode cX5_holdsBytes 8 = .ok (.aload_n 0, 1) := by decide +kernel
theorem dX5_holdsBytes_9 : decode cX5_holdsBytes 9 = .ok (.getfield 15, 3) := by decide +kernel
theorem dX5_holdsBytes_12 : decode cX5_holdsBytes 12 = .ok (.ifCond .ne 7, 3) := by decide +kernel
theorem dX5_holdsBytes_15 : decode cX5_holdsBytes 15 = .ok (.iconst 1, 1) := by decide +kernel
theorem dX5_holdsBytes_16 : decode cX5_holdsBytes 16 = .ok (.goto 4, 3) := by decide +kernel
theorem dX5_holdsBytes_19 : decode cX5_holdsBytes 19 = .ok (.iconst 0, 1) := by decide +kernel
theorem dX5_holdsBytes_20 : decode cX5_holdsBytes 20 = .ok (.ireturn, 1) := by decide +kernel
theorem dX5_clear_0 : decode cX5_clear 0 = .ok (.aload_n 0, 1) := by decide +kernel
theorem dX5_clear_1 : decode cX5_clear 1 = .ok (.iconst 0, 1) := by decide +kernel
theorem dX5_clear_2 : decode cX5_clear 2 = .ok (.putfield 25, 3) := by decide +kernel
theorem dX5_clear_5 : decode cX5_clear 5 = .ok (.return_, 1) := by decide +kernel
theorem dX5_holdBlade_0 : decode cX5_holdBlade 0 = .ok (.aload_n 0, 1) := by decide +kernel
theorem dX5_holdBlade_1 : decode cX5_holdBlade 1 = .ok (.iconst 1, 1) := by decide +kernel
theorem dX5_holdBlade_2 : decode cX5_holdBlade 2 = .ok (.putfield 25, 3) := by decide +kernel
theorem dX5_holdBlade_5 : decode cX5_holdBlade 5 = .ok (.aload_n 0, 1) := by decide +kernel
theorem dX5_holdBlade_6 : decode cX5_holdBlade 6 = .ok (.iload_n 1, 1) := by decide +kernel
theorem dX5_holdBlade_7 : decode cX5_holdBlade 7 = .ok (.putfield 9, 3) := by decide +kernel
theorem dX5_holdBlade_10 : decode cX5_holdBlade 10 = .ok (.return_, 1) := by decide +kernel
theorem dX5_holdRow_0 : decode cX5_holdRow 0 = .ok (.aload_n 0, 1) := by decide +kernel
theorem dX5_holdRow_1 : decode cX5_holdRow 1 = .ok (.iconst 2, 1) := by decide +kernel
theorem dX5_holdRow_2 : decode cX5_holdRow 2 = .ok (.putfield 25, 3) := by decide +kernel
theorem dX5_holdRow_5 : decode cX5_holdRow 5 = .ok (.aload_n 0, 1) := by decide +kernel
theorem dX5_holdRow_6 : decode cX5_holdRow 6 = .ok (.iload_n 1, 1) := by decide +kernel
theorem dX5_holdRow_7 : decode cX5_holdRow 7 = .ok (.putfield 15, 3) := by decide +kernel
theorem dX5_holdRow_10 : decode cX5_holdRow 10 = .ok (.aload_n 0, 1) := by decide +kernel
theorem dX5_holdRow_11 : decode cX5_holdRow 11 = .ok (.iload_n 2, 1) := by decide +kernel
theorem dX5_holdRow_12 : decode cX5_holdRow 12 = .ok (.putfield 18, 3) := by decide +kernel
theorem dX5_holdRow_15 : decode cX5_holdRow 15 = .ok (.iconst 0, 1) := by decide +kernel
theorem dX5_holdRow_16 : decode cX5_holdRow 16 = .ok (.istore_n 3, 1) := by decide +kernel
theorem dX5_holdRow_17 : decode cX5_holdRow 17 = .ok (.iload_n 3, 1) := by decide +kernel
theorem dX5_holdRow_18 : decode cX5_holdRow 18 = .ok (.bipush 60, 2) := by decide +kernel
theorem dX5_holdRow_20 : decode cX5_holdRow 20 = .ok (.if_icmp .ge 16, 3) := by decide +kernel
theorem dX5_holdRow_23 : decode cX5_holdRow 23 = .ok (.aload_n 0, 1) := by decide +kernel
theorem dX5_holdRow_24 : decode cX5_holdRow 24 = .ok (.getfield 21, 3) := by decide +kernel
theorem dX5_holdRow_27 : decode cX5_holdRow 27 = .ok (.iload_n 3, 1) := by decide +kernel
theorem dX5_holdRow_28 : decode cX5_holdRow 28 = .ok (.lconst 0, 1) := by decide +kernel
theorem dX5_holdRow_29 : decode cX5_holdRow 29 = .ok (.lastore, 1) := by decide +kernel
theorem dX5_holdRow_30 : decode cX5_holdRow 30 = .ok (.iinc 3 1, 3) := by decide +kernel
theorem dX5_holdRow_33 : decode cX5_holdRow 33 = .ok (.goto (-16), 3) := by decide +kernel
theorem dX5_holdRow_36 : decode cX5_holdRow 36 = .ok (.return_, 1) := by decide +kernel
theorem dX5_hasPlaces_0 : decode cX5_hasPlaces 0 = .ok (.iload_n 1, 1) := by decide +kernel
theorem dX5_hasPlaces_1 : decode cX5_hasPlaces 1 = .ok (.ifCond .lt 25, 3) := by decide +kernel
theorem dX5_hasPlaces_4 : decode cX5_hasPlaces 4 = .ok (.iload_n 2, 1) := by decide +kernel
theorem dX5_hasPlaces_5 : decode cX5_hasPlaces 5 = .ok (.ifCond .lt 21, 3) := by decide +kernel
theorem dX5_hasPlaces_8 : decode cX5_hasPlaces 8 = .ok (.iload_n 1, 1) := by decide +kernel
theorem dX5_hasPlaces_9 : decode cX5_hasPlaces 9 = .ok (.i2l, 1) := by decide +kernel
theorem dX5_hasPlaces_10 : decode cX5_hasPlaces 10 = .ok (.iload_n 2, 1) := by decide +kernel
theorem dX5_hasPlaces_11 : decode cX5_hasPlaces 11 = .ok (.i2l, 1) := by decide +kernel
theorem dX5_hasPlaces_12 : decode cX5_hasPlaces 12 = .ok (.ladd, 1) := by decide +kernel
theorem dX5_hasPlaces_13 : decode cX5_hasPlaces 13 = .ok (.aload_n 0, 1) := by decide +kernel
theorem dX5_hasPlaces_14 : decode cX5_hasPlaces 14 = .ok (.getfield 18, 3) := by decide +kernel
theorem dX5_hasPlaces_17 : decode cX5_hasPlaces 17 = .ok (.i2l, 1) := by decide +kernel
theorem dX5_hasPlaces_18 : decode cX5_hasPlaces 18 = .ok (.lcmp, 1) := by decide +kernel
theorem dX5_hasPlaces_19 : decode cX5_hasPlaces 19 = .ok (.ifCond .gt 7, 3) := by decide +kernel
theorem dX5_hasPlaces_22 : decode cX5_hasPlaces 22 = .ok (.iconst 1, 1) := by decide +kernel
theorem dX5_hasPlaces_23 : decode cX5_hasPlaces 23 = .ok (.goto 4, 3) := by decide +kernel
theorem dX5_hasPlaces_26 : decode cX5_hasPlaces 26 = .ok (.iconst 0, 1) := by decide +kernel
theorem dX5_hasPlaces_27 : decode cX5_hasPlaces 27 = .ok (.ireturn, 1) := by decide +kernel
theorem dX5_store_0 : decode cX5_store 0 = .ok (.aload_n 0, 1) := by decide +kernel
theorem dX5_store_1 : decode cX5_store 1 = .ok (.getfield 15, 3) := by decide +kernel
theorem dX5_store_4 : decode cX5_store 4 = .ok (.tableswitch 80 0 3 #[32, 45, 58, 70], 32) := by decide +kernel
theorem dX5_store_36 : decode cX5_store 36 = .ok (.aload_n 0, 1) := by decide +kernel
theorem dX5_store_37 : decode cX5_store 37 = .ok (.getfield 21, 3) := by decide +kernel
theorem dX5_store_40 : decode cX5_store 40 = .ok (.iload_n 1, 1) := by decide +kernel
theorem dX5_store_41 : decode cX5_store 41 = .ok (.lload_n 2, 1) := by decide +kernel
theorem dX5_store_42 : decode cX5_store 42 = .ok (.l2i, 1) := by decide +kernel
theorem dX5_store_43 : decode cX5_store 43 = .ok (.i2b, 1) := by decide +kernel
theorem dX5_store_44 : decode cX5_store 44 = .ok (.i2l, 1) := by decide +kernel
theorem dX5_store_45 : decode cX5_store 45 = .ok (.lastore, 1) := by decide +kernel
theorem dX5_store_46 : decode cX5_store 46 = .ok (.goto 55, 3) := by decide +kernel
theorem dX5_store_49 : decode cX5_store 49 = .ok (.aload_n 0, 1) := by decide +kernel
theorem dX5_store_50 : decode cX5_store 50 = .ok (.getfield 21, 3) := by decide +kernel
theorem dX5_store_53 : decode cX5_store 53 = .ok (.iload_n 1, 1) := by decide +kernel
theorem dX5_store_54 : decode cX5_store 54 = .ok (.lload_n 2, 1) := by decide +kernel
theorem dX5_store_55 : decode cX5_store 55 = .ok (.l2i, 1) := by decide +kernel
theorem dX5_store_56 : decode cX5_store 56 = .ok (.i2s, 1) := by decide +kernel
theorem dX5_store_57 : decode cX5_store 57 = .ok (.i2l, 1) := by decide +kernel
theorem dX5_store_58 : decode cX5_store 58 = .ok (.lastore, 1) := by decide +kernel
theorem dX5_store_59 : decode cX5_store 59 = .ok (.goto 42, 3) := by decide +kernel
theorem dX5_store_62 : decode cX5_store 62 = .ok (.aload_n 0, 1) := by decide +kernel
theorem dX5_store_63 : decode cX5_store 63 = .ok (.getfield 21, 3) := by decide +kernel
theorem dX5_store_66 : decode cX5_store 66 = .ok (.iload_n 1, 1) := by decide +kernel
theorem dX5_store_67 : decode cX5_store 67 = .ok (.lload_n 2, 1) := by decide +kernel
theorem dX5_store_68 : decode cX5_store 68 = .ok (.l2i, 1) := by decide +kernel
theorem dX5_store_69 : decode cX5_store 69 = .ok (.i2l, 1) := by decide +kernel
theorem dX5_store_70 : decode cX5_store 70 = .ok (.lastore, 1) := by decide +kernel
theorem dX5_store_71 : decode cX5_store 71 = .ok (.goto 30, 3) := by decide +kernel
theorem dX5_store_74 : decode cX5_store 74 = .ok (.aload_n 0, 1) := by decide +kernel
theorem dX5_store_75 : decode cX5_store 75 = .ok (.getfield 21, 3) := by decide +kernel
theorem dX5_store_78 : decode cX5_store 78 = .ok (.iload_n 1, 1) := by decide +kernel
theorem dX5_store_79 : decode cX5_store 79 = .ok (.lload_n 2, 1) := by decide +kernel
theorem dX5_store_80 : decode cX5_store 80 = .ok (.lastore, 1) := by decide +kernel
theorem dX5_store_81 : decode cX5_store 81 = .ok (.goto 20, 3) := by decide +kernel
theorem dX5_store_84 : decode cX5_store 84 = .ok (.aload_n 0, 1) := by decide +kernel
theorem dX5_store_85 : decode cX5_store 85 = .ok (.getfield 21, 3) := by decide +kernel
theorem dX5_store_88 : decode cX5_store 88 = .ok (.iload_n 1, 1) := by decide +kernel
theorem dX5_store_89 : decode cX5_store 89 = .ok (.lload_n 2, 1) := by decide +kernel
theorem dX5_store_90 : decode cX5_store 90 = .ok (.lconst 0, 1) := by decide +kernel
theorem dX5_store_91 : decode cX5_store 91 = .ok (.lcmp, 1) := by decide +kernel
theorem dX5_store_92 : decode cX5_store 92 = .ok (.ifCond .eq 7, 3) := by decide +kernel
theorem dX5_store_95 : decode cX5_store 95 = .ok (.lconst 1, 1) := by decide +kernel
theorem dX5_store_96 : decode cX5_store 96 = .ok (.goto 4, 3) := by decide +kernel
theorem dX5_store_99 : decode cX5_store 99 = .ok (.lconst 0, 1) := by decide +kernel
theorem dX5_store_100 : decode cX5_store 100 = .ok (.lastore, 1) := by decide +kernel
theorem dX5_store_101 : decode cX5_store 101 = .ok (.return_, 1) := by decide +kernel
theorem dX5_byteAt_0 : decode cX5_byteAt 0 = .ok (.aload_n 0, 1) := by decide +kernel
theorem dX5_byteAt_1 : decode cX5_byteAt 1 = .ok (.iload_n 1, 1) := by decide +kernel
theorem dX5_byteAt_2 : decode cX5_byteAt 2 = .ok (.iconst 1, 1) := by decide +kernel
theorem dX5_byteAt_3 : decode cX5_byteAt 3 = .ok (.invokevirtual 28, 3) := by decide +kernel
theorem dX5_byteAt_6 : decode cX5_byteAt 6 = .ok (.ifCond .eq 13, 3) := by decide +kernel
theorem dX5_byteAt_9 : decode cX5_byteAt 9 = .ok (.aload_n 0, 1) := by decide +kernel
theorem dX5_byteAt_10 : decode cX5_byteAt 10 = .ok (.getfield 21, 3) := by decide +kernel
theorem dX5_byteAt_13 : decode cX5_byteAt 13 = .ok (.iload_n 1, 1) := by decide +kernel
theorem dX5_byteAt_14 : decode cX5_byteAt 14 = .ok (.laload, 1) := by decide +kernel
theorem dX5_byteAt_15 : decode cX5_byteAt 15 = .ok (.l2i, 1) := by decide +kernel
theorem dX5_byteAt_16 : decode cX5_byteAt 16 = .ok (.goto 4, 3) := by decide +kernel
theorem dX5_byteAt_19 : decode cX5_byteAt 19 = .ok (.iconst (-1), 1) := by decide +kernel
theorem dX5_byteAt_20 : decode cX5_byteAt 20 = .ok (.ireturn, 1) := by decide +kernel
theorem dX5_hours_0 : decode cX5_hours 0 = .ok (.iconst 0, 1) := by decide +kernel
theorem dX5_hours_1 : decode cX5_hours 1 = .ok (.istore_n 1, 1) := by decide +kernel
theorem dX5_hours_2 : decode cX5_hours 2 = .ok (.iload_n 1, 1) := by decide +kernel
theorem dX5_hours_3 : decode cX5_hours 3 = .ok (.bipush 24, 2) := by decide +kernel
theorem dX5_hours_5 : decode cX5_hours 5 = .ok (.if_icmp .ge 30, 3) := by decide +kernel
theorem dX5_hours_8 : decode cX5_hours 8 = .ok (.iload_n 1, 1) := by decide +kernel
theorem dX5_hours_9 : decode cX5_hours 9 = .ok (.aload_n 0, 1) := by decide +kernel
theorem dX5_hours_10 : decode cX5_hours 10 = .ok (.getfield 18, 3) := by decide +kernel
theorem dX5_hours_13 : decode cX5_hours 13 = .ok (.if_icmp .ge 22, 3) := by decide +kernel
theorem dX5_hours_16 : decode cX5_hours 16 = .ok (.aload_n 0, 1) := by decide +kernel
theorem dX5_hours_17 : decode cX5_hours 17 = .ok (.getfield 21, 3) := by decide +kernel
theorem dX5_hours_20 : decode cX5_hours 20 = .ok (.iload_n 1, 1) := by decide +kernel
theorem dX5_hours_21 : decode cX5_hours 21 = .ok (.laload, 1) := by decide +kernel
theorem dX5_hours_22 : decode cX5_hours 22 = .ok (.l2i, 1) := by decide +kernel
theorem dX5_hours_23 : decode cX5_hours 23 = .ok (.invokestatic 32, 3) := by decide +kernel
theorem dX5_hours_26 : decode cX5_hours 26 = .ok (.ifCond .eq 9, 3) := by decide +kernel
theorem dX5_hours_29 : decode cX5_hours 29 = .ok (.iinc 1 1, 3) := by decide +kernel
theorem dX5_hours_32 : decode cX5_hours 32 = .ok (.goto (-30), 3) := by decide +kernel
theorem dX5_hours_35 : decode cX5_hours 35 = .ok (.iload_n 1, 1) := by decide +kernel
theorem dX5_hours_36 : decode cX5_hours 36 = .ok (.ireturn, 1) := by decide +kernel
theorem dX6_init_0 : decode cX6_init 0 = .ok (.aload_n 0, 1) := by decide +kernel
theorem dX6_init_1 : decode cX6_init 1 = .ok (.invokespecial 1, 3) := by decide +kernel
theorem dX6_init_4 : decode cX6_init 4 = .ok (.aload_n 0, 1) := by decide +kernel
theorem dX6_init_5 : decode cX6_init 5 = .ok (.iconst 0, 1) := by decide +kernel
theorem dX6_init_6 : decode cX6_init 6 = .ok (.putfield 7, 3) := by decide +kernel
theorem dX6_init_9 : decode cX6_init 9 = .ok (.aload_n 0, 1) := by decide +kernel
theorem dX6_init_10 : decode cX6_init 10 = .ok (.new 13, 3) := by decide +kernel
theorem dX6_init_13 : decode cX6_init 13 = .ok (.dup, 1) := by decide +kernel
theorem dX6_init_14 : decode cX6_init 14 = .ok (.invokespecial 15, 3) := by decide +kernel
theorem dX6_init_17 : decode cX6_init 17 = .ok (.putfield 16, 3) := by decide +kernel
theorem dX6_init_20 : decode cX6_init 20 = .ok (.aload_n 0, 1) := by decide +kernel
theorem dX6_init_21 : decode cX6_init 21 = .ok (.bipush 120, 2) := by decide +kernel
theorem dX6_init_23 : decode cX6_init 23 = .ok (.newarray .int, 2) := by decide +kernel
theorem dX6_init_25 : decode cX6_init 25 = .ok (.putfield 20, 3) := by decide +kernel
theorem dX6_init_28 : decode cX6_init 28 = .ok (.aload_n 0, 1) := by decide +kernel
theorem dX6_init_29 : decode cX6_init 29 = .ok (.iconst 0, 1) := by decide +kernel
theorem dX6_init_30 : decode cX6_init 30 = .ok (.putfield 24, 3) := by decide +kernel
theorem dX6_init_33 : decode cX6_init 33 = .ok (.aload_n 0, 1) := by decide +kernel
theorem dX6_init_34 : decode cX6_init 34 = .ok (.iconst (-1), 1) := by decide +kernel
theorem dX6_init_35 : decode cX6_init 35 = .ok (.putfield 27, 3) := by decide +kernel
theorem dX6_init_38 : decode cX6_init 38 = .ok (.return_, 1) := by decide +kernel
theorem dX6_add_0 : decode cX6_add 0 = .ok (.aload_n 0, 1) := by decide +kernel
theorem dX6_add_1 : decode cX6_add 1 = .ok (.getfield 7, 3) := by decide +kernel
theorem dX6_add_4 : decode cX6_add 4 = .ok (.bipush 120, 2) := by decide +kernel
theorem dX6_add_6 : decode cX6_add 6 = .ok (.if_icmp .lt 5, 3) := by decide +kernel
theorem dX6_add_9 : decode cX6_add 9 = .ok (.iconst 0, 1) := by decide +kernel
theorem dX6_add_10 : decode cX6_add 10 = .ok (.ireturn, 1) := by decide +kernel
theorem dX6_add_11 : decode cX6_add 11 = .ok (.aload_n 0, 1) := by decide +kernel
theorem dX6_add_12 : decode cX6_add 12 = .ok (.getfield 20, 3) := by decide +kernel
theorem dX6_add_15 : decode cX6_add 15 = .ok (.aload_n 0, 1) := by decide +kernel
theorem dX6_add_16 : decode cX6_add 16 = .ok (.dup, 1) := by decide +kernel
theorem dX6_add_17 : decode cX6_add 17 = .ok (.getfield 7, 3) := by decide +kernel
theorem dX6_add_20 : decode cX6_add 20 = .ok (.dup_x1, 1) := by decide +kernel
theorem dX6_add_21 : decode cX6_add 21 = .ok (.iconst 1, 1) := by decide +kernel
theorem dX6_add_22 : decode cX6_add 22 = .ok (.iadd, 1) := by decide +kernel
theorem dX6_add_23 : decode cX6_add 23 = .ok (.putfield 7, 3) := by decide +kernel
theorem dX6_add_26 : decode cX6_add 26 = .ok (.iload_n 1, 1) := by decide +kernel
theorem dX6_add_27 : decode cX6_add 27 = .ok (.iastore, 1) := by decide +kernel
theorem dX6_add_28 : decode cX6_add 28 = .ok (.iconst 1, 1) := by decide +kernel
theorem dX6_add_29 : decode cX6_add 29 = .ok (.ireturn, 1) := by decide +kernel
theorem dX6_read_0 : decode cX6_read 0 = .ok (.aload_n 0, 1) := by decide +kernel
theorem dX6_read_1 : decode cX6_read 1 = .ok (.iconst 0, 1) := by decide +kernel
theorem dX6_read_2 : decode cX6_read 2 = .ok (.putfield 24, 3) := by decide +kernel
theorem dX6_read_5 : decode cX6_read 5 = .ok (.aload_n 0, 1) := by decide +kernel
theorem dX6_read_6 : decode cX6_read 6 = .ok (.iconst (-1), 1) := by decide +kernel
theorem dX6_read_7 : decode cX6_read 7 = .ok (.putfield 27, 3) := by decide +kernel
theorem dX6_read_10 : decode cX6_read 10 = .ok (.aload_n 0, 1) := by decide +kernel
theorem dX6_read_11 : decode cX6_read 11 = .ok (.getfield 16, 3) := by decide +kernel
theorem dX6_read_14 : decode cX6_read 14 = .ok (.iconst 0, 1) := by decide +kernel
theorem dX6_read_15 : decode cX6_read 15 = .ok (.putfield 30, 3) := by decide +kernel
theorem dX6_read_18 : decode cX6_read 18 = .ok (.aload_n 0, 1) := by decide +kernel
theorem dX6_read_19 : decode cX6_read 19 = .ok (.invokevirtual 31, 3) := by decide +kernel
theorem dX6_read_22 : decode cX6_read 22 = .ok (.iconst 0, 1) := by decide +kernel
theorem dX6_read_23 : decode cX6_read 23 = .ok (.istore_n 1, 1) := by decide +kernel
theorem dX6_read_24 : decode cX6_read 24 = .ok (.iload_n 1, 1) := by decide +kernel
theorem dX6_read_25 : decode cX6_read 25 = .ok (.bipush 120, 2) := by decide +kernel
theorem dX6_read_27 : decode cX6_read 27 = .ok (.if_icmp .ge 32, 3) := by decide +kernel
theorem dX6_read_30 : decode cX6_read 30 = .ok (.aload_n 0, 1) := by decide +kernel
theorem dX6_read_31 : decode cX6_read 31 = .ok (.invokevirtual 34, 3) := by decide +kernel
theorem dX6_read_34 : decode cX6_read 34 = .ok (.bipush 59, 2) := by decide +kernel
theorem dX6_read_36 : decode cX6_read 36 = .ok (.if_icmp .ne 23, 3) := by decide +kernel
theorem dX6_read_39 : decode cX6_read 39 = .ok (.aload_n 0, 1) := by decide +kernel
theorem dX6_read_40 : decode cX6_read 40 = .ok (.dup, 1) := by decide +kernel
theorem dX6_read_41 : decode cX6_read 41 = .ok (.getfield 24, 3) := by decide +kernel
theorem dX6_read_44 : decode cX6_read 44 = .ok (.iconst 1, 1) := by decide +kernel
theorem dX6_read_45 : decode cX6_read 45 = .ok (.iadd, 1) := by decide +kernel
theorem dX6_read_46 : decode cX6_read 46 = .ok (.putfield 24, 3) := by decide +kernel
theorem dX6_read_49 : decode cX6_read 49 = .ok (.aload_n 0, 1) := by decide +kernel
theorem dX6_read_50 : decode cX6_read 50 = .ok (.invokevirtual 31, 3) := by decide +kernel
theorem dX6_read_53 : decode cX6_read 53 = .ok (.iinc 1 1, 3) := by decide +kernel
theorem dX6_read_56 : decode cX6_read 56 = .ok (.goto (-32), 3) := by decide +kernel
theorem dX6_read_59 : decode cX6_read 59 = .ok (.aload_n 0, 1) := by decide +kernel
theorem dX6_read_60 : decode cX6_read 60 = .ok (.getfield 24, 3) := by decide +kernel
theorem dX6_read_63 : decode cX6_read 63 = .ok (.aload_n 0, 1) := by decide +kernel
theorem dX6_read_64 : decode cX6_read 64 = .ok (.getfield 7, 3) := by decide +kernel
theorem dX6_read_67 : decode cX6_read 67 = .ok (.if_icmp .ge 7, 3) := by decide +kernel
theorem dX6_read_70 : decode cX6_read 70 = .ok (.aload_n 0, 1) := by decide +kernel
theorem dX6_read_71 : decode cX6_read 71 = .ok (.invokevirtual 38, 3) := by decide +kernel
theorem dX6_read_74 : decode cX6_read 74 = .ok (.aload_n 0, 1) := by decide +kernel
theorem dX6_read_75 : decode cX6_read 75 = .ok (.getfield 27, 3) := by decide +kernel
theorem dX6_read_78 : decode cX6_read 78 = .ok (.ireturn, 1) := by decide +kernel
theorem dX6_next_0 : decode cX6_next 0 = .ok (.aload_n 0, 1) := by decide +kernel
theorem dX6_next_1 : decode cX6_next 1 = .ok (.getfield 27, 3) := by decide +kernel
theorem dX6_next_4 : decode cX6_next 4 = .ok (.ifCond .ge 32, 3) := by decide +kernel
theorem dX6_next_7 : decode cX6_next 7 = .ok (.aload_n 0, 1) := by decide +kernel
theorem dX6_next_8 : decode cX6_next 8 = .ok (.getfield 24, 3) := by decide +kernel
theorem dX6_next_11 : decode cX6_next 11 = .ok (.iconst 0, 1) := by decide +kernel
theorem dX6_next_12 : decode cX6_next 12 = .ok (.aload_n 0, 1) := by decide +kernel
theorem dX6_next_13 : decode cX6_next 13 = .ok (.getfield 7, 3) := by decide +kernel
theorem dX6_next_16 : decode cX6_next 16 = .ok (.iconst 1, 1) := by decide +kernel
theorem dX6_next_17 : decode cX6_next 17 = .ok (.isub, 1) := by decide +kernel
theorem dX6_next_18 : decode cX6_next 18 = .ok (.invokestatic 41, 3) := by decide +kernel
theorem dX6_next_21 : decode cX6_next 21 = .ok (.ifCond .eq 15, 3) := by decide +kernel
theorem dX6_next_24 : decode cX6_next 24 = .ok (.aload_n 0, 1) := by decide +kernel
theorem dX6_next_25 : decode cX6_next 25 = .ok (.getfield 20, 3) := by decide +kernel
theorem dX6_next_28 : decode cX6_next 28 = .ok (.aload_n 0, 1) := by decide +kernel
theorem dX6_next_29 : decode cX6_next 29 = .ok (.getfield 24, 3) := by decide +kernel
theorem dX6_next_32 : decode cX6_next 32 = .ok (.iaload, 1) := by decide +kernel
theorem dX6_next_33 : decode cX6_next 33 = .ok (.goto 4, 3) := by decide +kernel
theorem dX6_next_36 : decode cX6_next 36 = .ok (.iconst (-1), 1) := by decide +kernel
theorem dX6_next_37 : decode cX6_next 37 = .ok (.ireturn, 1) := by decide +kernel
theorem dX6_noteFault_0 : decode cX6_noteFault 0 = .ok (.aload_n 0, 1) := by decide +kernel
theorem dX6_noteFault_1 : decode cX6_noteFault 1 = .ok (.getfield 27, 3) := by decide +kernel
theorem dX6_noteFault_4 : decode cX6_noteFault 4 = .ok (.ifCond .ge 11, 3) := by decide +kernel
theorem dX6_noteFault_7 : decode cX6_noteFault 7 = .ok (.aload_n 0, 1) := by decide +kernel
theorem dX6_noteFault_8 : decode cX6_noteFault 8 = .ok (.aload_n 0, 1) := by decide +kernel
theorem dX6_noteFault_9 : decode cX6_noteFault 9 = .ok (.getfield 24, 3) := by decide +kernel
theorem dX6_noteFault_12 : decode cX6_noteFault 12 = .ok (.putfield 27, 3) := by decide +kernel
theorem dX6_noteFault_15 : decode cX6_noteFault 15 = .ok (.return_, 1) := by decide +kernel
theorem dX6_readLine_0 : decode cX6_readLine 0 = .ok (.aload_n 0, 1) := by decide +kernel
theorem dX6_readLine_1 : decode cX6_readLine 1 = .ok (.iconst 0, 1) := by decide +kernel
theorem dX6_readLine_2 : decode cX6_readLine 2 = .ok (.invokevirtual 47, 3) := by decide +kernel
theorem dX6_readLine_5 : decode cX6_readLine 5 = .ok (.iconst (-1), 1) := by decide +kernel
theorem dX6_readLine_6 : decode cX6_readLine 6 = .ok (.istore_n 1, 1) := by decide +kernel
theorem dX6_readLine_7 : decode cX6_readLine 7 = .ok (.aload_n 0, 1) := by decide +kernel
theorem dX6_readLine_8 : decode cX6_readLine 8 = .ok (.invokevirtual 34, 3) := by decide +kernel
theorem dX6_readLine_11 : decode cX6_readLine 11 = .ok (.bipush 63, 2) := by decide +kernel
theorem dX6_readLine_13 : decode cX6_readLine 13 = .ok (.if_icmp .ne 36, 3) := by decide +kernel
theorem dX6_readLine_16 : decode cX6_readLine 16 = .ok (.aload_n 0, 1) := by decide +kernel
theorem dX6_readLine_17 : decode cX6_readLine 17 = .ok (.dup, 1) := by decide +kernel
theorem dX6_readLine_18 : decode cX6_readLine 18 = .ok (.getfield 24, 3) := by decide +kernel
theorem dX6_readLine_21 : decode cX6_readLine 21 = .ok (.iconst 1, 1) := by decide +kernel
theorem dX6_readLine_22 : decode cX6_readLine 22 = .ok (.iadd, 1) := by decide +kernel
theorem dX6_readLine_23 : decode cX6_readLine 23 = .ok (.putfield 24, 3) := by decide +kernel
theorem dX6_readLine_26 : decode cX6_readLine 26 = .ok (.aload_n 0, 1) := by decide +kernel
theorem dX6_readLine_27 : decode cX6_readLine 27 = .ok (.getfield 16, 3) := by decide +kernel
theorem dX6_readLine_30 : decode cX6_readLine 30 = .ok (.getfield 30, 3) := by decide +kernel
theorem dX6_readLine_33 : decode cX6_readLine 33 = .ok (.istore_n 1, 1) := by decide +kernel
theorem dX6_readLine_34 : decode cX6_readLine 34 = .ok (.aload_n 0, 1) := by decide +kernel
theorem dX6_readLine_35 : decode cX6_readLine 35 = .ok (.getfield 16, 3) := by decide +kernel
theorem dX6_readLine_38 : decode cX6_readLine 38 = .ok (.bipush 63, 2) := by decide +kernel
theorem dX6_readLine_40 : decode cX6_readLine 40 = .ok (.iconst 0, 1) := by decide +kernel
theorem dX6_readLine_41 : decode cX6_readLine 41 = .ok (.invokevirtual 51, 3) := by decide +kernel
theorem dX6_readLine_44 : decode cX6_readLine 44 = .ok (.aload_n 0, 1) := by decide +kernel
theorem dX6_readLine_45 : decode cX6_readLine 45 = .ok (.iconst 0, 1) := by decide +kernel
theorem dX6_readLine_46 : decode cX6_readLine 46 = .ok (.invokevirtual 47, 3) := by decide +kernel
theorem dX6_readLine_49 : decode cX6_readLine 49 = .ok (.iload_n 1, 1) := by decide +kernel
theorem dX6_readLine_50 : decode cX6_readLine 50 = .ok (.iconst 0, 1) := by decide +kernel
theorem dX6_readLine_51 : decode cX6_readLine 51 = .ok (.bipush 127, 2) := by decide +kernel
theorem dX6_readLine_53 : decode cX6_readLine 53 = .ok (.invokestatic 41, 3) := by decide +kernel
theorem dX6_readLine_56 : decode cX6_readLine 56 = .ok (.ifCond .eq 19, 3) := by decide +kernel
theorem dX6_readLine_59 : decode cX6_readLine 59 = .ok (.aload_n 0, 1) := by decide +kernel
theorem dX6_readLine_60 : decode cX6_readLine 60 = .ok (.getfield 16, 3) := by decide +kernel
theorem dX6_readLine_63 : decode cX6_readLine 63 = .ok (.getfield 55, 3) := by decide +kernel
theorem dX6_readLine_66 : decode cX6_readLine 66 = .ok (.iload_n 1, 1) := by decide +kernel
theorem dX6_readLine_67 : decode cX6_readLine 67 = .ok (.aload_n 0, 1) := by decide +kernel
theorem dX6_readLine_68 : decode cX6_readLine 68 = .ok (.getfield 16, 3) := by decide +kernel
theorem dX6_readLine_71 : decode cX6_readLine 71 = .ok (.getfield 30, 3) := by decide +kernel
theorem dX6_readLine_74 : decode cX6_readLine 74 = .ok (.iastore, 1) := by decide +kernel
theorem dX6_readLine_75 : decode cX6_readLine 75 = .ok (.aload_n 0, 1) := by decide +kernel
theorem dX6_readLine_76 : decode cX6_readLine 76 = .ok (.getfield 16, 3) := by decide +kernel
theorem dX6_readLine_79 : decode cX6_readLine 79 = .ok (.bipush 59, 2) := by decide +kernel
theorem dX6_readLine_81 : decode cX6_readLine 81 = .ok (.iconst 0, 1) := by decide +kernel
theorem dX6_readLine_82 : decode cX6_readLine 82 = .ok (.invokevirtual 51, 3) := by decide +kernel
theorem dX6_readLine_85 : decode cX6_readLine 85 = .ok (.return_, 1) := by decide +kernel
theorem dX6_readOr_0 : decode cX6_readOr 0 = .ok (.aload_n 0, 1) := by decide +kernel
theorem dX6_readOr_1 : decode cX6_readOr 1 = .ok (.iload_n 1, 1) := by decide +kernel
theorem dX6_readOr_2 : decode cX6_readOr 2 = .ok (.invokevirtual 58, 3) := by decide +kernel
theorem dX6_readOr_5 : decode cX6_readOr 5 = .ok (.iconst 0, 1) := by decide +kernel
theorem dX6_readOr_6 : decode cX6_readOr 6 = .ok (.istore_n 2, 1) := by decide +kernel
theorem dX6_readOr_7 : decode cX6_readOr 7 = .ok (.iload_n 2, 1) := by decide +kernel
theorem dX6_readOr_8 : decode cX6_readOr 8 = .ok (.bipush 120, 2) := by decide +kernel
theorem dX6_readOr_10 : decode cX6_readOr 10 = .ok (.if_icmp .ge 43, 3) := by decide +kernel
theorem dX6_readOr_13 : decode cX6_readOr 13 = .ok (.aload_n 0, 1) := by decide +kernel
theorem dX6_readOr_14 : decode cX6_readOr 14 = .ok (.invokevirtual 34, 3) := by decide +kernel
theorem dX6_readOr_17 : decode cX6_readOr 17 = .ok (.bipush 124, 2) := by decide +kernel
theorem dX6_readOr_19 : decode cX6_readOr 19 = .ok (.if_icmp .ne 34, 3) := by decide +kernel
theorem dX6_readOr_22 : decode cX6_readOr 22 = .ok (.aload_n 0, 1) := by decide +kernel
theorem dX6_readOr_23 : decode cX6_readOr 23 = .ok (.dup, 1) := by decide +kernel
theorem dX6_readOr_24 : decode cX6_readOr 24 = .ok (.getfield 24, 3) := by decide +kernel
theorem dX6_readOr_27 : decode cX6_readOr 27 = .ok (.iconst 1, 1) := by decide +kernel
theorem dX6_readOr_28 : decode cX6_readOr 28 = .ok (.iadd, 1) := by decide +kernel
theorem dX6_readOr_29 : decode cX6_readOr 29 = .ok (.putfield 24, 3) := by decide +kernel
theorem dX6_readOr_32 : decode cX6_readOr 32 = .ok (.aload_n 0, 1) := by decide +kernel
theorem dX6_readOr_33 : decode cX6_readOr 33 = .ok (.iload_n 1, 1) := by decide +kernel
theorem dX6_readOr_34 : decode cX6_readOr 34 = .ok (.invokevirtual 58, 3) := by decide +kernel
theorem dX6_readOr_37 : decode cX6_readOr 37 = .ok (.aload_n 0, 1) := by decide +kernel
theorem dX6_readOr_38 : decode cX6_readOr 38 = .ok (.getfield 16, 3) := by decide +kernel
theorem dX6_readOr_41 : decode cX6_readOr 41 = .ok (.bipush 124, 2) := by decide +kernel
theorem dX6_readOr_43 : decode cX6_readOr 43 = .ok (.iconst 0, 1) := by decide +kernel
theorem dX6_readOr_44 : decode cX6_readOr 44 = .ok (.invokevirtual 51, 3) := by decide +kernel
theorem dX6_readOr_47 : decode cX6_readOr 47 = .ok (.iinc 2 1, 3) := by decide +kernel
theorem dX6_readOr_50 : decode cX6_readOr 50 = .ok (.goto (-43), 3) := by decide +kernel
theorem dX6_readOr_53 : decode cX6_readOr 53 = .ok (.return_, 1) := by decide +kernel
theorem dX6_readAnd_0 : decode cX6_readAnd 0 = .ok (.aload_n 0, 1) := by decide +kernel
theorem dX6_readAnd_1 : decode cX6_readAnd 1 = .ok (.iload_n 1, 1) := by decide +kernel
theorem dX6_readAnd_2 : decode cX6_readAnd 2 = .ok (.invokevirtual 61, 3) := by decide +kernel
theorem dX6_readAnd_5 : decode cX6_readAnd 5 = .ok (.iconst 0, 1) := by decide +kernel
theorem dX6_readAnd_6 : decode cX6_readAnd 6 = .ok (.istore_n 2, 1) := by decide +kernel
theorem dX6_readAnd_7 : decode cX6_readAnd 7 = .ok (.iload_n 2, 1) := by decide +kernel
theorem dX6_readAnd_8 : decode cX6_readAnd 8 = .ok (.bipush 120, 2) := by decide +kernel
theorem dX6_readAnd_10 : decode cX6_readAnd 10 = .ok (.if_icmp .ge 43, 3) := by decide +kernel
theorem dX6_readAnd_13 : decode cX6_readAnd 13 = .ok (.aload_n 0, 1) := by decide +kernel
theorem dX6_readAnd_14 : decode cX6_readAnd 14 = .ok (.invokevirtual 34, 3) := by decide +kernel
theorem dX6_readAnd_17 : decode cX6_readAnd 17 = .ok (.bipush 38, 2) := by decide +kernel
theorem dX6_readAnd_19 : decode cX6_readAnd 19 = .ok (.if_icmp .ne 34, 3) := by decide +kernel
theorem dX6_readAnd_22 : decode cX6_readAnd 22 = .ok (.aload_n 0, 1) := by decide +kernel
theorem dX6_readAnd_23 : decode cX6_readAnd 23 = .ok (.dup, 1) := by decide +kernel
theorem dX6_readAnd_24 : decode cX6_readAnd 24 = .ok (.getfield 24, 3) := by decide +kernel
theorem dX6_readAnd_27 : decode cX6_readAnd 27 = .ok (.iconst 1, 1) := by decide +kernel
theorem dX6_readAnd_28 : decode cX6_readAnd 28 = .ok (.iadd, 1) := by decide +kernel
theorem dX6_readAnd_29 : decode cX6_readAnd 29 = .ok (.putfield 24, 3) := by decide +kernel
theorem dX6_readAnd_32 : decode cX6_readAnd 32 = .ok (.aload_n 0, 1) := by decide +kernel
theorem dX6_readAnd_33 : decode cX6_readAnd 33 = .ok (.iload_n 1, 1) := by decide +kernel
theorem dX6_readAnd_34 : decode cX6_readAnd 34 = .ok (.invokevirtual 61, 3) := by decide +kernel
theorem dX6_readAnd_37 : decode cX6_readAnd 37 = .ok (.aload_n 0, 1) := by decide +kernel
theorem dX6_readAnd_38 : decode cX6_readAnd 38 = .ok (.getfield 16, 3) := by decide +kernel
theorem dX6_readAnd_41 : decode cX6_readAnd 41 = .ok (.bipush 38, 2) := by decide +kernel
theorem dX6_readAnd_43 : decode cX6_readAnd 43 = .ok (.iconst 0, 1) := by decide +kernel
theorem dX6_readAnd_44 : decode cX6_readAnd 44 = .ok (.invokevirtual 51, 3) := by decide +kernel
theorem dX6_readAnd_47 : decode cX6_readAnd 47 = .ok (.iinc 2 1, 3) := by decide +kernel
theorem dX6_readAnd_50 : decode cX6_readAnd 50 = .ok (.goto (-43), 3) := by decide +kernel
theorem dX6_readAnd_53 : decode cX6_readAnd 53 = .ok (.return_, 1) := by decide +kernel
theorem dX6_readComparison_0 : decode cX6_readComparison 0 = .ok (.aload_n 0, 1) := by decide +kernel
theorem dX6_readComparison_1 : decode cX6_readComparison 1 = .ok (.iload_n 1, 1) := by decide +kernel
theorem dX6_readComparison_2 : decode cX6_readComparison 2 = .ok (.invokevirtual 64, 3) := by decide +kernel
theorem dX6_readComparison_5 : decode cX6_readComparison 5 = .ok (.aload_n 0, 1) := by decide +kernel
theorem dX6_readComparison_6 : decode cX6_readComparison 6 = .ok (.invokevirtual 34, 3) := by decide +kernel
theorem dX6_readComparison_9 : decode cX6_readComparison 9 = .ok (.istore_n 2, 1) := by decide +kernel
theorem dX6_readComparison_10 : decode cX6_readComparison 10 = .ok (.iload_n 2, 1) := by decide +kernel
theorem dX6_readComparison_11 : decode cX6_readComparison 11 = .ok (.bipush 60, 2) := by decide +kernel
theorem dX6_readComparison_13 : decode cX6_readComparison 13 = .ok (.if_icmp .eq 15, 3) := by decide +kernel
theorem dX6_readComparison_16 : decode cX6_readComparison 16 = .ok (.iload_n 2, 1) := by decide +kernel
theorem dX6_readComparison_17 : decode cX6_readComparison 17 = .ok (.bipush 61, 2) := by decide +kernel
theorem dX6_readComparison_19 : decode cX6_readComparison 19 = .ok (.if_icmp .eq 9, 3) := by decide +kernel
theorem dX6_readComparison_22 : decode cX6_readComparison 22 = .ok (.iload_n 2, 1) := by decide +kernel
theorem dX6_readComparison_23 : decode cX6_readComparison 23 = .ok (.bipush 62, 2) := by decide +kernel
theorem dX6_readComparison_25 : decode cX6_readComparison 25 = .ok (.if_icmp .ne 27, 3) := by decide +kernel
theorem dX6_readComparison_28 : decode cX6_readComparison 28 = .ok (.aload_n 0, 1) := by decide +kernel
theorem dX6_readComparison_29 : decode cX6_readComparison 29 = .ok (.dup, 1) := by decide +kernel
theorem dX6_readComparison_30 : decode cX6_readComparison 30 = .ok (.getfield 24, 3) := by decide +kernel
theorem dX6_readComparison_33 : decode cX6_readComparison 33 = .ok (.iconst 1, 1) := by decide +kernel
theorem dX6_readComparison_34 : decode cX6_readComparison 34 = .ok (.iadd, 1) := by decide +kernel
theorem dX6_readComparison_35 : decode cX6_readComparison 35 = .ok (.putfield 24, 3) := by decide +kernel
theorem dX6_readComparison_38 : decode cX6_readComparison 38 = .ok (.aload_n 0, 1) := by decide +kernel
theorem dX6_readComparison_39 : decode cX6_readComparison 39 = .ok (.iload_n 1, 1) := by decide +kernel
theorem dX6_readComparison_40 : decode cX6_readComparison 40 = .ok (.invokevirtual 64, 3) := by decide +kernel
theorem dX6_readComparison_43 : decode cX6_readComparison 43 = .ok (.aload_n 0, 1) := by decide +kernel
theorem dX6_readComparison_44 : decode cX6_readComparison 44 = .ok (.getfield 16, 3) := by decide +kernel
theorem dX6_readComparison_47 : decode cX6_readComparison 47 = .ok (.iload_n 2, 1) := by decide +kernel
theorem dX6_readComparison_48 : decode cX6_readComparison 48 = .ok (.iconst 0, 1) := by decide +kernel
theorem dX6_readComparison_49 : decode cX6_readComparison 49 = .ok (.invokevirtual 51, 3) := by decide +kernel
theorem dX6_readComparison_52 : decode cX6_readComparison 52 = .ok (.return_, 1) := by decide +kernel
theorem dX6_readSum_0 : decode cX6_readSum 0 = .ok (.aload_n 0, 1) := by decide +kernel
theorem dX6_readSum_1 : decode cX6_readSum 1 = .ok (.iload_n 1, 1) := by decide +kernel
theorem dX6_readSum_2 : decode cX6_readSum 2 = .ok (.invokevirtual 67, 3) := by decide +kernel
theorem dX6_readSum_5 : decode cX6_readSum 5 = .ok (.iconst 0, 1) := by decide +kernel
theorem dX6_readSum_6 : decode cX6_readSum 6 = .ok (.istore_n 2, 1) := by decide +kernel
theorem dX6_readSum_7 : decode cX6_readSum 7 = .ok (.iload_n 2, 1) := by decide +kernel
theorem dX6_readSum_8 : decode cX6_readSum 8 = .ok (.bipush 120, 2) := by decide +kernel
theorem dX6_readSum_10 : decode cX6_readSum 10 = .ok (.if_icmp .ge 56, 3) := by decide +kernel
theorem dX6_readSum_13 : decode cX6_readSum 13 = .ok (.aload_n 0, 1) := by decide +kernel
theorem dX6_readSum_14 : decode cX6_readSum 14 = .ok (.invokevirtual 34, 3) := by decide +kernel
theorem dX6_readSum_17 : decode cX6_readSum 17 = .ok (.bipush 43, 2) := by decide +kernel
theorem dX6_readSum_19 : decode cX6_readSum 19 = .ok (.if_icmp .eq 12, 3) := by decide +kernel
theorem dX6_readSum_22 : decode cX6_readSum 22 = .ok (.aload_n 0, 1) := by decide +kernel
theorem dX6_readSum_23 : decode cX6_readSum 23 = .ok (.invokevirtual 34, 3) := by decide +kernel
theorem dX6_readSum_26 : decode cX6_readSum 26 = .ok (.bipush 45, 2) := by decide +kernel
theorem dX6_readSum_28 : decode cX6_readSum 28 = .ok (.if_icmp .ne 38, 3) := by decide +kernel
theorem dX6_readSum_31 : decode cX6_readSum 31 = .ok (.aload_n 0, 1) := by decide +kernel
theorem dX6_readSum_32 : decode cX6_readSum 32 = .ok (.invokevirtual 34, 3) := by decide +kernel
theorem dX6_readSum_35 : decode cX6_readSum 35 = .ok (.istore_n 3, 1) := by decide +kernel
theorem dX6_readSum_36 : decode cX6_readSum 36 = .ok (.aload_n 0, 1) := by decide +kernel
theorem dX6_readSum_37 : decode cX6_readSum 37 = .ok (.dup, 1) := by decide +kernel
theorem dX6_readSum_38 : decode cX6_readSum 38 = .ok (.getfield 24, 3) := by decide +kernel
theorem dX6_readSum_41 : decode cX6_readSum 41 = .ok (.iconst 1, 1) := by decide +kernel
theorem dX6_readSum_42 : decode cX6_readSum 42 = .ok (.iadd, 1) := by decide +kernel
theorem dX6_readSum_43 : decode cX6_readSum 43 = .ok (.putfield 24, 3) := by decide +kernel
theorem dX6_readSum_46 : decode cX6_readSum 46 = .ok (.aload_n 0, 1) := by decide +kernel
theorem dX6_readSum_47 : decode cX6_readSum 47 = .ok (.iload_n 1, 1) := by decide +kernel
theorem dX6_readSum_48 : decode cX6_readSum 48 = .ok (.invokevirtual 67, 3) := by decide +kernel
theorem dX6_readSum_51 : decode cX6_readSum 51 = .ok (.aload_n 0, 1) := by decide +kernel
theorem dX6_readSum_52 : decode cX6_readSum 52 = .ok (.getfield 16, 3) := by decide +kernel
theorem dX6_readSum_55 : decode cX6_readSum 55 = .ok (.iload_n 3, 1) := by decide +kernel
theorem dX6_readSum_56 : decode cX6_readSum 56 = .ok (.iconst 0, 1) := by decide +kernel
theorem dX6_readSum_57 : decode cX6_readSum 57 = .ok (.invokevirtual 51, 3) := by decide +kernel
theorem dX6_readSum_60 : decode cX6_readSum 60 = .ok (.iinc 2 1, 3) := by decide +kernel
theorem dX6_readSum_63 : decode cX6_readSum 63 = .ok (.goto (-56), 3) := by decide +kernel
theorem dX6_readSum_66 : decode cX6_readSum 66 = .ok (.return_, 1) := by decide +kernel
theorem dX6_readProduct_0 : decode cX6_readProduct 0 = .ok (.aload_n 0, 1) := by decide +kernel
theorem dX6_readProduct_1 : decode cX6_readProduct 1 = .ok (.iload_n 1, 1) := by decide +kernel
theorem dX6_readProduct_2 : decode cX6_readProduct 2 = .ok (.invokevirtual 70, 3) := by decide +kernel
theorem dX6_readProduct_5 : decode cX6_readProduct 5 = .ok (.iconst 0, 1) := by decide +kernel
theorem dX6_readProduct_6 : decode cX6_readProduct 6 = .ok (.istore_n 2, 1) := by decide +kernel
theorem dX6_readProduct_7 : decode cX6_readProduct 7 = .ok (.iload_n 2, 1) := by decide +kernel
theorem dX6_readProduct_8 : decode cX6_readProduct 8 = .ok (.bipush 120, 2) := by decide +kernel
theorem dX6_readProduct_10 : decode cX6_readProduct 10 = .ok (.if_icmp .ge 65, 3) := by decide +kernel
theorem dX6_readProduct_13 : decode cX6_readProduct 13 = .ok (.aload_n 0, 1) := by decide +kernel
theorem dX6_readProduct_14 : decode cX6_readProduct 14 = .ok (.invokevirtual 34, 3) := by decide +kernel
theorem dX6_readProduct_17 : decode cX6_readProduct 17 = .ok (.bipush 42, 2) := by decide +kernel
theorem dX6_readProduct_19 : decode cX6_readProduct 19 = .ok (.if_icmp .eq 21, 3) := by decide +kernel
theorem dX6_readProduct_22 : decode cX6_readProduct 22 = .ok (.aload_n 0, 1) := by decide +kernel
theorem dX6_readProduct_23 : decode cX6_readProduct 23 = .ok (.invokevirtual 34, 3) := by decide +kernel
theorem dX6_readProduct_26 : decode cX6_readProduct 26 = .ok (.bipush 47, 2) := by decide +kernel
theorem dX6_readProduct_28 : decode cX6_readProduct 28 = .ok (.if_icmp .eq 12, 3) := by decide +kernel
theorem dX6_readProduct_31 : decode cX6_readProduct 31 = .ok (.aload_n 0, 1) := by decide +kernel
theorem dX6_readProduct_32 : decode cX6_readProduct 32 = .ok (.invokevirtual 34, 3) := by decide +kernel
theorem dX6_readProduct_35 : decode cX6_readProduct 35 = .ok (.bipush 37, 2) := by decide +kernel
theorem dX6_readProduct_37 : decode cX6_readProduct 37 = .ok (.if_icmp .ne 38, 3) := by decide +kernel
theorem dX6_readProduct_40 : decode cX6_readProduct 40 = .ok (.aload_n 0, 1) := by decide +kernel
theorem dX6_readProduct_41 : decode cX6_readProduct 41 = .ok (.invokevirtual 34, 3) := by decide +kernel
theorem dX6_readProduct_44 : decode cX6_readProduct 44 = .ok (.istore_n 3, 1) := by decide +kernel
theorem dX6_readProduct_45 : decode cX6_readProduct 45 = .ok (.aload_n 0, 1) := by decide +kernel
theorem dX6_readProduct_46 : decode cX6_readProduct 46 = .ok (.dup, 1) := by decide +kernel
theorem dX6_readProduct_47 : decode cX6_readProduct 47 = .ok (.getfield 24, 3) := by decide +kernel
theorem dX6_readProduct_50 : decode cX6_readProduct 50 = .ok (.iconst 1, 1) := by decide +kernel
theorem dX6_readProduct_51 : decode cX6_readProduct 51 = .ok (.iadd, 1) := by decide +kernel
theorem dX6_readProduct_52 : decode cX6_readProduct 52 = .ok (.putfield 24, 3) := by decide +kernel
theorem dX6_readProduct_55 : decode cX6_readProduct 55 = .ok (.aload_n 0, 1) := by decide +kernel
theorem dX6_readProduct_56 : decode cX6_readProduct 56 = .ok (.iload_n 1, 1) := by decide +kernel
theorem dX6_readProduct_57 : decode cX6_readProduct 57 = .ok (.invokevirtual 70, 3) := by decide +kernel
theorem dX6_readProduct_60 : decode cX6_readProduct 60 = .ok (.aload_n 0, 1) := by decide +kernel
theorem dX6_readProduct_61 : decode cX6_readProduct 61 = .ok (.getfield 16, 3) := by decide +kernel
theorem dX6_readProduct_64 : decode cX6_readProduct 64 = .ok (.iload_n 3, 1) := by decide +kernel
theorem dX6_readProduct_65 : decode cX6_readProduct 65 = .ok (.iconst 0, 1) := by decide +kernel
theorem dX6_readProduct_66 : decode cX6_readProduct 66 = .ok (.invokevirtual 51, 3) := by decide +kernel
theorem dX6_readProduct_69 : decode cX6_readProduct 69 = .ok (.iinc 2 1, 3) := by decide +kernel
theorem dX6_readProduct_72 : decode cX6_readProduct 72 = .ok (.goto (-65), 3) := by decide +kernel
theorem dX6_readProduct_75 : decode cX6_readProduct 75 = .ok (.return_, 1) := by decide +kernel
theorem dX6_readOperand_0 : decode cX6_readOperand 0 = .ok (.aload_n 0, 1) := by decide +kernel
theorem dX6_readOperand_1 : decode cX6_readOperand 1 = .ok (.invokevirtual 34, 3) := by decide +kernel
theorem dX6_readOperand_4 : decode cX6_readOperand 4 = .ok (.istore_n 2, 1) := by decide +kernel
theorem dX6_readOperand_5 : decode cX6_readOperand 5 = .ok (.iload_n 2, 1) := by decide +kernel
theorem dX6_readOperand_6 : decode cX6_readOperand 6 = .ok (.invokestatic 73, 3) := by decide +kernel
theorem dX6_readOperand_9 : decode cX6_readOperand 9 = .ok (.istore_n 3, 1) := by decide +kernel
theorem dX6_readOperand_10 : decode cX6_readOperand 10 = .ok (.iload_n 2, 1) := by decide +kernel
theorem dX6_readOperand_11 : decode cX6_readOperand 11 = .ok (.bipush 40, 2) := by decide +kernel
theorem dX6_readOperand_13 : decode cX6_readOperand 13 = .ok (.if_icmp .eq 15, 3) := by decide +kernel
theorem dX6_readOperand_16 : decode cX6_readOperand 16 = .ok (.iload_n 2, 1) := by decide +kernel
theorem dX6_readOperand_17 : decode cX6_readOperand 17 = .ok (.bipush 33, 2) := by decide +kernel
theorem dX6_readOperand_19 : decode cX6_readOperand 19 = .ok (.if_icmp .eq 9, 3) := by decide +kernel
theorem dX6_readOperand_22 : decode cX6_readOperand 22 = .ok (.iload_n 2, 1) := by decide +kernel
theorem dX6_readOperand_23 : decode cX6_readOperand 23 = .ok (.bipush 45, 2) := by decide +kernel
theorem dX6_readOperand_25 : decode cX6_readOperand 25 = .ok (.if_icmp .ne 7, 3) := by decide +kernel
theorem dX6_readOperand_28 : decode cX6_readOperand 28 = .ok (.iconst 1, 1) := by decide +kernel
theorem dX6_readOperand_29 : decode cX6_readOperand 29 = .ok (.goto 4, 3) := by decide +kernel
theorem dX6_readOperand_32 : decode cX6_readOperand 32 = .ok (.iconst 0, 1) := by decide +kernel
theorem dX6_readOperand_33 : decode cX6_readOperand 33 = .ok (.istore 4, 2) := by decide +kernel
theorem dX6_readOperand_35 : decode cX6_readOperand 35 = .ok (.iload_n 2, 1) := by decide +kernel
theorem dX6_readOperand_36 : decode cX6_readOperand 36 = .ok (.bipush 48, 2) := by decide +kernel
theorem dX6_readOperand_38 : decode cX6_readOperand 38 = .ok (.bipush 57, 2) := by decide +kernel
theorem dX6_readOperand_40 : decode cX6_readOperand 40 = .ok (.invokestatic 41, 3) := by decide +kernel
theorem dX6_readOperand_43 : decode cX6_readOperand 43 = .ok (.ifCond .eq 10, 3) := by decide +kernel
theorem dX6_readOperand_46 : decode cX6_readOperand 46 = .ok (.aload_n 0, 1) := by decide +kernel
theorem dX6_readOperand_47 : decode cX6_readOperand 47 = .ok (.invokevirtual 77, 3) := by decide +kernel
theorem dX6_readOperand_50 : decode cX6_readOperand 50 = .ok (.goto 66, 3) := by decide +kernel
theorem dX6_readOperand_53 : decode cX6_readOperand 53 = .ok (.iload_n 3, 1) := by decide +kernel
theorem dX6_readOperand_54 : decode cX6_readOperand 54 = .ok (.ifCond .lt 26, 3) := by decide +kernel
theorem dX6_readOperand_57 : decode cX6_readOperand 57 = .ok (.aload_n 0, 1) := by decide +kernel
theorem dX6_readOperand_58 : decode cX6_readOperand 58 = .ok (.dup, 1) := by decide +kernel
theorem dX6_readOperand_59 : decode cX6_readOperand 59 = .ok (.getfield 24, 3) := by decide +kernel
theorem dX6_readOperand_62 : decode cX6_readOperand 62 = .ok (.iconst 1, 1) := by decide +kernel
theorem dX6_readOperand_63 : decode cX6_readOperand 63 = .ok (.iadd, 1) := by decide +kernel
theorem dX6_readOperand_64 : decode cX6_readOperand 64 = .ok (.putfield 24, 3) := by decide +kernel
theorem dX6_readOperand_67 : decode cX6_readOperand 67 = .ok (.aload_n 0, 1) := by decide +kernel
theorem dX6_readOperand_68 : decode cX6_readOperand 68 = .ok (.getfield 16, 3) := by decide +kernel
theorem dX6_readOperand_71 : decode cX6_readOperand 71 = .ok (.bipush 110, 2) := by decide +kernel
theorem dX6_readOperand_73 : decode cX6_readOperand 73 = .ok (.iload_n 3, 1) := by decide +kernel
theorem dX6_readOperand_74 : decode cX6_readOperand 74 = .ok (.invokevirtual 51, 3) := by decide +kernel
theorem dX6_readOperand_77 : decode cX6_readOperand 77 = .ok (.goto 39, 3) := by decide +kernel
theorem dX6_readOperand_80 : decode cX6_readOperand 80 = .ok (.iload 4, 2) := by decide +kernel
theorem dX6_readOperand_82 : decode cX6_readOperand 82 = .ok (.ifCond .eq 30, 3) := by decide +kernel
theorem dX6_readOperand_85 : decode cX6_readOperand 85 = .ok (.iload_n 1, 1) := by decide +kernel
theorem dX6_readOperand_86 : decode cX6_readOperand 86 = .ok (.bipush 6, 2) := by decide +kernel
theorem dX6_readOperand_88 : decode cX6_readOperand 88 = .ok (.if_icmp .ge 24, 3) := by decide +kernel
theorem dX6_readOperand_91 : decode cX6_readOperand 91 = .ok (.aload_n 0, 1) := by decide +kernel
theorem dX6_readOperand_92 : decode cX6_readOperand 92 = .ok (.dup, 1) := by decide +kernel
theorem dX6_readOperand_93 : decode cX6_readOperand 93 = .ok (.getfield 24, 3) := by decide +kernel
theorem dX6_readOperand_96 : decode cX6_readOperand 96 = .ok (.iconst 1, 1) := by decide +kernel
theorem dX6_readOperand_97 : decode cX6_readOperand 97 = .ok (.iadd, 1) := by decide +kernel
theorem dX6_readOperand_98 : decode cX6_readOperand 98 = .ok (.putfield 24, 3) := by decide +kernel
theorem dX6_readOperand_101 : decode cX6_readOperand 101 = .ok (.aload_n 0, 1) := by decide +kernel
theorem dX6_readOperand_102 : decode cX6_readOperand 102 = .ok (.iload_n 2, 1) := by decide +kernel
theorem dX6_readOperand_103 : decode cX6_readOperand 103 = .ok (.iload_n 1, 1) := by decide +kernel
theorem dX6_readOperand_104 : decode cX6_readOperand 104 = .ok (.iconst 1, 1) := by decide +kernel
theorem dX6_readOperand_105 : decode cX6_readOperand 105 = .ok (.iadd, 1) := by decide +kernel
theorem dX6_readOperand_106 : decode cX6_readOperand 106 = .ok (.invokevirtual 80, 3) := by decide +kernel
theorem dX6_readOperand_109 : decode cX6_readOperand 109 = .ok (.goto 7, 3) := by decide +kernel
theorem dX6_readOperand_112 : decode cX6_readOperand 112 = .ok (.aload_n 0, 1) := by decide +kernel
theorem dX6_readOperand_113 : decode cX6_readOperand 113 = .ok (.invokevirtual 38, 3) := by decide +kernel
theorem dX6_readOperand_116 : decode cX6_readOperand 116 = .ok (.return_, 1) := by decide +kernel
theorem dX6_readOpened_0 : decode cX6_readOpened 0 = .ok (.iload_n 1, 1) := by decide +kernel
theorem dX6_readOpened_1 : decode cX6_readOpened 1 = .ok (.bipush 40, 2) := by decide +kernel
theorem dX6_readOpened_3 : decode cX6_readOpened 3 = .ok (.if_icmp .eq 30, 3) := by decide +kernel
theorem dX6_readOpened_6 : decode cX6_readOpened 6 = .ok (.aload_n 0, 1) := by decide +kernel
theorem dX6_readOpened_7 : decode cX6_readOpened 7 = .ok (.iload_n 2, 1) := by decide +kernel
theorem dX6_readOpened_8 : decode cX6_readOpened 8 = .ok (.invokevirtual 70, 3) := by decide +kernel
theorem dX6_readOpened_11 : decode cX6_readOpened 11 = .ok (.aload_n 0, 1) := by decide +kernel
theorem dX6_readOpened_12 : decode cX6_readOpened 12 = .ok (.getfield 16, 3) := by decide +kernel
theorem dX6_readOpened_15 : decode cX6_readOpened 15 = .ok (.iload_n 1, 1) := by decide +kernel
theorem dX6_readOpened_16 : decode cX6_readOpened 16 = .ok (.bipush 33, 2) := by decide +kernel
theorem dX6_readOpened_18 : decode cX6_readOpened 18 = .ok (.if_icmp .ne 8, 3) := by decide +kernel
theorem dX6_readOpened_21 : decode cX6_readOpened 21 = .ok (.bipush 33, 2) := by decide +kernel
theorem dX6_readOpened_23 : decode cX6_readOpened 23 = .ok (.goto 5, 3) := by decide +kernel
theorem dX6_readOpened_26 : decode cX6_readOpened 26 = .ok (.bipush 126, 2) := by decide +kernel
theorem dX6_readOpened_28 : decode cX6_readOpened 28 = .ok (.iconst 0, 1) := by decide +kernel
theorem dX6_readOpened_29 : decode cX6_readOpened 29 = .ok (.invokevirtual 51, 3) := by decide +kernel
theorem dX6_readOpened_32 : decode cX6_readOpened 32 = .ok (.return_, 1) := by decide +kernel
theorem dX6_readOpened_33 : decode cX6_readOpened 33 = .ok (.aload_n 0, 1) := by decide +kernel
theorem dX6_readOpened_34 : decode cX6_readOpened 34 = .ok (.iload_n 2, 1) := by decide +kernel
theorem dX6_readOpened_35 : decode cX6_readOpened 35 = .ok (.invokevirtual 47, 3) := by decide +kernel
theorem dX6_readOpened_38 : decode cX6_readOpened 38 = .ok (.aload_n 0, 1) := by decide +kernel
theorem dX6_readOpened_39 : decode cX6_readOpened 39 = .ok (.invokevirtual 34, 3) := by decide +kernel
theorem dX6_readOpened_42 : decode cX6_readOpened 42 = .ok (.bipush 41, 2) := by decide +kernel
theorem dX6_readOpened_44 : decode cX6_readOpened 44 = .ok (.if_icmp .ne 16, 3) := by decide +kernel
theorem dX6_readOpened_47 : decode cX6_readOpened 47 = .ok (.aload_n 0, 1) := by decide +kernel
theorem dX6_readOpened_48 : decode cX6_readOpened 48 = .ok (.dup, 1) := by decide +kernel
theorem dX6_readOpened_49 : decode cX6_readOpened 49 = .ok (.getfield 24, 3) := by decide +kernel
theorem dX6_readOpened_52 : decode cX6_readOpened 52 = .ok (.iconst 1, 1) := by decide +kernel
theorem dX6_readOpened_53 : decode cX6_readOpened 53 = .ok (.iadd, 1) := by decide +kernel
theorem dX6_readOpened_54 : decode cX6_readOpened 54 = .ok (.putfield 24, 3) := by decide +kernel
theorem dX6_readOpened_57 : decode cX6_readOpened 57 = .ok (.goto 7, 3) := by decide +kernel
theorem dX6_readOpened_60 : decode cX6_readOpened 60 = .ok (.aload_n 0, 1) := by decide +kernel
theorem dX6_readOpened_61 : decode cX6_readOpened 61 = .ok (.invokevirtual 38, 3) := by decide +kernel
theorem dX6_readOpened_64 : decode cX6_readOpened 64 = .ok (.return_, 1) := by decide +kernel
theorem dX6_readNumber_0 : decode cX6_readNumber 0 = .ok (.iconst 0, 1) := by decide +kernel
theorem dX6_readNumber_1 : decode cX6_readNumber 1 = .ok (.istore_n 1, 1) := by decide +kernel
theorem dX6_readNumber_2 : decode cX6_readNumber 2 = .ok (.iconst 0, 1) := by decide +kernel
theorem dX6_readNumber_3 : decode cX6_readNumber 3 = .ok (.istore_n 2, 1) := by decide +kernel
theorem dX6_readNumber_4 : decode cX6_readNumber 4 = .ok (.iload_n 2, 1) := by decide +kernel
theorem dX6_readNumber_5 : decode cX6_readNumber 5 = .ok (.iconst 4, 1) := by decide +kernel
theorem dX6_readNumber_6 : decode cX6_readNumber 6 = .ok (.if_icmp .ge 46, 3) := by decide +kernel
theorem dX6_readNumber_9 : decode cX6_readNumber 9 = .ok (.aload_n 0, 1) := by decide +kernel
theorem dX6_readNumber_10 : decode cX6_readNumber 10 = .ok (.invokevirtual 34, 3) := by decide +kernel
theorem dX6_readNumber_13 : decode cX6_readNumber 13 = .ok (.bipush 48, 2) := by decide +kernel
theorem dX6_readNumber_15 : decode cX6_readNumber 15 = .ok (.bipush 57, 2) := by decide +kernel
theorem dX6_readNumber_17 : decode cX6_readNumber 17 = .ok (.invokestatic 41, 3) := by decide +kernel
theorem dX6_readNumber_20 : decode cX6_readNumber 20 = .ok (.ifCond .eq 32, 3) := by decide +kernel
theorem dX6_readNumber_23 : decode cX6_readNumber 23 = .ok (.iload_n 1, 1) := by decide +kernel
theorem dX6_readNumber_24 : decode cX6_readNumber 24 = .ok (.bipush 10, 2) := by decide +kernel
theorem dX6_readNumber_26 : decode cX6_readNumber 26 = .ok (.imul, 1) := by decide +kernel
theorem dX6_readNumber_27 : decode cX6_readNumber 27 = .ok (.aload_n 0, 1) := by decide +kernel
theorem dX6_readNumber_28 : decode cX6_readNumber 28 = .ok (.invokevirtual 34, 3) := by decide +kernel
theorem dX6_readNumber_31 : decode cX6_readNumber 31 = .ok (.iadd, 1) := by decide +kernel
theorem dX6_readNumber_32 : decode cX6_readNumber 32 = .ok (.bipush 48, 2) := by decide +kernel
theorem dX6_readNumber_34 : decode cX6_readNumber 34 = .ok (.isub, 1) := by decide +kernel
theorem dX6_readNumber_35 : decode cX6_readNumber 35 = .ok (.istore_n 1, 1) := by decide +kernel
theorem dX6_readNumber_36 : decode cX6_readNumber 36 = .ok (.aload_n 0, 1) := by decide +kernel
theorem dX6_readNumber_37 : decode cX6_readNumber 37 = .ok (.dup, 1) := by decide +kernel
theorem dX6_readNumber_38 : decode cX6_readNumber 38 = .ok (.getfield 24, 3) := by decide +kernel
theorem dX6_readNumber_41 : decode cX6_readNumber 41 = .ok (.iconst 1, 1) := by decide +kernel
theorem dX6_readNumber_42 : decode cX6_readNumber 42 = .ok (.iadd, 1) := by decide +kernel
theorem dX6_readNumber_43 : decode cX6_readNumber 43 = .ok (.putfield 24, 3) := by decide +kernel
theorem dX6_readNumber_46 : decode cX6_readNumber 46 = .ok (.iinc 2 1, 3) := by decide +kernel
theorem dX6_readNumber_49 : decode cX6_readNumber 49 = .ok (.goto (-45), 3) := by decide +kernel
theorem dX6_readNumber_52 : decode cX6_readNumber 52 = .ok (.aload_n 0, 1) := by decide +kernel
theorem dX6_readNumber_53 : decode cX6_readNumber 53 = .ok (.getfield 16, 3) := by decide +kernel
theorem dX6_readNumber_56 : decode cX6_readNumber 56 = .ok (.bipush 48, 2) := by decide +kernel
theorem dX6_readNumber_58 : decode cX6_readNumber 58 = .ok (.iload_n 1, 1) := by decide +kernel
theorem dX6_readNumber_59 : decode cX6_readNumber 59 = .ok (.invokevirtual 51, 3) := by decide +kernel
theorem dX6_readNumber_62 : decode cX6_readNumber 62 = .ok (.return_, 1) := by decide +kernel
theorem dX6_nameOf_0 : decode cX6_nameOf 0 = .ok (.iload_n 0, 1) := by decide +kernel
theorem dX6_nameOf_1 : decode cX6_nameOf 1 = .ok (.lookupswitch 71 #[(98, 65), (99, 67), (100, 59), (109, 63), (116, 69), (121, 61)], 59) := by decide +kernel
theorem dX6_nameOf_60 : decode cX6_nameOf 60 = .ok (.iconst 0, 1) := by decide +kernel
theorem dX6_nameOf_61 : decode cX6_nameOf 61 = .ok (.ireturn, 1) := by decide +kernel
theorem dX6_nameOf_62 : decode cX6_nameOf 62 = .ok (.iconst 1, 1) := by decide +kernel
theorem dX6_nameOf_63 : decode cX6_nameOf 63 = .ok (.ireturn, 1) := by decide +kernel
theorem dX6_nameOf_64 : decode cX6_nameOf 64 = .ok (.iconst 2, 1) := by decide +kernel
theorem dX6_nameOf_65 : decode cX6_nameOf 65 = .ok (.ireturn, 1) := by decide +kernel
theorem dX6_nameOf_66 : decode cX6_nameOf 66 = .ok (.iconst 3, 1) := by decide +kernel
theorem dX6_nameOf_67 : decode cX6_nameOf 67 = .ok (.ireturn, 1) := by decide +kernel
theorem dX6_nameOf_68 : decode cX6_nameOf 68 = .ok (.iconst 4, 1) := by decide +kernel
theorem dX6_nameOf_69 : decode cX6_nameOf 69 = .ok (.ireturn, 1) := by decide +kernel
theorem dX6_nameOf_70 : decode cX6_nameOf 70 = .ok (.iconst 5, 1) := by decide +kernel
theorem dX6_nameOf_71 : decode cX6_nameOf 71 = .ok (.ireturn, 1) := by decide +kernel
theorem dX6_nameOf_72 : decode cX6_nameOf 72 = .ok (.iconst (-1), 1) := by decide +kernel
theorem dX6_nameOf_73 : decode cX6_nameOf 73 = .ok (.ireturn, 1) := by decide +kernel
theorem dX7_init_0 : decode cX7_init 0 = .ok (.aload_n 0, 1) := by decide +kernel
theorem dX7_init_1 : decode cX7_init 1 = .ok (.invokespecial 3, 3) := by decide +kernel
theorem dX7_init_4 : decode cX7_init 4 = .ok (.aload_n 0, 1) := by decide +kernel
theorem dX7_init_5 : decode cX7_init 5 = .ok (.iconst 0, 1) := by decide +kernel
theorem dX7_init_6 : decode cX7_init 6 = .ok (.putfield 9, 3) := by decide +kernel
theorem dX7_init_9 : decode cX7_init 9 = .ok (.aload_n 0, 1) := by decide +kernel
theorem dX7_init_10 : decode cX7_init 10 = .ok (.iconst 0, 1) := by decide +kernel
theorem dX7_init_11 : decode cX7_init 11 = .ok (.putfield 15, 3) := by decide +kernel
theorem dX7_init_14 : decode cX7_init 14 = .ok (.aload_n 0, 1) := by decide +kernel
theorem dX7_init_15 : decode cX7_init 15 = .ok (.iconst 3, 1) := by decide +kernel
theorem dX7_init_16 : decode cX7_init 16 = .ok (.newarray .int, 2) := by decide +kernel
theorem dX7_init_18 : decode cX7_init 18 = .ok (.putfield 18, 3) := by decide +kernel
theorem dX7_init_21 : decode cX7_init 21 = .ok (.aload_n 0, 1) := by decide +kernel
theorem dX7_init_22 : decode cX7_init 22 = .ok (.iconst 0, 1) := by decide +kernel
theorem dX7_init_23 : decode cX7_init 23 = .ok (.putfield 22, 3) := by decide +kernel
theorem dX7_init_26 : decode cX7_init 26 = .ok (.aload_n 0, 1) := by decide +kernel
theorem dX7_init_27 : decode cX7_init 27 = .ok (.iconst 0, 1) := by decide +kernel
theorem dX7_init_28 : decode cX7_init 28 = .ok (.putfield 25, 3) := by decide +kernel
theorem dX7_init_31 : decode cX7_init 31 = .ok (.aload_n 0, 1) := by decide +kernel
theorem dX7_init_32 : decode cX7_init 32 = .ok (.iconst 0, 1) := by decide +kernel
theorem dX7_init_33 : decode cX7_init 33 = .ok (.putfield 28, 3) := by decide +kernel
theorem dX7_init_36 : decode cX7_init 36 = .ok (.aload_n 0, 1) := by decide +kernel
theorem dX7_init_37 : decode cX7_init 37 = .ok (.iconst 0, 1) := by decide +kernel
theorem dX7_init_38 : decode cX7_init 38 = .ok (.putfield 31, 3) := by decide +kernel
theorem dX7_init_41 : decode cX7_init 41 = .ok (.aload_n 0, 1) := by decide +kernel
theorem dX7_init_42 : decode cX7_init 42 = .ok (.iconst 5, 1) := by decide +kernel
theorem dX7_init_43 : decode cX7_init 43 = .ok (.anewarray 34, 3) := by decide +kernel
theorem dX7_init_46 : decode cX7_init 46 = .ok (.putfield 36, 3) := by decide +kernel
theorem dX7_init_49 : decode cX7_init 49 = .ok (.aload_n 0, 1) := by decide +kernel
theorem dX7_init_50 : decode cX7_init 50 = .ok (.iconst 3, 1) := by decide +kernel
theorem dX7_init_51 : decode cX7_init 51 = .ok (.newarray .int, 2) := by decide +kernel
theorem dX7_init_53 : decode cX7_init 53 = .ok (.putfield 40, 3) := by decide +kernel
theorem dX7_init_56 : decode cX7_init 56 = .ok (.aload_n 0, 1) := by decide +kernel
theorem dX7_init_57 : decode cX7_init 57 = .ok (.bipush 6, 2) := by decide +kernel
theorem dX7_init_59 : decode cX7_init 59 = .ok (.newarray .int, 2) := by decide +kernel
theorem dX7_init_61 : decode cX7_init 61 = .ok (.putfield 43, 3) := by decide +kernel
theorem dX7_init_64 : decode cX7_init 64 = .ok (.aload_n 0, 1) := by decide +kernel
theorem dX7_init_65 : decode cX7_init 65 = .ok (.sipush 384, 3) := by decide +kernel
theorem dX7_init_68 : decode cX7_init 68 = .ok (.newarray .int, 2) := by decide +kernel
theorem dX7_init_70 : decode cX7_init 70 = .ok (.putfield 46, 3) := by decide +kernel
theorem dX7_init_73 : decode cX7_init 73 = .ok (.aload_n 0, 1) := by decide +kernel
theorem dX7_init_74 : decode cX7_init 74 = .ok (.aload_n 1, 1) := by decide +kernel
theorem dX7_init_75 : decode cX7_init 75 = .ok (.putfield 49, 3) := by decide +kernel
theorem dX7_init_78 : decode cX7_init 78 = .ok (.aload_n 0, 1) := by decide +kernel
theorem dX7_init_79 : decode cX7_init 79 = .ok (.aload_n 2, 1) := by decide +kernel
theorem dX7_init_80 : decode cX7_init 80 = .ok (.putfield 53, 3) := by decide +kernel
theorem dX7_init_83 : decode cX7_init 83 = .ok (.iconst 0, 1) := by decide +kernel
theorem dX7_init_84 : decode cX7_init 84 = .ok (.istore_n 3, 1) := by decide +kernel
theorem dX7_init_85 : decode cX7_init 85 = .ok (.iload_n 3, 1) := by decide +kernel
theorem dX7_init_86 : decode cX7_init 86 = .ok (.iconst 4, 1) := by decide +kernel
theorem dX7_init_87 : decode cX7_init 87 = .ok (.if_icmp .gt 22, 3) := by decide +kernel
theorem dX7_init_90 : decode cX7_init 90 = .ok (.aload_n 0, 1) := by decide +kernel
theorem dX7_init_91 : decode cX7_init 91 = .ok (.getfield 36, 3) := by decide +kernel
theorem dX7_init_94 : decode cX7_init 94 = .ok (.iload_n 3, 1) := by decide +kernel
theorem dX7_init_95 : decode cX7_init 95 = .ok (.new 34, 3) := by decide +kernel
theorem dX7_init_98 : decode cX7_init 98 = .ok (.dup, 1) := by decide +kernel
theorem dX7_init_99 : decode cX7_init 99 = .ok (.invokespecial 57, 3) := by decide +kernel
theorem dX7_init_102 : decode cX7_init 102 = .ok (.aastore, 1) := by decide +kernel
theorem dX7_init_103 : decode cX7_init 103 = .ok (.iinc 3 1, 3) := by decide +kernel
theorem dX7_init_106 : decode cX7_init 106 = .ok (.goto (-21), 3) := by decide +kernel
theorem dX7_init_109 : decode cX7_init 109 = .ok (.return_, 1) := by decide +kernel
theorem dX7_fresh_0 : decode cX7_fresh 0 = .ok (.aload_n 0, 1) := by decide +kernel
theorem dX7_fresh_1 : decode cX7_fresh 1 = .ok (.getfield 36, 3) := by decide +kernel
theorem dX7_fresh_4 : decode cX7_fresh 4 = .ok (.iconst 0, 1) := by decide +kernel
theorem dX7_fresh_5 : decode cX7_fresh 5 = .ok (.aaload, 1) := by decide +kernel
theorem dX7_fresh_6 : decode cX7_fresh 6 = .ok (.aload_n 0, 1) := by decide +kernel
theorem dX7_fresh_7 : decode cX7_fresh 7 = .ok (.getfield 49, 3) := by decide +kernel
theorem dX7_fresh_10 : decode cX7_fresh 10 = .ok (.invokevirtual 58, 3) := by decide +kernel
theorem dX7_fresh_13 : decode cX7_fresh 13 = .ok (.aload_n 0, 1) := by decide +kernel
theorem dX7_fresh_14 : decode cX7_fresh 14 = .ok (.getfield 36, 3) := by decide +kernel
theorem dX7_fresh_17 : decode cX7_fresh 17 = .ok (.iconst 0, 1) := by decide +kernel
theorem dX7_fresh_18 : decode cX7_fresh 18 = .ok (.aaload, 1) := by decide +kernel
theorem dX7_fresh_19 : decode cX7_fresh 19 = .ok (.areturn, 1) := by decide +kernel
theorem dX7_behind_0 : decode cX7_behind 0 = .ok (.aload_n 0, 1) := by decide +kernel
theorem dX7_behind_1 : decode cX7_behind 1 = .ok (.invokevirtual 62, 3) := by decide +kernel
theorem dX7_behind_4 : decode cX7_behind 4 = .ok (.astore_n 3, 1) := by decide +kernel
theorem dX7_behind_5 : decode cX7_behind 5 = .ok (.iload_n 2, 1) := by decide +kernel
theorem dX7_behind_6 : decode cX7_behind 6 = .ok (.aload_n 1, 1) := by decide +kernel
theorem dX7_behind_7 : decode cX7_behind 7 = .ok (.invokevirtual 66, 3) := by decide +kernel
theorem dX7_behind_10 : decode cX7_behind 10 = .ok (.invokestatic 72, 3) := by decide +kernel
theorem dX7_behind_13 : decode cX7_behind 13 = .ok (.istore 4, 2) := by decide +kernel
theorem dX7_behind_15 : decode cX7_behind 15 = .ok (.iconst 0, 1) := by decide +kernel
theorem dX7_behind_16 : decode cX7_behind 16 = .ok (.istore 5, 2) := by decide +kernel
theorem dX7_behind_18 : decode cX7_behind 18 = .ok (.iload 5, 2) := by decide +kernel
theorem dX7_behind_20 : decode cX7_behind 20 = .ok (.iload 4, 2) := by decide +kernel
theorem dX7_behind_22 : decode cX7_behind 22 = .ok (.if_icmp .ge 23, 3) := by decide +kernel
theorem dX7_behind_25 : decode cX7_behind 25 = .ok (.aload_n 3, 1) := by decide +kernel
theorem dX7_behind_26 : decode cX7_behind 26 = .ok (.aload_n 0, 1) := by decide +kernel
theorem dX7_behind_27 : decode cX7_behind 27 = .ok (.getfield 53, 3) := by decide +kernel
theorem dX7_behind_30 : decode cX7_behind 30 = .ok (.aload_n 1, 1) := by decide +kernel
theorem dX7_behind_31 : decode cX7_behind 31 = .ok (.iload 5, 2) := by decide +kernel
theorem dX7_behind_33 : decode cX7_behind 33 = .ok (.invokevirtual 78, 3) := by decide +kernel
theorem dX7_behind_36 : decode cX7_behind 36 = .ok (.invokevirtual 82, 3) := by decide +kernel
theorem dX7_behind_39 : decode cX7_behind 39 = .ok (.iinc 5 1, 3) := by decide +kernel
theorem dX7_behind_42 : decode cX7_behind 42 = .ok (.goto (-24), 3) := by decide +kernel
theorem dX7_behind_45 : decode cX7_behind 45 = .ok (.aload_n 3, 1) := by decide +kernel
theorem dX7_behind_46 : decode cX7_behind 46 = .ok (.areturn, 1) := by decide +kernel
theorem dX7_firstCry_0 : decode cX7_firstCry 0 = .ok (.aload_n 0, 1) := by decide +kernel
theorem dX7_firstCry_1 : decode cX7_firstCry 1 = .ok (.invokevirtual 62, 3) := by decide +kernel
theorem dX7_firstCry_4 : decode cX7_firstCry 4 = .ok (.astore 4, 2) := by decide +kernel
theorem dX7_firstCry_6 : decode cX7_firstCry 6 = .ok (.aload_n 1, 1) := by decide +kernel
theorem dX7_firstCry_7 : decode cX7_firstCry 7 = .ok (.invokevirtual 66, 3) := by decide +kernel
theorem dX7_firstCry_10 : decode cX7_firstCry 10 = .ok (.istore 5, 2) := by decide +kernel
theorem dX7_firstCry_12 : decode cX7_firstCry 12 = .ok (.iconst 0, 1) := by decide +kernel
theorem dX7_firstCry_13 : decode cX7_firstCry 13 = .ok (.istore 6, 2) := by decide +kernel
theorem dX7_firstCry_15 : decode cX7_firstCry 15 = .ok (.iload 6, 2) := by decide +kernel
theorem dX7_firstCry_17 : decode cX7_firstCry 17 = .ok (.iload 5, 2) := by decide +kernel
theorem dX7_firstCry_19 : decode cX7_firstCry 19 = .ok (.if_icmp .ge 51, 3) := by decide +kernel
theorem dX7_firstCry_22 : decode cX7_firstCry 22 = .ok (.aload 4, 2) := by decide +kernel
theorem dX7_firstCry_24 : decode cX7_firstCry 24 = .ok (.getfield 86, 3) := by decide +kernel
theorem dX7_firstCry_27 : decode cX7_firstCry 27 = .ok (.iload_n 2, 1) := by decide +kernel
theorem dX7_firstCry_28 : decode cX7_firstCry 28 = .ok (.iaload, 1) := by decide +kernel
theorem dX7_firstCry_29 : decode cX7_firstCry 29 = .ok (.iload_n 3, 1) := by decide +kernel
theorem dX7_firstCry_30 : decode cX7_firstCry 30 = .ok (.if_icmp .ge 40, 3) := by decide +kernel
theorem dX7_firstCry_33 : decode cX7_firstCry 33 = .ok (.aload 4, 2) := by decide +kernel
theorem dX7_firstCry_35 : decode cX7_firstCry 35 = .ok (.aload_n 0, 1) := by decide +kernel
theorem dX7_firstCry_36 : decode cX7_firstCry 36 = .ok (.getfield 53, 3) := by decide +kernel
theorem dX7_firstCry_39 : decode cX7_firstCry 39 = .ok (.aload_n 1, 1) := by decide +kernel
theorem dX7_firstCry_40 : decode cX7_firstCry 40 = .ok (.iload 6, 2) := by decide +kernel
theorem dX7_firstCry_42 : decode cX7_firstCry 42 = .ok (.invokevirtual 78, 3) := by decide +kernel
theorem dX7_firstCry_45 : decode cX7_firstCry 45 = .ok (.invokevirtual 82, 3) := by decide +kernel
theorem dX7_firstCry_48 : decode cX7_firstCry 48 = .ok (.aload 4, 2) := by decide +kernel
theorem dX7_firstCry_50 : decode cX7_firstCry 50 = .ok (.getfield 86, 3) := by decide +kernel
theorem dX7_firstCry_53 : decode cX7_firstCry 53 = .ok (.iload_n 2, 1) := by decide +kernel
theorem dX7_firstCry_54 : decode cX7_firstCry 54 = .ok (.iaload, 1) := by decide +kernel
theorem dX7_firstCry_55 : decode cX7_firstCry 55 = .ok (.iload_n 3, 1) := by decide +kernel
theorem dX7_firstCry_56 : decode cX7_firstCry 56 = .ok (.if_icmp .lt 8, 3) := by decide +kernel
theorem dX7_firstCry_59 : decode cX7_firstCry 59 = .ok (.iload 6, 2) := by decide +kernel
theorem dX7_firstCry_61 : decode cX7_firstCry 61 = .ok (.iconst 1, 1) := by decide +kernel
theorem dX7_firstCry_62 : decode cX7_firstCry 62 = .ok (.iadd, 1) := by decide +kernel
theorem dX7_firstCry_63 : decode cX7_firstCry 63 = .ok (.ireturn, 1) := by decide +kernel
theorem dX7_firstCry_64 : decode cX7_firstCry 64 = .ok (.iinc 6 1, 3) := by decide +kernel
theorem dX7_firstCry_67 : decode cX7_firstCry 67 = .ok (.goto (-52), 3) := by decide +kernel
theorem dX7_firstCry_70 : decode cX7_firstCry 70 = .ok (.aload 4, 2) := by decide +kernel
theorem dX7_firstCry_72 : decode cX7_firstCry 72 = .ok (.getfield 86, 3) := by decide +kernel
theorem dX7_firstCry_75 : decode cX7_firstCry 75 = .ok (.iload_n 2, 1) := by decide +kernel
theorem dX7_firstCry_76 : decode cX7_firstCry 76 = .ok (.iaload, 1) := by decide +kernel
theorem dX7_firstCry_77 : decode cX7_firstCry 77 = .ok (.iload_n 3, 1) := by decide +kernel
theorem dX7_firstCry_78 : decode cX7_firstCry 78 = .ok (.if_icmp .lt 7, 3) := by decide +kernel
theorem dX7_firstCry_81 : decode cX7_firstCry 81 = .ok (.iconst 0, 1) := by decide +kernel
theorem dX7_firstCry_82 : decode cX7_firstCry 82 = .ok (.goto 5, 3) := by decide +kernel
theorem dX7_firstCry_85 : decode cX7_firstCry 85 = .ok (.bipush (-2), 2) := by decide +kernel
theorem dX7_firstCry_87 : decode cX7_firstCry 87 = .ok (.ireturn, 1) := by decide +kernel
theorem dX7_firstSilence_0 : decode cX7_firstSilence 0 = .ok (.aload_n 0, 1) := by decide +kernel
theorem dX7_firstSilence_1 : decode cX7_firstSilence 1 = .ok (.invokevirtual 62, 3) := by decide +kernel
theorem dX7_firstSilence_4 : decode cX7_firstSilence 4 = .ok (.astore_n 2, 1) := by decide +kernel
theorem dX7_firstSilence_5 : decode cX7_firstSilence 5 = .ok (.aload_n 1, 1) := by decide +kernel
theorem dX7_firstSilence_6 : decode cX7_firstSilence 6 = .ok (.invokevirtual 66, 3) := by decide +kernel
theorem dX7_firstSilence_9 : decode cX7_firstSilence 9 = .ok (.istore_n 3, 1) := by decide +kernel
theorem dX7_firstSilence_10 : decode cX7_firstSilence 10 = .ok (.iconst 0, 1) := by decide +kernel
theorem dX7_firstSilence_11 : decode cX7_firstSilence 11 = .ok (.istore 4, 2) := by decide +kernel
theorem dX7_firstSilence_13 : decode cX7_firstSilence 13 = .ok (.iload 4, 2) := by decide +kernel
theorem dX7_firstSilence_15 : decode cX7_firstSilence 15 = .ok (.iload_n 3, 1) := by decide +kernel
theorem dX7_firstSilence_16 : decode cX7_firstSilence 16 = .ok (.if_icmp .ge 42, 3) := by decide +kernel
theorem dX7_firstSilence_19 : decode cX7_firstSilence 19 = .ok (.aload_n 2, 1) := by decide +kernel
theorem dX7_firstSilence_20 : decode cX7_firstSilence 20 = .ok (.invokevirtual 89, 3) := by decide +kernel
theorem dX7_firstSilence_23 : decode cX7_firstSilence 23 = .ok (.ifCond .eq 35, 3) := by decide +kernel
theorem dX7_firstSilence_26 : decode cX7_firstSilence 26 = .ok (.aload_n 2, 1) := by decide +kernel
theorem dX7_firstSilence_27 : decode cX7_firstSilence 27 = .ok (.aload_n 0, 1) := by decide +kernel
theorem dX7_firstSilence_28 : decode cX7_firstSilence 28 = .ok (.getfield 53, 3) := by decide +kernel
theorem dX7_firstSilence_31 : decode cX7_firstSilence 31 = .ok (.aload_n 1, 1) := by decide +kernel
theorem dX7_firstSilence_32 : decode cX7_firstSilence 32 = .ok (.iload 4, 2) := by decide +kernel
theorem dX7_firstSilence_34 : decode cX7_firstSilence 34 = .ok (.invokevirtual 78, 3) := by decide +kernel
theorem dX7_firstSilence_37 : decode cX7_firstSilence 37 = .ok (.invokevirtual 82, 3) := by decide +kernel
theorem dX7_firstSilence_40 : decode cX7_firstSilence 40 = .ok (.aload_n 2, 1) := by decide +kernel
theorem dX7_firstSilence_41 : decode cX7_firstSilence 41 = .ok (.invokevirtual 89, 3) := by decide +kernel
theorem dX7_firstSilence_44 : decode cX7_firstSilence 44 = .ok (.ifCond .ne 8, 3) := by decide +kernel
theorem dX7_firstSilence_47 : decode cX7_firstSilence 47 = .ok (.iload 4, 2) := by decide +kernel
theorem dX7_firstSilence_49 : decode cX7_firstSilence 49 = .ok (.iconst 1, 1) := by decide +kernel
theorem dX7_firstSilence_50 : decode cX7_firstSilence 50 = .ok (.iadd, 1) := by decide +kernel
theorem dX7_firstSilence_51 : decode cX7_firstSilence 51 = .ok (.ireturn, 1) := by decide +kernel
theorem dX7_firstSilence_52 : decode cX7_firstSilence 52 = .ok (.iinc 4 1, 3) := by decide +kernel
theorem dX7_firstSilence_55 : decode cX7_firstSilence 55 = .ok (.goto (-42), 3) := by decide +kernel
theorem dX7_firstSilence_58 : decode cX7_firstSilence 58 = .ok (.aload_n 2, 1) := by decide +kernel
theorem dX7_firstSilence_59 : decode cX7_firstSilence 59 = .ok (.invokevirtual 89, 3) := by decide +kernel
theorem dX7_firstSilence_62 : decode cX7_firstSilence 62 = .ok (.ifCond .ne 7, 3) := by decide +kernel
theorem dX7_firstSilence_65 : decode cX7_firstSilence 65 = .ok (.iconst 0, 1) := by decide +kernel
theorem dX7_firstSilence_66 : decode cX7_firstSilence 66 = .ok (.goto 5, 3) := by decide +kernel
theorem dX7_firstSilence_69 : decode cX7_firstSilence 69 = .ok (.bipush (-2), 2) := by decide +kernel
theorem dX7_firstSilence_71 : decode cX7_firstSilence 71 = .ok (.ireturn, 1) := by decide +kernel
theorem dX7_planRound_0 : decode cX7_planRound 0 = .ok (.aload_n 0, 1) := by decide +kernel
theorem dX7_planRound_1 : decode cX7_planRound 1 = .ok (.invokevirtual 92, 3) := by decide +kernel
theorem dX7_planRound_4 : decode cX7_planRound 4 = .ok (.iconst 0, 1) := by decide +kernel
theorem dX7_planRound_5 : decode cX7_planRound 5 = .ok (.istore_n 2, 1) := by decide +kernel
theorem dX7_planRound_6 : decode cX7_planRound 6 = .ok (.iload_n 2, 1) := by decide +kernel
theorem dX7_planRound_7 : decode cX7_planRound 7 = .ok (.iload_n 1, 1) := by decide +kernel
theorem dX7_planRound_8 : decode cX7_planRound 8 = .ok (.if_icmp .gt 22, 3) := by decide +kernel
theorem dX7_planRound_11 : decode cX7_planRound 11 = .ok (.aload_n 0, 1) := by decide +kernel
theorem dX7_planRound_12 : decode cX7_planRound 12 = .ok (.getfield 36, 3) := by decide +kernel
theorem dX7_planRound_15 : decode cX7_planRound 15 = .ok (.iload_n 2, 1) := by decide +kernel
theorem dX7_planRound_16 : decode cX7_planRound 16 = .ok (.aaload, 1) := by decide +kernel
theorem dX7_planRound_17 : decode cX7_planRound 17 = .ok (.aload_n 0, 1) := by decide +kernel
theorem dX7_planRound_18 : decode cX7_planRound 18 = .ok (.getfield 49, 3) := by decide +kernel
theorem dX7_planRound_21 : decode cX7_planRound 21 = .ok (.invokevirtual 58, 3) := by decide +kernel
theorem dX7_planRound_24 : decode cX7_planRound 24 = .ok (.iinc 2 1, 3) := by decide +kernel
theorem dX7_planRound_27 : decode cX7_planRound 27 = .ok (.goto (-21), 3) := by decide +kernel
theorem dX7_planRound_30 : decode cX7_planRound 30 = .ok (.aload_n 0, 1) := by decide +kernel
theorem dX7_planRound_31 : decode cX7_planRound 31 = .ok (.iconst 0, 1) := by decide +kernel
theorem dX7_planRound_32 : decode cX7_planRound 32 = .ok (.iload_n 1, 1) := by decide +kernel
theorem dX7_planRound_33 : decode cX7_planRound 33 = .ok (.invokevirtual 95, 3) := by decide +kernel
theorem dX7_planRound_36 : decode cX7_planRound 36 = .ok (.return_, 1) := by decide +kernel
theorem dX7_forgetBest_0 : decode cX7_forgetBest 0 = .ok (.aload_n 0, 1) := by decide +kernel
theorem dX7_forgetBest_1 : decode cX7_forgetBest 1 = .ok (.ldc 99, 2) := by decide +kernel
theorem dX7_forgetBest_3 : decode cX7_forgetBest 3 = .ok (.putfield 9, 3) := by decide +kernel
theorem dX7_forgetBest_6 : decode cX7_forgetBest 6 = .ok (.aload_n 0, 1) := by decide +kernel
theorem dX7_forgetBest_7 : decode cX7_forgetBest 7 = .ok (.ldc 99, 2) := by decide +kernel
theorem dX7_forgetBest_9 : decode cX7_forgetBest 9 = .ok (.putfield 15, 3) := by decide +kernel
theorem dX7_forgetBest_12 : decode cX7_forgetBest 12 = .ok (.return_, 1) := by decide +kernel
theorem dX7_plan_0 : decode cX7_plan 0 = .ok (.aload_n 0, 1) := by decide +kernel
theorem dX7_plan_1 : decode cX7_plan 1 = .ok (.getfield 36, 3) := by decide +kernel
theorem dX7_plan_4 : decode cX7_plan 4 = .ok (.iload_n 1, 1) := by decide +kernel
theorem dX7_plan_5 : decode cX7_plan 5 = .ok (.aaload, 1) := by decide +kernel
theorem dX7_plan_6 : decode cX7_plan 6 = .ok (.astore_n 3, 1) := by decide +kernel
theorem dX7_plan_7 : decode cX7_plan 7 = .ok (.iload_n 1, 1) := by decide +kernel
theorem dX7_plan_8 : decode cX7_plan 8 = .ok (.iload_n 2, 1) := by decide +kernel
theorem dX7_plan_9 : decode cX7_plan 9 = .ok (.if_icmp .lt 26, 3) := by decide +kernel
theorem dX7_plan_12 : decode cX7_plan 12 = .ok (.aload_n 0, 1) := by decide +kernel
theorem dX7_plan_13 : decode cX7_plan 13 = .ok (.aload_n 3, 1) := by decide +kernel
theorem dX7_plan_14 : decode cX7_plan 14 = .ok (.invokevirtual 100, 3) := by decide +kernel
theorem dX7_plan_17 : decode cX7_plan 17 = .ok (.ifCond .eq 17, 3) := by decide +kernel
theorem dX7_plan_20 : decode cX7_plan 20 = .ok (.aload_n 0, 1) := by decide +kernel
theorem dX7_plan_21 : decode cX7_plan 21 = .ok (.getfield 40, 3) := by decide +kernel
theorem dX7_plan_24 : decode cX7_plan 24 = .ok (.iconst 0, 1) := by decide +kernel
theorem dX7_plan_25 : decode cX7_plan 25 = .ok (.aload_n 0, 1) := by decide +kernel
theorem dX7_plan_26 : decode cX7_plan 26 = .ok (.getfield 18, 3) := by decide +kernel
theorem dX7_plan_29 : decode cX7_plan 29 = .ok (.iconst 0, 1) := by decide +kernel
theorem dX7_plan_30 : decode cX7_plan 30 = .ok (.iconst 3, 1) := by decide +kernel
theorem dX7_plan_31 : decode cX7_plan 31 = .ok (.invokestatic 104, 3) := by decide +kernel
theorem dX7_plan_34 : decode cX7_plan 34 = .ok (.return_, 1) := by decide +kernel
theorem dX7_plan_35 : decode cX7_plan 35 = .ok (.aload_n 3, 1) := by decide +kernel
theorem dX7_plan_36 : decode cX7_plan 36 = .ok (.aload_n 0, 1) := by decide +kernel
theorem dX7_plan_37 : decode cX7_plan 37 = .ok (.getfield 53, 3) := by decide +kernel
theorem dX7_plan_40 : decode cX7_plan 40 = .ok (.invokevirtual 110, 3) := by decide +kernel
theorem dX7_plan_43 : decode cX7_plan 43 = .ok (.iconst 0, 1) := by decide +kernel
theorem dX7_plan_44 : decode cX7_plan 44 = .ok (.istore 4, 2) := by decide +kernel
theorem dX7_plan_46 : decode cX7_plan 46 = .ok (.iconst 0, 1) := by decide +kernel
theorem dX7_plan_47 : decode cX7_plan 47 = .ok (.istore 5, 2) := by decide +kernel
theorem dX7_plan_49 : decode cX7_plan 49 = .ok (.iload 5, 2) := by decide +kernel
theorem dX7_plan_51 : decode cX7_plan 51 = .ok (.bipush 12, 2) := by decide +kernel
theorem dX7_plan_53 : decode cX7_plan 53 = .ok (.if_icmp .ge 79, 3) := by decide +kernel
theorem dX7_plan_56 : decode cX7_plan 56 = .ok (.aload_n 3, 1) := by decide +kernel
theorem dX7_plan_57 : decode cX7_plan 57 = .ok (.getfield 114, 3) := by decide +kernel
theorem dX7_plan_60 : decode cX7_plan 60 = .ok (.iload 5, 2) := by decide +kernel
theorem dX7_plan_62 : decode cX7_plan 62 = .ok (.iaload, 1) := by decide +kernel
theorem dX7_plan_63 : decode cX7_plan 63 = .ok (.ifCond .ge 11, 3) := by decide +kernel
theorem dX7_plan_66 : decode cX7_plan 66 = .ok (.iload 4, 2) := by decide +kernel
theorem dX7_plan_68 : decode cX7_plan 68 = .ok (.ifCond .eq 6, 3) := by decide +kernel
theorem dX7_plan_71 : decode cX7_plan 71 = .ok (.goto 55, 3) := by decide +kernel
theorem dX7_plan_74 : decode cX7_plan 74 = .ok (.iload 4, 2) := by decide +kernel
theorem dX7_plan_76 : decode cX7_plan 76 = .ok (.ifCond .ne 13, 3) := by decide +kernel
theorem dX7_plan_79 : decode cX7_plan 79 = .ok (.aload_n 3, 1) := by decide +kernel
theorem dX7_plan_80 : decode cX7_plan 80 = .ok (.getfield 114, 3) := by decide +kernel
theorem dX7_plan_83 : decode cX7_plan 83 = .ok (.iload 5, 2) := by decide +kernel
theorem dX7_plan_85 : decode cX7_plan 85 = .ok (.iaload, 1) := by decide +kernel
theorem dX7_plan_86 : decode cX7_plan 86 = .ok (.ifCond .ge 7, 3) := by decide +kernel
theorem dX7_plan_89 : decode cX7_plan 89 = .ok (.iconst 1, 1) := by decide +kernel
theorem dX7_plan_90 : decode cX7_plan 90 = .ok (.goto 4, 3) := by decide +kernel
theorem dX7_plan_93 : decode cX7_plan 93 = .ok (.iconst 0, 1) := by decide +kernel
theorem dX7_plan_94 : decode cX7_plan 94 = .ok (.istore 4, 2) := by decide +kernel
theorem dX7_plan_96 : decode cX7_plan 96 = .ok (.aload_n 0, 1) := by decide +kernel
theorem dX7_plan_97 : decode cX7_plan 97 = .ok (.getfield 40, 3) := by decide +kernel
theorem dX7_plan_100 : decode cX7_plan 100 = .ok (.iload_n 1, 1) := by decide +kernel
theorem dX7_plan_101 : decode cX7_plan 101 = .ok (.iload 5, 2) := by decide +kernel
theorem dX7_plan_103 : decode cX7_plan 103 = .ok (.iastore, 1) := by decide +kernel
theorem dX7_plan_104 : decode cX7_plan 104 = .ok (.aload_n 0, 1) := by decide +kernel
theorem dX7_plan_105 : decode cX7_plan 105 = .ok (.getfield 36, 3) := by decide +kernel
theorem dX7_plan_108 : decode cX7_plan 108 = .ok (.iload_n 1, 1) := by decide +kernel
theorem dX7_plan_109 : decode cX7_plan 109 = .ok (.iconst 1, 1) := by decide +kernel
theorem dX7_plan_110 : decode cX7_plan 110 = .ok (.iadd, 1) := by decide +kernel
theorem dX7_plan_111 : decode cX7_plan 111 = .ok (.aaload, 1) := by decide +kernel
theorem dX7_plan_112 : decode cX7_plan 112 = .ok (.aload_n 3, 1) := by decide +kernel
theorem dX7_plan_113 : decode cX7_plan 113 = .ok (.iload 5, 2) := by decide +kernel
theorem dX7_plan_115 : decode cX7_plan 115 = .ok (.invokevirtual 117, 3) := by decide +kernel
theorem dX7_plan_118 : decode cX7_plan 118 = .ok (.aload_n 0, 1) := by decide +kernel
theorem dX7_plan_119 : decode cX7_plan 119 = .ok (.iload_n 1, 1) := by decide +kernel
theorem dX7_plan_120 : decode cX7_plan 120 = .ok (.iconst 1, 1) := by decide +kernel
theorem dX7_plan_121 : decode cX7_plan 121 = .ok (.iadd, 1) := by decide +kernel
theorem dX7_plan_122 : decode cX7_plan 122 = .ok (.iload_n 2, 1) := by decide +kernel
theorem dX7_plan_123 : decode cX7_plan 123 = .ok (.invokevirtual 95, 3) := by decide +kernel
theorem dX7_plan_126 : decode cX7_plan 126 = .ok (.iinc 5 1, 3) := by decide +kernel
theorem dX7_plan_129 : decode cX7_plan 129 = .ok (.goto (-80), 3) := by decide +kernel
theorem dX7_plan_132 : decode cX7_plan 132 = .ok (.return_, 1) := by decide +kernel
theorem dX7_isBetter_0 : decode cX7_isBetter 0 = .ok (.aload_n 1, 1) := by decide +kernel
theorem dX7_isBetter_1 : decode cX7_isBetter 1 = .ok (.invokevirtual 121, 3) := by decide +kernel
theorem dX7_isBetter_4 : decode cX7_isBetter 4 = .ok (.istore_n 2, 1) := by decide +kernel
theorem dX7_isBetter_5 : decode cX7_isBetter 5 = .ok (.aload_n 1, 1) := by decide +kernel
theorem dX7_isBetter_6 : decode cX7_isBetter 6 = .ok (.invokevirtual 124, 3) := by decide +kernel
theorem dX7_isBetter_9 : decode cX7_isBetter 9 = .ok (.istore_n 3, 1) := by decide +kernel
theorem dX7_isBetter_10 : decode cX7_isBetter 10 = .ok (.iload_n 2, 1) := by decide +kernel
theorem dX7_isBetter_11 : decode cX7_isBetter 11 = .ok (.aload_n 0, 1) := by decide +kernel
theorem dX7_isBetter_12 : decode cX7_isBetter 12 = .ok (.getfield 9, 3) := by decide +kernel
theorem dX7_isBetter_15 : decode cX7_isBetter 15 = .ok (.if_icmp .gt 19, 3) := by decide +kernel
theorem dX7_isBetter_18 : decode cX7_isBetter 18 = .ok (.iload_n 2, 1) := by decide +kernel
theorem dX7_isBetter_19 : decode cX7_isBetter 19 = .ok (.aload_n 0, 1) := by decide +kernel
theorem dX7_isBetter_20 : decode cX7_isBetter 20 = .ok (.getfield 9, 3) := by decide +kernel
theorem dX7_isBetter_23 : decode cX7_isBetter 23 = .ok (.if_icmp .ne 13, 3) := by decide +kernel
theorem dX7_isBetter_26 : decode cX7_isBetter 26 = .ok (.iload_n 3, 1) := by decide +kernel
theorem dX7_isBetter_27 : decode cX7_isBetter 27 = .ok (.aload_n 0, 1) := by decide +kernel
theorem dX7_isBetter_28 : decode cX7_isBetter 28 = .ok (.getfield 15, 3) := by decide +kernel
theorem dX7_isBetter_31 : decode cX7_isBetter 31 = .ok (.if_icmp .lt 5, 3) := by decide +kernel
theorem dX7_isBetter_34 : decode cX7_isBetter 34 = .ok (.iconst 0, 1) := by decide +kernel
theorem dX7_isBetter_35 : decode cX7_isBetter 35 = .ok (.ireturn, 1) := by decide +kernel
theorem dX7_isBetter_36 : decode cX7_isBetter 36 = .ok (.aload_n 0, 1) := by decide +kernel
theorem dX7_isBetter_37 : decode cX7_isBetter 37 = .ok (.iload_n 2, 1) := by decide +kernel
theorem dX7_isBetter_38 : decode cX7_isBetter 38 = .ok (.putfield 9, 3) := by decide +kernel
theorem dX7_isBetter_41 : decode cX7_isBetter 41 = .ok (.aload_n 0, 1) := by decide +kernel
theorem dX7_isBetter_42 : decode cX7_isBetter 42 = .ok (.iload_n 3, 1) := by decide +kernel
theorem dX7_isBetter_43 : decode cX7_isBetter 43 = .ok (.putfield 15, 3) := by decide +kernel
theorem dX7_isBetter_46 : decode cX7_isBetter 46 = .ok (.iconst 1, 1) := by decide +kernel
theorem dX7_isBetter_47 : decode cX7_isBetter 47 = .ok (.ireturn, 1) := by decide +kernel
theorem dX7_stepsByAll_0 : decode cX7_stepsByAll 0 = .ok (.aload_n 0, 1) := by decide +kernel
theorem dX7_stepsByAll_1 : decode cX7_stepsByAll 1 = .ok (.getfield 49, 3) := by decide +kernel
theorem dX7_stepsByAll_4 : decode cX7_stepsByAll 4 = .ok (.invokevirtual 127, 3) := by decide +kernel
theorem dX7_stepsByAll_7 : decode cX7_stepsByAll 7 = .ok (.istore_n 1, 1) := by decide +kernel
theorem dX7_stepsByAll_8 : decode cX7_stepsByAll 8 = .ok (.iload_n 1, 1) := by decide +kernel
theorem dX7_stepsByAll_9 : decode cX7_stepsByAll 9 = .ok (.invokestatic 130, 3) := by decide +kernel
theorem dX7_stepsByAll_12 : decode cX7_stepsByAll 12 = .ok (.bipush 6, 2) := by decide +kernel
theorem dX7_stepsByAll_14 : decode cX7_stepsByAll 14 = .ok (.if_icmp .le 6, 3) := by decide +kernel
theorem dX7_stepsByAll_17 : decode cX7_stepsByAll 17 = .ok (.bipush (-5), 2) := by decide +kernel
theorem dX7_stepsByAll_19 : decode cX7_stepsByAll 19 = .ok (.ireturn, 1) := by decide +kernel
theorem dX7_stepsByAll_20 : decode cX7_stepsByAll 20 = .ok (.iconst 0, 1) := by decide +kernel
theorem dX7_stepsByAll_21 : decode cX7_stepsByAll 21 = .ok (.istore_n 2, 1) := by decide +kernel
theorem dX7_stepsByAll_22 : decode cX7_stepsByAll 22 = .ok (.iconst 0, 1) := by decide +kernel
theorem dX7_stepsByAll_23 : decode cX7_stepsByAll 23 = .ok (.istore_n 3, 1) := by decide +kernel
theorem dX7_stepsByAll_24 : decode cX7_stepsByAll 24 = .ok (.iload_n 3, 1) := by decide +kernel
theorem dX7_stepsByAll_25 : decode cX7_stepsByAll 25 = .ok (.bipush 12, 2) := by decide +kernel
theorem dX7_stepsByAll_27 : decode cX7_stepsByAll 27 = .ok (.if_icmp .ge 33, 3) := by decide +kernel
theorem dX7_stepsByAll_30 : decode cX7_stepsByAll 30 = .ok (.iload_n 1, 1) := by decide +kernel
theorem dX7_stepsByAll_31 : decode cX7_stepsByAll 31 = .ok (.iconst 1, 1) := by decide +kernel
theorem dX7_stepsByAll_32 : decode cX7_stepsByAll 32 = .ok (.iload_n 3, 1) := by decide +kernel
theorem dX7_stepsByAll_33 : decode cX7_stepsByAll 33 = .ok (.ishl, 1) := by decide +kernel
theorem dX7_stepsByAll_34 : decode cX7_stepsByAll 34 = .ok (.iand, 1) := by decide +kernel
theorem dX7_stepsByAll_35 : decode cX7_stepsByAll 35 = .ok (.ifCond .eq 19, 3) := by decide +kernel
theorem dX7_stepsByAll_38 : decode cX7_stepsByAll 38 = .ok (.iload_n 2, 1) := by decide +kernel
theorem dX7_stepsByAll_39 : decode cX7_stepsByAll 39 = .ok (.bipush 6, 2) := by decide +kernel
theorem dX7_stepsByAll_41 : decode cX7_stepsByAll 41 = .ok (.if_icmp .ge 13, 3) := by decide +kernel
theorem dX7_stepsByAll_44 : decode cX7_stepsByAll 44 = .ok (.aload_n 0, 1) := by decide +kernel
theorem dX7_stepsByAll_45 : decode cX7_stepsByAll 45 = .ok (.getfield 43, 3) := by decide +kernel
theorem dX7_stepsByAll_48 : decode cX7_stepsByAll 48 = .ok (.iload_n 2, 1) := by decide +kernel
theorem dX7_stepsByAll_49 : decode cX7_stepsByAll 49 = .ok (.iinc 2 1, 3) := by decide +kernel
theorem dX7_stepsByAll_52 : decode cX7_stepsByAll 52 = .ok (.iload_n 3, 1) := by decide +kernel
theorem dX7_stepsByAll_53 : decode cX7_stepsByAll 53 = .ok (.iastore, 1) := by decide +kernel
theorem dX7_stepsByAll_54 : decode cX7_stepsByAll 54 = .ok (.iinc 3 1, 3) := by decide +kernel
theorem dX7_stepsByAll_57 : decode cX7_stepsByAll 57 = .ok (.goto (-33), 3) := by decide +kernel
theorem dX7_stepsByAll_60 : decode cX7_stepsByAll 60 = .ok (.iload_n 2, 1) := by decide +kernel
theorem dX7_stepsByAll_61 : decode cX7_stepsByAll 61 = .ok (.ifCond .ne 5, 3) := by decide +kernel
theorem dX7_stepsByAll_64 : decode cX7_stepsByAll 64 = .ok (.iconst 0, 1) := by decide +kernel
theorem dX7_stepsByAll_65 : decode cX7_stepsByAll 65 = .ok (.ireturn, 1) := by decide +kernel
theorem dX7_stepsByAll_66 : decode cX7_stepsByAll 66 = .ok (.iconst 1, 1) := by decide +kernel
theorem dX7_stepsByAll_67 : decode cX7_stepsByAll 67 = .ok (.iload_n 2, 1) := by decide +kernel
theorem dX7_stepsByAll_68 : decode cX7_stepsByAll 68 = .ok (.ishl, 1) := by decide +kernel
theorem dX7_stepsByAll_69 : decode cX7_stepsByAll 69 = .ok (.iconst 1, 1) := by decide +kernel
theorem dX7_stepsByAll_70 : decode cX7_stepsByAll 70 = .ok (.isub, 1) := by decide +kernel
theorem dX7_stepsByAll_71 : decode cX7_stepsByAll 71 = .ok (.istore_n 3, 1) := by decide +kernel
theorem dX7_stepsByAll_72 : decode cX7_stepsByAll 72 = .ok (.iconst 1, 1) := by decide +kernel
theorem dX7_stepsByAll_73 : decode cX7_stepsByAll 73 = .ok (.istore 4, 2) := by decide +kernel
theorem dX7_stepsByAll_75 : decode cX7_stepsByAll 75 = .ok (.iload 4, 2) := by decide +kernel
theorem dX7_stepsByAll_77 : decode cX7_stepsByAll 77 = .ok (.iload_n 3, 1) := by decide +kernel
theorem dX7_stepsByAll_78 : decode cX7_stepsByAll 78 = .ok (.if_icmp .gt 46, 3) := by decide +kernel
theorem dX7_stepsByAll_81 : decode cX7_stepsByAll 81 = .ok (.iconst 0, 1) := by decide +kernel
theorem dX7_stepsByAll_82 : decode cX7_stepsByAll 82 = .ok (.istore 5, 2) := by decide +kernel
theorem dX7_stepsByAll_84 : decode cX7_stepsByAll 84 = .ok (.iload 5, 2) := by decide +kernel
theorem dX7_stepsByAll_86 : decode cX7_stepsByAll 86 = .ok (.iload_n 2, 1) := by decide +kernel
theorem dX7_stepsByAll_87 : decode cX7_stepsByAll 87 = .ok (.if_icmp .ge 31, 3) := by decide +kernel
theorem dX7_stepsByAll_90 : decode cX7_stepsByAll 90 = .ok (.aload_n 0, 1) := by decide +kernel
theorem dX7_stepsByAll_91 : decode cX7_stepsByAll 91 = .ok (.getfield 46, 3) := by decide +kernel
theorem dX7_stepsByAll_94 : decode cX7_stepsByAll 94 = .ok (.iload 4, 2) := by decide +kernel
theorem dX7_stepsByAll_96 : decode cX7_stepsByAll 96 = .ok (.bipush 6, 2) := by decide +kernel
theorem dX7_stepsByAll_98 : decode cX7_stepsByAll 98 = .ok (.imul, 1) := by decide +kernel
theorem dX7_stepsByAll_99 : decode cX7_stepsByAll 99 = .ok (.iload 5, 2) := by decide +kernel
theorem dX7_stepsByAll_101 : decode cX7_stepsByAll 101 = .ok (.iadd, 1) := by decide +kernel
theorem dX7_stepsByAll_102 : decode cX7_stepsByAll 102 = .ok (.aload_n 0, 1) := by decide +kernel
theorem dX7_stepsByAll_103 : decode cX7_stepsByAll 103 = .ok (.iload 4, 2) := by decide +kernel
theorem dX7_stepsByAll_105 : decode cX7_stepsByAll 105 = .ok (.iload 5, 2) := by decide +kernel
theorem dX7_stepsByAll_107 : decode cX7_stepsByAll 107 = .ok (.iload_n 2, 1) := by decide +kernel
theorem dX7_stepsByAll_108 : decode cX7_stepsByAll 108 = .ok (.invokevirtual 135, 3) := by decide +kernel
theorem dX7_stepsByAll_111 : decode cX7_stepsByAll 111 = .ok (.iastore, 1) := by decide +kernel
theorem dX7_stepsByAll_112 : decode cX7_stepsByAll 112 = .ok (.iinc 5 1, 3) := by decide +kernel
theorem dX7_stepsByAll_115 : decode cX7_stepsByAll 115 = .ok (.goto (-31), 3) := by decide +kernel
theorem dX7_stepsByAll_118 : decode cX7_stepsByAll 118 = .ok (.iinc 4 1, 3) := by decide +kernel
theorem dX7_stepsByAll_121 : decode cX7_stepsByAll 121 = .ok (.goto (-46), 3) := by decide +kernel
theorem dX7_stepsByAll_124 : decode cX7_stepsByAll 124 = .ok (.aload_n 0, 1) := by decide +kernel
theorem dX7_stepsByAll_125 : decode cX7_stepsByAll 125 = .ok (.iload_n 3, 1) := by decide +kernel
theorem dX7_stepsByAll_126 : decode cX7_stepsByAll 126 = .ok (.iload_n 2, 1) := by decide +kernel
theorem dX7_stepsByAll_127 : decode cX7_stepsByAll 127 = .ok (.invokevirtual 139, 3) := by decide +kernel
theorem dX7_stepsByAll_130 : decode cX7_stepsByAll 130 = .ok (.ireturn, 1) := by decide +kernel
theorem dX7_leastSteps_0 : decode cX7_leastSteps 0 = .ok (.iload_n 1, 1) := by decide +kernel
theorem dX7_leastSteps_1 : decode cX7_leastSteps 1 = .ok (.iconst 1, 1) := by decide +kernel
theorem dX7_leastSteps_2 : decode cX7_leastSteps 2 = .ok (.iload_n 2, 1) := by decide +kernel
theorem dX7_leastSteps_3 : decode cX7_leastSteps 3 = .ok (.ishl, 1) := by decide +kernel
theorem dX7_leastSteps_4 : decode cX7_leastSteps 4 = .ok (.iconst (-1), 1) := by decide +kernel
theorem dX7_leastSteps_5 : decode cX7_leastSteps 5 = .ok (.ixor, 1) := by decide +kernel
theorem dX7_leastSteps_6 : decode cX7_leastSteps 6 = .ok (.iand, 1) := by decide +kernel
theorem dX7_leastSteps_7 : decode cX7_leastSteps 7 = .ok (.istore 4, 2) := by decide +kernel
theorem dX7_leastSteps_9 : decode cX7_leastSteps 9 = .ok (.iload 4, 2) := by decide +kernel
theorem dX7_leastSteps_11 : decode cX7_leastSteps 11 = .ok (.iload_n 1, 1) := by decide +kernel
theorem dX7_leastSteps_12 : decode cX7_leastSteps 12 = .ok (.if_icmp .ne 6, 3) := by decide +kernel
theorem dX7_leastSteps_15 : decode cX7_leastSteps 15 = .ok (.ldc 99, 2) := by decide +kernel
theorem dX7_leastSteps_17 : decode cX7_leastSteps 17 = .ok (.ireturn, 1) := by decide +kernel
theorem dX7_leastSteps_18 : decode cX7_leastSteps 18 = .ok (.iload 4, 2) := by decide +kernel
theorem dX7_leastSteps_20 : decode cX7_leastSteps 20 = .ok (.ifCond .ne 20, 3) := by decide +kernel
theorem dX7_leastSteps_23 : decode cX7_leastSteps 23 = .ok (.aload_n 0, 1) := by decide +kernel
theorem dX7_leastSteps_24 : decode cX7_leastSteps 24 = .ok (.getfield 49, 3) := by decide +kernel
theorem dX7_leastSteps_27 : decode cX7_leastSteps 27 = .ok (.getfield 142, 3) := by decide +kernel
theorem dX7_leastSteps_30 : decode cX7_leastSteps 30 = .ok (.aload_n 0, 1) := by decide +kernel
theorem dX7_leastSteps_31 : decode cX7_leastSteps 31 = .ok (.getfield 43, 3) := by decide +kernel
theorem dX7_leastSteps_34 : decode cX7_leastSteps 34 = .ok (.iload_n 2, 1) := by decide +kernel
theorem dX7_leastSteps_35 : decode cX7_leastSteps 35 = .ok (.iaload, 1) := by decide +kernel
theorem dX7_leastSteps_36 : decode cX7_leastSteps 36 = .ok (.invokestatic 145, 3) := by decide +kernel
theorem dX7_leastSteps_39 : decode cX7_leastSteps 39 = .ok (.ireturn, 1) := by decide +kernel
theorem dX7_leastSteps_40 : decode cX7_leastSteps 40 = .ok (.ldc 99, 2) := by decide +kernel
theorem dX7_leastSteps_42 : decode cX7_leastSteps 42 = .ok (.istore 5, 2) := by decide +kernel
theorem dX7_leastSteps_44 : decode cX7_leastSteps 44 = .ok (.iconst 0, 1) := by decide +kernel
theorem dX7_leastSteps_45 : decode cX7_leastSteps 45 = .ok (.istore 6, 2) := by decide +kernel
theorem dX7_leastSteps_47 : decode cX7_leastSteps 47 = .ok (.iload 6, 2) := by decide +kernel
theorem dX7_leastSteps_49 : decode cX7_leastSteps 49 = .ok (.iload_n 3, 1) := by decide +kernel
theorem dX7_leastSteps_50 : decode cX7_leastSteps 50 = .ok (.if_icmp .ge 46, 3) := by decide +kernel
theorem dX7_leastSteps_53 : decode cX7_leastSteps 53 = .ok (.iload 5, 2) := by decide +kernel
theorem dX7_leastSteps_55 : decode cX7_leastSteps 55 = .ok (.aload_n 0, 1) := by decide +kernel
theorem dX7_leastSteps_56 : decode cX7_leastSteps 56 = .ok (.getfield 46, 3) := by decide +kernel
theorem dX7_leastSteps_59 : decode cX7_leastSteps 59 = .ok (.iload 4, 2) := by decide +kernel
theorem dX7_leastSteps_61 : decode cX7_leastSteps 61 = .ok (.bipush 6, 2) := by decide +kernel
theorem dX7_leastSteps_63 : decode cX7_leastSteps 63 = .ok (.imul, 1) := by decide +kernel
theorem dX7_leastSteps_64 : decode cX7_leastSteps 64 = .ok (.iload 6, 2) := by decide +kernel
theorem dX7_leastSteps_66 : decode cX7_leastSteps 66 = .ok (.iadd, 1) := by decide +kernel
theorem dX7_leastSteps_67 : decode cX7_leastSteps 67 = .ok (.iaload, 1) := by decide +kernel
theorem dX7_leastSteps_68 : decode cX7_leastSteps 68 = .ok (.aload_n 0, 1) := by decide +kernel
theorem dX7_leastSteps_69 : decode cX7_leastSteps 69 = .ok (.getfield 43, 3) := by decide +kernel
theorem dX7_leastSteps_72 : decode cX7_leastSteps 72 = .ok (.iload 6, 2) := by decide +kernel
theorem dX7_leastSteps_74 : decode cX7_leastSteps 74 = .ok (.iaload, 1) := by decide +kernel
theorem dX7_leastSteps_75 : decode cX7_leastSteps 75 = .ok (.aload_n 0, 1) := by decide +kernel
theorem dX7_leastSteps_76 : decode cX7_leastSteps 76 = .ok (.getfield 43, 3) := by decide +kernel
theorem dX7_leastSteps_79 : decode cX7_leastSteps 79 = .ok (.iload_n 2, 1) := by decide +kernel
theorem dX7_leastSteps_80 : decode cX7_leastSteps 80 = .ok (.iaload, 1) := by decide +kernel
theorem dX7_leastSteps_81 : decode cX7_leastSteps 81 = .ok (.invokestatic 145, 3) := by decide +kernel
theorem dX7_leastSteps_84 : decode cX7_leastSteps 84 = .ok (.iadd, 1) := by decide +kernel
theorem dX7_leastSteps_85 : decode cX7_leastSteps 85 = .ok (.invokestatic 72, 3) := by decide +kernel
theorem dX7_leastSteps_88 : decode cX7_leastSteps 88 = .ok (.istore 5, 2) := by decide +kernel
theorem dX7_leastSteps_90 : decode cX7_leastSteps 90 = .ok (.iinc 6 1, 3) := by decide +kernel
theorem dX7_leastSteps_93 : decode cX7_leastSteps 93 = .ok (.goto (-46), 3) := by decide +kernel
theorem dX7_leastSteps_96 : decode cX7_leastSteps 96 = .ok (.iload 5, 2) := by decide +kernel
theorem dX7_leastSteps_98 : decode cX7_leastSteps 98 = .ok (.ireturn, 1) := by decide +kernel
theorem dX7_leastOf_0 : decode cX7_leastOf 0 = .ok (.ldc 99, 2) := by decide +kernel
theorem dX7_leastOf_2 : decode cX7_leastOf 2 = .ok (.istore_n 3, 1) := by decide +kernel
theorem dX7_leastOf_3 : decode cX7_leastOf 3 = .ok (.iconst 0, 1) := by decide +kernel
theorem dX7_leastOf_4 : decode cX7_leastOf 4 = .ok (.istore 4, 2) := by decide +kernel
theorem dX7_leastOf_6 : decode cX7_leastOf 6 = .ok (.iload 4, 2) := by decide +kernel
theorem dX7_leastOf_8 : decode cX7_leastOf 8 = .ok (.iload_n 2, 1) := by decide +kernel
theorem dX7_leastOf_9 : decode cX7_leastOf 9 = .ok (.if_icmp .ge 26, 3) := by decide +kernel
theorem dX7_leastOf_12 : decode cX7_leastOf 12 = .ok (.iload_n 3, 1) := by decide +kernel
theorem dX7_leastOf_13 : decode cX7_leastOf 13 = .ok (.aload_n 0, 1) := by decide +kernel
theorem dX7_leastOf_14 : decode cX7_leastOf 14 = .ok (.getfield 46, 3) := by decide +kernel
theorem dX7_leastOf_17 : decode cX7_leastOf 17 = .ok (.iload_n 1, 1) := by decide +kernel
theorem dX7_leastOf_18 : decode cX7_leastOf 18 = .ok (.bipush 6, 2) := by decide +kernel
theorem dX7_leastOf_20 : decode cX7_leastOf 20 = .ok (.imul, 1) := by decide +kernel
theorem dX7_leastOf_21 : decode cX7_leastOf 21 = .ok (.iload 4, 2) := by decide +kernel
theorem dX7_leastOf_23 : decode cX7_leastOf 23 = .ok (.iadd, 1) := by decide +kernel
theorem dX7_leastOf_24 : decode cX7_leastOf 24 = .ok (.iaload, 1) := by decide +kernel
theorem dX7_leastOf_25 : decode cX7_leastOf 25 = .ok (.invokestatic 72, 3) := by decide +kernel
theorem dX7_leastOf_28 : decode cX7_leastOf 28 = .ok (.istore_n 3, 1) := by decide +kernel
theorem dX7_leastOf_29 : decode cX7_leastOf 29 = .ok (.iinc 4 1, 3) := by decide +kernel
theorem dX7_leastOf_32 : decode cX7_leastOf 32 = .ok (.goto (-26), 3) := by decide +kernel
theorem dX7_leastOf_35 : decode cX7_leastOf 35 = .ok (.iload_n 3, 1) := by decide +kernel
theorem dX7_leastOf_36 : decode cX7_leastOf 36 = .ok (.ireturn, 1) := by decide +kernel
theorem dX7_judged_0 : decode cX7_judged 0 = .ok (.aload_n 0, 1) := by decide +kernel
theorem dX7_judged_1 : decode cX7_judged 1 = .ok (.aload_n 0, 1) := by decide +kernel
theorem dX7_judged_2 : decode cX7_judged 2 = .ok (.invokevirtual 62, 3) := by decide +kernel
theorem dX7_judged_5 : decode cX7_judged 5 = .ok (.aload_n 1, 1) := by decide +kernel
theorem dX7_judged_6 : decode cX7_judged 6 = .ok (.aload_n 2, 1) := by decide +kernel
theorem dX7_judged_7 : decode cX7_judged 7 = .ok (.iload_n 3, 1) := by decide +kernel
theorem dX7_judged_8 : decode cX7_judged 8 = .ok (.invokevirtual 148, 3) := by decide +kernel
theorem dX7_judged_11 : decode cX7_judged 11 = .ok (.ireturn, 1) := by decide +kernel
theorem dX7_firstWrong_0 : decode cX7_firstWrong 0 = .ok (.aload_n 2, 1) := by decide +kernel
theorem dX7_firstWrong_1 : decode cX7_firstWrong 1 = .ok (.invokevirtual 66, 3) := by decide +kernel
theorem dX7_firstWrong_4 : decode cX7_firstWrong 4 = .ok (.istore 5, 2) := by decide +kernel
theorem dX7_firstWrong_6 : decode cX7_firstWrong 6 = .ok (.iconst 0, 1) := by decide +kernel
theorem dX7_firstWrong_7 : decode cX7_firstWrong 7 = .ok (.istore 6, 2) := by decide +kernel
theorem dX7_firstWrong_9 : decode cX7_firstWrong 9 = .ok (.iload 6, 2) := by decide +kernel
theorem dX7_firstWrong_11 : decode cX7_firstWrong 11 = .ok (.aload_n 3, 1) := by decide +kernel
theorem dX7_firstWrong_12 : decode cX7_firstWrong 12 = .ok (.getfield 152, 3) := by decide +kernel
theorem dX7_firstWrong_15 : decode cX7_firstWrong 15 = .ok (.if_icmp .ge 59, 3) := by decide +kernel
theorem dX7_firstWrong_18 : decode cX7_firstWrong 18 = .ok (.iload 6, 2) := by decide +kernel
theorem dX7_firstWrong_20 : decode cX7_firstWrong 20 = .ok (.iload 5, 2) := by decide +kernel
theorem dX7_firstWrong_22 : decode cX7_firstWrong 22 = .ok (.if_icmp .le 6, 3) := by decide +kernel
theorem dX7_firstWrong_25 : decode cX7_firstWrong 25 = .ok (.iload 6, 2) := by decide +kernel
theorem dX7_firstWrong_27 : decode cX7_firstWrong 27 = .ok (.ireturn, 1) := by decide +kernel
theorem dX7_firstWrong_28 : decode cX7_firstWrong 28 = .ok (.iload 6, 2) := by decide +kernel
theorem dX7_firstWrong_30 : decode cX7_firstWrong 30 = .ok (.ifCond .le 19, 3) := by decide +kernel
theorem dX7_firstWrong_33 : decode cX7_firstWrong 33 = .ok (.aload_n 1, 1) := by decide +kernel
theorem dX7_firstWrong_34 : decode cX7_firstWrong 34 = .ok (.aload_n 0, 1) := by decide +kernel
theorem dX7_firstWrong_35 : decode cX7_firstWrong 35 = .ok (.getfield 53, 3) := by decide +kernel
theorem dX7_firstWrong_38 : decode cX7_firstWrong 38 = .ok (.aload_n 2, 1) := by decide +kernel
theorem dX7_firstWrong_39 : decode cX7_firstWrong 39 = .ok (.iload 6, 2) := by decide +kernel
theorem dX7_firstWrong_41 : decode cX7_firstWrong 41 = .ok (.iconst 1, 1) := by decide +kernel
theorem dX7_firstWrong_42 : decode cX7_firstWrong 42 = .ok (.isub, 1) := by decide +kernel
theorem dX7_firstWrong_43 : decode cX7_firstWrong 43 = .ok (.invokevirtual 78, 3) := by decide +kernel
theorem dX7_firstWrong_46 : decode cX7_firstWrong 46 = .ok (.invokevirtual 82, 3) := by decide +kernel
theorem dX7_firstWrong_49 : decode cX7_firstWrong 49 = .ok (.aload_n 3, 1) := by decide +kernel
theorem dX7_firstWrong_50 : decode cX7_firstWrong 50 = .ok (.iload 6, 2) := by decide +kernel
theorem dX7_firstWrong_52 : decode cX7_firstWrong 52 = .ok (.invokevirtual 78, 3) := by decide +kernel
theorem dX7_firstWrong_55 : decode cX7_firstWrong 55 = .ok (.aload_n 1, 1) := by decide +kernel
theorem dX7_firstWrong_56 : decode cX7_firstWrong 56 = .ok (.getfield 86, 3) := by decide +kernel
theorem dX7_firstWrong_59 : decode cX7_firstWrong 59 = .ok (.iload 4, 2) := by decide +kernel
theorem dX7_firstWrong_61 : decode cX7_firstWrong 61 = .ok (.iaload, 1) := by decide +kernel
theorem dX7_firstWrong_62 : decode cX7_firstWrong 62 = .ok (.if_icmp .eq 6, 3) := by decide +kernel
theorem dX7_firstWrong_65 : decode cX7_firstWrong 65 = .ok (.iload 6, 2) := by decide +kernel
theorem dX7_firstWrong_67 : decode cX7_firstWrong 67 = .ok (.ireturn, 1) := by decide +kernel
theorem dX7_firstWrong_68 : decode cX7_firstWrong 68 = .ok (.iinc 6 1, 3) := by decide +kernel
theorem dX7_firstWrong_71 : decode cX7_firstWrong 71 = .ok (.goto (-62), 3) := by decide +kernel
theorem dX7_firstWrong_74 : decode cX7_firstWrong 74 = .ok (.bipush (-2), 2) := by decide +kernel
theorem dX7_firstWrong_76 : decode cX7_firstWrong 76 = .ok (.ireturn, 1) := by decide +kernel
theorem dX7_fit_0 : decode cX7_fit 0 = .ok (.aload_n 0, 1) := by decide +kernel
theorem dX7_fit_1 : decode cX7_fit 1 = .ok (.iconst 0, 1) := by decide +kernel
theorem dX7_fit_2 : decode cX7_fit 2 = .ok (.putfield 22, 3) := by decide +kernel
theorem dX7_fit_5 : decode cX7_fit 5 = .ok (.aload_n 0, 1) := by decide +kernel
theorem dX7_fit_6 : decode cX7_fit 6 = .ok (.bipush (-2), 2) := by decide +kernel
theorem dX7_fit_8 : decode cX7_fit 8 = .ok (.putfield 25, 3) := by decide +kernel
theorem dX7_fit_11 : decode cX7_fit 11 = .ok (.iconst 0, 1) := by decide +kernel
theorem dX7_fit_12 : decode cX7_fit 12 = .ok (.istore 5, 2) := by decide +kernel
theorem dX7_fit_14 : decode cX7_fit 14 = .ok (.iload 5, 2) := by decide +kernel
theorem dX7_fit_16 : decode cX7_fit 16 = .ok (.getstatic 155, 3) := by decide +kernel
theorem dX7_fit_19 : decode cX7_fit 19 = .ok (.iload 4, 2) := by decide +kernel
theorem dX7_fit_21 : decode cX7_fit 21 = .ok (.iaload, 1) := by decide +kernel
theorem dX7_fit_22 : decode cX7_fit 22 = .ok (.if_icmp .gt 75, 3) := by decide +kernel
theorem dX7_fit_25 : decode cX7_fit 25 = .ok (.aload_n 0, 1) := by decide +kernel
theorem dX7_fit_26 : decode cX7_fit 26 = .ok (.invokevirtual 62, 3) := by decide +kernel
theorem dX7_fit_29 : decode cX7_fit 29 = .ok (.astore 6, 2) := by decide +kernel
theorem dX7_fit_31 : decode cX7_fit 31 = .ok (.aload 6, 2) := by decide +kernel
theorem dX7_fit_33 : decode cX7_fit 33 = .ok (.iload_n 3, 1) := by decide +kernel
theorem dX7_fit_34 : decode cX7_fit 34 = .ok (.bipush 10, 2) := by decide +kernel
theorem dX7_fit_36 : decode cX7_fit 36 = .ok (.irem, 1) := by decide +kernel
theorem dX7_fit_37 : decode cX7_fit 37 = .ok (.iload 4, 2) := by decide +kernel
theorem dX7_fit_39 : decode cX7_fit 39 = .ok (.iload 5, 2) := by decide +kernel
theorem dX7_fit_41 : decode cX7_fit 41 = .ok (.invokevirtual 158, 3) := by decide +kernel
theorem dX7_fit_44 : decode cX7_fit 44 = .ok (.aload_n 0, 1) := by decide +kernel
theorem dX7_fit_45 : decode cX7_fit 45 = .ok (.aload 6, 2) := by decide +kernel
theorem dX7_fit_47 : decode cX7_fit 47 = .ok (.aload_n 1, 1) := by decide +kernel
theorem dX7_fit_48 : decode cX7_fit 48 = .ok (.aload_n 2, 1) := by decide +kernel
theorem dX7_fit_49 : decode cX7_fit 49 = .ok (.iload_n 3, 1) := by decide +kernel
theorem dX7_fit_50 : decode cX7_fit 50 = .ok (.bipush 10, 2) := by decide +kernel
theorem dX7_fit_52 : decode cX7_fit 52 = .ok (.idiv, 1) := by decide +kernel
theorem dX7_fit_53 : decode cX7_fit 53 = .ok (.invokevirtual 148, 3) := by decide +kernel
theorem dX7_fit_56 : decode cX7_fit 56 = .ok (.bipush (-2), 2) := by decide +kernel
theorem dX7_fit_58 : decode cX7_fit 58 = .ok (.if_icmp .ne 33, 3) := by decide +kernel
theorem dX7_fit_61 : decode cX7_fit 61 = .ok (.aload_n 0, 1) := by decide +kernel
theorem dX7_fit_62 : decode cX7_fit 62 = .ok (.aload_n 0, 1) := by decide +kernel
theorem dX7_fit_63 : decode cX7_fit 63 = .ok (.getfield 22, 3) := by decide +kernel
theorem dX7_fit_66 : decode cX7_fit 66 = .ok (.ifCond .ne 8, 3) := by decide +kernel
theorem dX7_fit_69 : decode cX7_fit 69 = .ok (.iload 5, 2) := by decide +kernel
theorem dX7_fit_71 : decode cX7_fit 71 = .ok (.goto 7, 3) := by decide +kernel
theorem dX7_fit_74 : decode cX7_fit 74 = .ok (.aload_n 0, 1) := by decide +kernel
theorem dX7_fit_75 : decode cX7_fit 75 = .ok (.getfield 25, 3) := by decide +kernel
theorem dX7_fit_78 : decode cX7_fit 78 = .ok (.putfield 25, 3) := by decide +kernel
theorem dX7_fit_81 : decode cX7_fit 81 = .ok (.aload_n 0, 1) := by decide +kernel
theorem dX7_fit_82 : decode cX7_fit 82 = .ok (.dup, 1) := by decide +kernel
theorem dX7_fit_83 : decode cX7_fit 83 = .ok (.getfield 22, 3) := by decide +kernel
theorem dX7_fit_86 : decode cX7_fit 86 = .ok (.iconst 1, 1) := by decide +kernel
theorem dX7_fit_87 : decode cX7_fit 87 = .ok (.iadd, 1) := by decide +kernel
theorem dX7_fit_88 : decode cX7_fit 88 = .ok (.putfield 22, 3) := by decide +kernel
theorem dX7_fit_91 : decode cX7_fit 91 = .ok (.iinc 5 1, 3) := by decide +kernel
theorem dX7_fit_94 : decode cX7_fit 94 = .ok (.goto (-80), 3) := by decide +kernel
theorem dX7_fit_97 : decode cX7_fit 97 = .ok (.return_, 1) := by decide +kernel
theorem dX7_deal_0 : decode cX7_deal 0 = .ok (.aload_n 0, 1) := by decide +kernel
theorem dX7_deal_1 : decode cX7_deal 1 = .ok (.invokevirtual 92, 3) := by decide +kernel
theorem dX7_deal_4 : decode cX7_deal 4 = .ok (.aload_n 0, 1) := by decide +kernel
theorem dX7_deal_5 : decode cX7_deal 5 = .ok (.invokevirtual 62, 3) := by decide +kernel
theorem dX7_deal_8 : decode cX7_deal 8 = .ok (.astore_n 1, 1) := by decide +kernel
theorem dX7_deal_9 : decode cX7_deal 9 = .ok (.aload_n 1, 1) := by decide +kernel
theorem dX7_deal_10 : decode cX7_deal 10 = .ok (.aload_n 0, 1) := by decide +kernel
theorem dX7_deal_11 : decode cX7_deal 11 = .ok (.getfield 53, 3) := by decide +kernel
theorem dX7_deal_14 : decode cX7_deal 14 = .ok (.iconst (-1), 1) := by decide +kernel
theorem dX7_deal_15 : decode cX7_deal 15 = .ok (.invokevirtual 82, 3) := by decide +kernel
theorem dX7_deal_18 : decode cX7_deal 18 = .ok (.aload_n 0, 1) := by decide +kernel
theorem dX7_deal_19 : decode cX7_deal 19 = .ok (.aload_n 1, 1) := by decide +kernel
theorem dX7_deal_20 : decode cX7_deal 20 = .ok (.invokevirtual 100, 3) := by decide +kernel
theorem dX7_deal_23 : decode cX7_deal 23 = .ok (.pop, 1) := by decide +kernel
theorem dX7_deal_24 : decode cX7_deal 24 = .ok (.aload_n 0, 1) := by decide +kernel
theorem dX7_deal_25 : decode cX7_deal 25 = .ok (.bipush (-9), 2) := by decide +kernel
theorem dX7_deal_27 : decode cX7_deal 27 = .ok (.putfield 28, 3) := by decide +kernel
theorem dX7_deal_30 : decode cX7_deal 30 = .ok (.iconst 0, 1) := by decide +kernel
theorem dX7_deal_31 : decode cX7_deal 31 = .ok (.istore_n 2, 1) := by decide +kernel
theorem dX7_deal_32 : decode cX7_deal 32 = .ok (.iload_n 2, 1) := by decide +kernel
theorem dX7_deal_33 : decode cX7_deal 33 = .ok (.bipush 12, 2) := by decide +kernel
theorem dX7_deal_35 : decode cX7_deal 35 = .ok (.if_icmp .ge 73, 3) := by decide +kernel
theorem dX7_deal_38 : decode cX7_deal 38 = .ok (.iload_n 2, 1) := by decide +kernel
theorem dX7_deal_39 : decode cX7_deal 39 = .ok (.iconst 1, 1) := by decide +kernel
theorem dX7_deal_40 : decode cX7_deal 40 = .ok (.iadd, 1) := by decide +kernel
theorem dX7_deal_41 : decode cX7_deal 41 = .ok (.istore_n 3, 1) := by decide +kernel
theorem dX7_deal_42 : decode cX7_deal 42 = .ok (.iload_n 3, 1) := by decide +kernel
theorem dX7_deal_43 : decode cX7_deal 43 = .ok (.bipush 12, 2) := by decide +kernel
theorem dX7_deal_45 : decode cX7_deal 45 = .ok (.if_icmp .ge 57, 3) := by decide +kernel
theorem dX7_deal_48 : decode cX7_deal 48 = .ok (.aload_n 1, 1) := by decide +kernel
theorem dX7_deal_49 : decode cX7_deal 49 = .ok (.aload_n 0, 1) := by decide +kernel
theorem dX7_deal_50 : decode cX7_deal 50 = .ok (.getfield 49, 3) := by decide +kernel
theorem dX7_deal_53 : decode cX7_deal 53 = .ok (.invokevirtual 58, 3) := by decide +kernel
theorem dX7_deal_56 : decode cX7_deal 56 = .ok (.aload_n 1, 1) := by decide +kernel
theorem dX7_deal_57 : decode cX7_deal 57 = .ok (.iload_n 2, 1) := by decide +kernel
theorem dX7_deal_58 : decode cX7_deal 58 = .ok (.iload_n 3, 1) := by decide +kernel
theorem dX7_deal_59 : decode cX7_deal 59 = .ok (.invokevirtual 162, 3) := by decide +kernel
theorem dX7_deal_62 : decode cX7_deal 62 = .ok (.aload_n 1, 1) := by decide +kernel
theorem dX7_deal_63 : decode cX7_deal 63 = .ok (.aload_n 0, 1) := by decide +kernel
theorem dX7_deal_64 : decode cX7_deal 64 = .ok (.getfield 53, 3) := by decide +kernel
theorem dX7_deal_67 : decode cX7_deal 67 = .ok (.iconst (-1), 1) := by decide +kernel
theorem dX7_deal_68 : decode cX7_deal 68 = .ok (.invokevirtual 82, 3) := by decide +kernel
theorem dX7_deal_71 : decode cX7_deal 71 = .ok (.aload_n 0, 1) := by decide +kernel
theorem dX7_deal_72 : decode cX7_deal 72 = .ok (.aload_n 0, 1) := by decide +kernel
theorem dX7_deal_73 : decode cX7_deal 73 = .ok (.aload_n 1, 1) := by decide +kernel
theorem dX7_deal_74 : decode cX7_deal 74 = .ok (.invokevirtual 100, 3) := by decide +kernel
theorem dX7_deal_77 : decode cX7_deal 77 = .ok (.ifCond .eq 12, 3) := by decide +kernel
theorem dX7_deal_80 : decode cX7_deal 80 = .ok (.bipush 12, 2) := by decide +kernel
theorem dX7_deal_82 : decode cX7_deal 82 = .ok (.iload_n 2, 1) := by decide +kernel
theorem dX7_deal_83 : decode cX7_deal 83 = .ok (.imul, 1) := by decide +kernel
theorem dX7_deal_84 : decode cX7_deal 84 = .ok (.iload_n 3, 1) := by decide +kernel
theorem dX7_deal_85 : decode cX7_deal 85 = .ok (.iadd, 1) := by decide +kernel
theorem dX7_deal_86 : decode cX7_deal 86 = .ok (.goto 7, 3) := by decide +kernel
theorem dX7_deal_89 : decode cX7_deal 89 = .ok (.aload_n 0, 1) := by decide +kernel
theorem dX7_deal_90 : decode cX7_deal 90 = .ok (.getfield 28, 3) := by decide +kernel
theorem dX7_deal_93 : decode cX7_deal 93 = .ok (.putfield 28, 3) := by decide +kernel
theorem dX7_deal_96 : decode cX7_deal 96 = .ok (.iinc 3 1, 3) := by decide +kernel
theorem dX7_deal_99 : decode cX7_deal 99 = .ok (.goto (-57), 3) := by decide +kernel
theorem dX7_deal_102 : decode cX7_deal 102 = .ok (.iinc 2 1, 3) := by decide +kernel
theorem dX7_deal_105 : decode cX7_deal 105 = .ok (.goto (-73), 3) := by decide +kernel
theorem dX7_deal_108 : decode cX7_deal 108 = .ok (.return_, 1) := by decide +kernel
theorem dX7_playTurns_0 : decode cX7_playTurns 0 = .ok (.iconst 0, 1) := by decide +kernel
theorem dX7_playTurns_1 : decode cX7_playTurns 1 = .ok (.istore_n 2, 1) := by decide +kernel
theorem dX7_playTurns_2 : decode cX7_playTurns 2 = .ok (.iload_n 2, 1) := by decide +kernel
theorem dX7_playTurns_3 : decode cX7_playTurns 3 = .ok (.iload_n 1, 1) := by decide +kernel
theorem dX7_playTurns_4 : decode cX7_playTurns 4 = .ok (.if_icmp .gt 22, 3) := by decide +kernel
theorem dX7_playTurns_7 : decode cX7_playTurns 7 = .ok (.aload_n 0, 1) := by decide +kernel
theorem dX7_playTurns_8 : decode cX7_playTurns 8 = .ok (.getfield 36, 3) := by decide +kernel
theorem dX7_playTurns_11 : decode cX7_playTurns 11 = .ok (.iload_n 2, 1) := by decide +kernel
theorem dX7_playTurns_12 : decode cX7_playTurns 12 = .ok (.aaload, 1) := by decide +kernel
theorem dX7_playTurns_13 : decode cX7_playTurns 13 = .ok (.aload_n 0, 1) := by decide +kernel
theorem dX7_playTurns_14 : decode cX7_playTurns 14 = .ok (.getfield 49, 3) := by decide +kernel
theorem dX7_playTurns_17 : decode cX7_playTurns 17 = .ok (.invokevirtual 58, 3) := by decide +kernel
theorem dX7_playTurns_20 : decode cX7_playTurns 20 = .ok (.iinc 2 1, 3) := by decide +kernel
theorem dX7_playTurns_23 : decode cX7_playTurns 23 = .ok (.goto (-21), 3) := by decide +kernel
theorem dX7_playTurns_26 : decode cX7_playTurns 26 = .ok (.aload_n 0, 1) := by decide +kernel
theorem dX7_playTurns_27 : decode cX7_playTurns 27 = .ok (.iconst 0, 1) := by decide +kernel
theorem dX7_playTurns_28 : decode cX7_playTurns 28 = .ok (.iload_n 1, 1) := by decide +kernel
theorem dX7_playTurns_29 : decode cX7_playTurns 29 = .ok (.invokevirtual 165, 3) := by decide +kernel
theorem dX7_playTurns_32 : decode cX7_playTurns 32 = .ok (.ireturn, 1) := by decide +kernel
theorem dX7_outcome_0 : decode cX7_outcome 0 = .ok (.aload_n 0, 1) := by decide +kernel
theorem dX7_outcome_1 : decode cX7_outcome 1 = .ok (.getfield 36, 3) := by decide +kernel
theorem dX7_outcome_4 : decode cX7_outcome 4 = .ok (.iload_n 1, 1) := by decide +kernel
theorem dX7_outcome_5 : decode cX7_outcome 5 = .ok (.aaload, 1) := by decide +kernel
theorem dX7_outcome_6 : decode cX7_outcome 6 = .ok (.astore_n 3, 1) := by decide +kernel
theorem dX7_outcome_7 : decode cX7_outcome 7 = .ok (.iload_n 1, 1) := by decide +kernel
theorem dX7_outcome_8 : decode cX7_outcome 8 = .ok (.iload_n 2, 1) := by decide +kernel
theorem dX7_outcome_9 : decode cX7_outcome 9 = .ok (.if_icmp .lt 8, 3) := by decide +kernel
theorem dX7_outcome_12 : decode cX7_outcome 12 = .ok (.aload_n 3, 1) := by decide +kernel
theorem dX7_outcome_13 : decode cX7_outcome 13 = .ok (.invokevirtual 121, 3) := by decide +kernel
theorem dX7_outcome_16 : decode cX7_outcome 16 = .ok (.ireturn, 1) := by decide +kernel
theorem dX7_outcome_17 : decode cX7_outcome 17 = .ok (.iload_n 1, 1) := by decide +kernel
theorem dX7_outcome_18 : decode cX7_outcome 18 = .ok (.iconst 2, 1) := by decide +kernel
theorem dX7_outcome_19 : decode cX7_outcome 19 = .ok (.irem, 1) := by decide +kernel
theorem dX7_outcome_20 : decode cX7_outcome 20 = .ok (.ifCond .ne 7, 3) := by decide +kernel
theorem dX7_outcome_23 : decode cX7_outcome 23 = .ok (.iconst 1, 1) := by decide +kernel
theorem dX7_outcome_24 : decode cX7_outcome 24 = .ok (.goto 4, 3) := by decide +kernel
theorem dX7_outcome_27 : decode cX7_outcome 27 = .ok (.iconst 0, 1) := by decide +kernel
theorem dX7_outcome_28 : decode cX7_outcome 28 = .ok (.istore 4, 2) := by decide +kernel
theorem dX7_outcome_30 : decode cX7_outcome 30 = .ok (.iload 4, 2) := by decide +kernel
theorem dX7_outcome_32 : decode cX7_outcome 32 = .ok (.ifCond .eq 7, 3) := by decide +kernel
theorem dX7_outcome_35 : decode cX7_outcome 35 = .ok (.iconst 0, 1) := by decide +kernel
theorem dX7_outcome_36 : decode cX7_outcome 36 = .ok (.goto 5, 3) := by decide +kernel
theorem dX7_outcome_39 : decode cX7_outcome 39 = .ok (.bipush 6, 2) := by decide +kernel
theorem dX7_outcome_41 : decode cX7_outcome 41 = .ok (.istore 5, 2) := by decide +kernel
theorem dX7_outcome_43 : decode cX7_outcome 43 = .ok (.bipush 12, 2) := by decide +kernel
theorem dX7_outcome_45 : decode cX7_outcome 45 = .ok (.istore 6, 2) := by decide +kernel
theorem dX7_outcome_47 : decode cX7_outcome 47 = .ok (.aload_n 0, 1) := by decide +kernel
theorem dX7_outcome_48 : decode cX7_outcome 48 = .ok (.getfield 36, 3) := by decide +kernel
theorem dX7_outcome_51 : decode cX7_outcome 51 = .ok (.iload_n 1, 1) := by decide +kernel
theorem dX7_outcome_52 : decode cX7_outcome 52 = .ok (.iconst 1, 1) := by decide +kernel
theorem dX7_outcome_53 : decode cX7_outcome 53 = .ok (.iadd, 1) := by decide +kernel
theorem dX7_outcome_54 : decode cX7_outcome 54 = .ok (.aaload, 1) := by decide +kernel
theorem dX7_outcome_55 : decode cX7_outcome 55 = .ok (.aload_n 3, 1) := by decide +kernel
theorem dX7_outcome_56 : decode cX7_outcome 56 = .ok (.invokevirtual 168, 3) := by decide +kernel
theorem dX7_outcome_59 : decode cX7_outcome 59 = .ok (.aload_n 0, 1) := by decide +kernel
theorem dX7_outcome_60 : decode cX7_outcome 60 = .ok (.iload_n 1, 1) := by decide +kernel
theorem dX7_outcome_61 : decode cX7_outcome 61 = .ok (.iconst 1, 1) := by decide +kernel
theorem dX7_outcome_62 : decode cX7_outcome 62 = .ok (.iadd, 1) := by decide +kernel
theorem dX7_outcome_63 : decode cX7_outcome 63 = .ok (.iload_n 2, 1) := by decide +kernel
theorem dX7_outcome_64 : decode cX7_outcome 64 = .ok (.invokevirtual 165, 3) := by decide +kernel
theorem dX7_outcome_67 : decode cX7_outcome 67 = .ok (.istore 7, 2) := by decide +kernel
theorem dX7_outcome_69 : decode cX7_outcome 69 = .ok (.iload 5, 2) := by decide +kernel
theorem dX7_outcome_71 : decode cX7_outcome 71 = .ok (.istore 8, 2) := by decide +kernel
theorem dX7_outcome_73 : decode cX7_outcome 73 = .ok (.iload 8, 2) := by decide +kernel
theorem dX7_outcome_75 : decode cX7_outcome 75 = .ok (.iload 5, 2) := by decide +kernel
theorem dX7_outcome_77 : decode cX7_outcome 77 = .ok (.bipush 6, 2) := by decide +kernel
theorem dX7_outcome_79 : decode cX7_outcome 79 = .ok (.iadd, 1) := by decide +kernel
theorem dX7_outcome_80 : decode cX7_outcome 80 = .ok (.if_icmp .ge 62, 3) := by decide +kernel
theorem dX7_outcome_83 : decode cX7_outcome 83 = .ok (.aload_n 3, 1) := by decide +kernel
theorem dX7_outcome_84 : decode cX7_outcome 84 = .ok (.getfield 114, 3) := by decide +kernel
theorem dX7_outcome_87 : decode cX7_outcome 87 = .ok (.iload 8, 2) := by decide +kernel
theorem dX7_outcome_89 : decode cX7_outcome 89 = .ok (.iaload, 1) := by decide +kernel
theorem dX7_outcome_90 : decode cX7_outcome 90 = .ok (.ifCond .ge 6, 3) := by decide +kernel
theorem dX7_outcome_93 : decode cX7_outcome 93 = .ok (.goto 43, 3) := by decide +kernel
theorem dX7_outcome_96 : decode cX7_outcome 96 = .ok (.aload_n 0, 1) := by decide +kernel
theorem dX7_outcome_97 : decode cX7_outcome 97 = .ok (.iload_n 1, 1) := by decide +kernel
theorem dX7_outcome_98 : decode cX7_outcome 98 = .ok (.iload_n 2, 1) := by decide +kernel
theorem dX7_outcome_99 : decode cX7_outcome 99 = .ok (.iload 8, 2) := by decide +kernel
theorem dX7_outcome_101 : decode cX7_outcome 101 = .ok (.invokevirtual 171, 3) := by decide +kernel
theorem dX7_outcome_104 : decode cX7_outcome 104 = .ok (.istore 9, 2) := by decide +kernel
theorem dX7_outcome_106 : decode cX7_outcome 106 = .ok (.iload 4, 2) := by decide +kernel
theorem dX7_outcome_108 : decode cX7_outcome 108 = .ok (.ifCond .eq 13, 3) := by decide +kernel
theorem dX7_outcome_111 : decode cX7_outcome 111 = .ok (.iload 9, 2) := by decide +kernel
theorem dX7_outcome_113 : decode cX7_outcome 113 = .ok (.iload 7, 2) := by decide +kernel
theorem dX7_outcome_115 : decode cX7_outcome 115 = .ok (.if_icmp .ge 21, 3) := by decide +kernel
theorem dX7_outcome_118 : decode cX7_outcome 118 = .ok (.goto 10, 3) := by decide +kernel
theorem dX7_outcome_121 : decode cX7_outcome 121 = .ok (.iload 9, 2) := by decide +kernel
theorem dX7_outcome_123 : decode cX7_outcome 123 = .ok (.iload 7, 2) := by decide +kernel
theorem dX7_outcome_125 : decode cX7_outcome 125 = .ok (.if_icmp .le 11, 3) := by decide +kernel
theorem dX7_outcome_128 : decode cX7_outcome 128 = .ok (.iload 9, 2) := by decide +kernel
theorem dX7_outcome_130 : decode cX7_outcome 130 = .ok (.istore 7, 2) := by decide +kernel
theorem dX7_outcome_132 : decode cX7_outcome 132 = .ok (.iload 8, 2) := by decide +kernel
theorem dX7_outcome_134 : decode cX7_outcome 134 = .ok (.istore 6, 2) := by decide +kernel
theorem dX7_outcome_136 : decode cX7_outcome 136 = .ok (.iinc 8 1, 3) := by decide +kernel
theorem dX7_outcome_139 : decode cX7_outcome 139 = .ok (.goto (-66), 3) := by decide +kernel
theorem dX7_outcome_142 : decode cX7_outcome 142 = .ok (.aload_n 0, 1) := by decide +kernel
theorem dX7_outcome_143 : decode cX7_outcome 143 = .ok (.iload 6, 2) := by decide +kernel
theorem dX7_outcome_145 : decode cX7_outcome 145 = .ok (.putfield 31, 3) := by decide +kernel
theorem dX7_outcome_148 : decode cX7_outcome 148 = .ok (.iload 7, 2) := by decide +kernel
theorem dX7_outcome_150 : decode cX7_outcome 150 = .ok (.ireturn, 1) := by decide +kernel
theorem dX7_outcomeOf_0 : decode cX7_outcomeOf 0 = .ok (.aload_n 0, 1) := by decide +kernel
theorem dX7_outcomeOf_1 : decode cX7_outcomeOf 1 = .ok (.getfield 36, 3) := by decide +kernel
theorem dX7_outcomeOf_4 : decode cX7_outcomeOf 4 = .ok (.iload_n 1, 1) := by decide +kernel
theorem dX7_outcomeOf_5 : decode cX7_outcomeOf 5 = .ok (.iconst 1, 1) := by decide +kernel
theorem dX7_outcomeOf_6 : decode cX7_outcomeOf 6 = .ok (.iadd, 1) := by decide +kernel
theorem dX7_outcomeOf_7 : decode cX7_outcomeOf 7 = .ok (.aaload, 1) := by decide +kernel
theorem dX7_outcomeOf_8 : decode cX7_outcomeOf 8 = .ok (.astore 4, 2) := by decide +kernel
theorem dX7_outcomeOf_10 : decode cX7_outcomeOf 10 = .ok (.aload 4, 2) := by decide +kernel
theorem dX7_outcomeOf_12 : decode cX7_outcomeOf 12 = .ok (.aload_n 0, 1) := by decide +kernel
theorem dX7_outcomeOf_13 : decode cX7_outcomeOf 13 = .ok (.getfield 36, 3) := by decide +kernel
theorem dX7_outcomeOf_16 : decode cX7_outcomeOf 16 = .ok (.iload_n 1, 1) := by decide +kernel
theorem dX7_outcomeOf_17 : decode cX7_outcomeOf 17 = .ok (.aaload, 1) := by decide +kernel
theorem dX7_outcomeOf_18 : decode cX7_outcomeOf 18 = .ok (.invokevirtual 168, 3) := by decide +kernel
theorem dX7_outcomeOf_21 : decode cX7_outcomeOf 21 = .ok (.iload_n 1, 1) := by decide +kernel
