theorem dX8_study_149 : decode cX8_study 149 = .ok (.iconst 1, 1) := by decide +kernel
theorem dX8_study_150 : decode cX8_study 150 = .ok (.isub, 1) := by decide +kernel
theorem dX8_study_151 : decode cX8_study 151 = .ok (.invokevirtual 178, 3) := by decide +kernel
theorem dX8_study_154 : decode cX8_study 154 = .ok (.aload_n 0, 1) := by decide +kernel
theorem dX8_study_155 : decode cX8_study 155 = .ok (.iload_n 1, 1) := by decide +kernel
theorem dX8_study_156 : decode cX8_study 156 = .ok (.invokevirtual 181, 3) := by decide +kernel
theorem dX8_study_159 : decode cX8_study 159 = .ok (.return_, 1) := by decide +kernel
theorem dX8_ofX_0 : decode cX8_ofX 0 = .ok (.aload_n 0, 1) := by decide +kernel
theorem dX8_ofX_1 : decode cX8_ofX 1 = .ok (.getfield 22, 3) := by decide +kernel
theorem dX8_ofX_4 : decode cX8_ofX 4 = .ok (.iload_n 1, 1) := by decide +kernel
theorem dX8_ofX_5 : decode cX8_ofX 5 = .ok (.iaload, 1) := by decide +kernel
theorem dX8_ofX_6 : decode cX8_ofX 6 = .ok (.iconst 2, 1) := by decide +kernel
theorem dX8_ofX_7 : decode cX8_ofX 7 = .ok (.if_icmp .ne 41, 3) := by decide +kernel
theorem dX8_ofX_10 : decode cX8_ofX 10 = .ok (.aload_n 0, 1) := by decide +kernel
theorem dX8_ofX_11 : decode cX8_ofX 11 = .ok (.getfield 78, 3) := by decide +kernel
theorem dX8_ofX_14 : decode cX8_ofX 14 = .ok (.iconst 2, 1) := by decide +kernel
theorem dX8_ofX_15 : decode cX8_ofX 15 = .ok (.aload_n 0, 1) := by decide +kernel
theorem dX8_ofX_16 : decode cX8_ofX 16 = .ok (.getfield 78, 3) := by decide +kernel
theorem dX8_ofX_19 : decode cX8_ofX 19 = .ok (.iconst 1, 1) := by decide +kernel
theorem dX8_ofX_20 : decode cX8_ofX 20 = .ok (.laload, 1) := by decide +kernel
theorem dX8_ofX_21 : decode cX8_ofX 21 = .ok (.lastore, 1) := by decide +kernel
theorem dX8_ofX_22 : decode cX8_ofX 22 = .ok (.aload_n 0, 1) := by decide +kernel
theorem dX8_ofX_23 : decode cX8_ofX 23 = .ok (.getfield 81, 3) := by decide +kernel
theorem dX8_ofX_26 : decode cX8_ofX 26 = .ok (.iconst 2, 1) := by decide +kernel
theorem dX8_ofX_27 : decode cX8_ofX 27 = .ok (.aload_n 0, 1) := by decide +kernel
theorem dX8_ofX_28 : decode cX8_ofX 28 = .ok (.getfield 81, 3) := by decide +kernel
theorem dX8_ofX_31 : decode cX8_ofX 31 = .ok (.iconst 1, 1) := by decide +kernel
theorem dX8_ofX_32 : decode cX8_ofX 32 = .ok (.laload, 1) := by decide +kernel
theorem dX8_ofX_33 : decode cX8_ofX 33 = .ok (.lastore, 1) := by decide +kernel
theorem dX8_ofX_34 : decode cX8_ofX 34 = .ok (.aload_n 0, 1) := by decide +kernel
theorem dX8_ofX_35 : decode cX8_ofX 35 = .ok (.getfield 78, 3) := by decide +kernel
theorem dX8_ofX_38 : decode cX8_ofX 38 = .ok (.iconst 1, 1) := by decide +kernel
theorem dX8_ofX_39 : decode cX8_ofX 39 = .ok (.lconst 0, 1) := by decide +kernel
theorem dX8_ofX_40 : decode cX8_ofX 40 = .ok (.lastore, 1) := by decide +kernel
theorem dX8_ofX_41 : decode cX8_ofX 41 = .ok (.aload_n 0, 1) := by decide +kernel
theorem dX8_ofX_42 : decode cX8_ofX 42 = .ok (.getfield 81, 3) := by decide +kernel
theorem dX8_ofX_45 : decode cX8_ofX 45 = .ok (.iconst 1, 1) := by decide +kernel
theorem dX8_ofX_46 : decode cX8_ofX 46 = .ok (.lconst 1, 1) := by decide +kernel
theorem dX8_ofX_47 : decode cX8_ofX 47 = .ok (.lastore, 1) := by decide +kernel
theorem dX8_ofX_48 : decode cX8_ofX 48 = .ok (.return_, 1) := by decide +kernel
theorem dX8_areTurns_0 : decode cX8_areTurns 0 = .ok (.aload_n 0, 1) := by decide +kernel
theorem dX8_areTurns_1 : decode cX8_areTurns 1 = .ok (.iload_n 1, 1) := by decide +kernel
theorem dX8_areTurns_2 : decode cX8_areTurns 2 = .ok (.invokevirtual 185, 3) := by decide +kernel
theorem dX8_areTurns_5 : decode cX8_areTurns 5 = .ok (.ifCond .eq 42, 3) := by decide +kernel
theorem dX8_areTurns_8 : decode cX8_areTurns 8 = .ok (.aload_n 0, 1) := by decide +kernel
theorem dX8_areTurns_9 : decode cX8_areTurns 9 = .ok (.getfield 22, 3) := by decide +kernel
theorem dX8_areTurns_12 : decode cX8_areTurns 12 = .ok (.iload_n 1, 1) := by decide +kernel
theorem dX8_areTurns_13 : decode cX8_areTurns 13 = .ok (.iaload, 1) := by decide +kernel
theorem dX8_areTurns_14 : decode cX8_areTurns 14 = .ok (.iconst 1, 1) := by decide +kernel
theorem dX8_areTurns_15 : decode cX8_areTurns 15 = .ok (.if_icmp .eq 13, 3) := by decide +kernel
theorem dX8_areTurns_18 : decode cX8_areTurns 18 = .ok (.aload_n 0, 1) := by decide +kernel
theorem dX8_areTurns_19 : decode cX8_areTurns 19 = .ok (.getfield 22, 3) := by decide +kernel
theorem dX8_areTurns_22 : decode cX8_areTurns 22 = .ok (.iload_n 1, 1) := by decide +kernel
theorem dX8_areTurns_23 : decode cX8_areTurns 23 = .ok (.iaload, 1) := by decide +kernel
theorem dX8_areTurns_24 : decode cX8_areTurns 24 = .ok (.iconst 2, 1) := by decide +kernel
theorem dX8_areTurns_25 : decode cX8_areTurns 25 = .ok (.if_icmp .ne 22, 3) := by decide +kernel
theorem dX8_areTurns_28 : decode cX8_areTurns 28 = .ok (.iload_n 2, 1) := by decide +kernel
theorem dX8_areTurns_29 : decode cX8_areTurns 29 = .ok (.ifCond .lt 18, 3) := by decide +kernel
theorem dX8_areTurns_32 : decode cX8_areTurns 32 = .ok (.iload_n 2, 1) := by decide +kernel
theorem dX8_areTurns_33 : decode cX8_areTurns 33 = .ok (.aload_n 0, 1) := by decide +kernel
theorem dX8_areTurns_34 : decode cX8_areTurns 34 = .ok (.getfield 28, 3) := by decide +kernel
theorem dX8_areTurns_37 : decode cX8_areTurns 37 = .ok (.iload_n 1, 1) := by decide +kernel
theorem dX8_areTurns_38 : decode cX8_areTurns 38 = .ok (.iaload, 1) := by decide +kernel
theorem dX8_areTurns_39 : decode cX8_areTurns 39 = .ok (.ishr, 1) := by decide +kernel
theorem dX8_areTurns_40 : decode cX8_areTurns 40 = .ok (.ifCond .ne 7, 3) := by decide +kernel
theorem dX8_areTurns_43 : decode cX8_areTurns 43 = .ok (.iconst 1, 1) := by decide +kernel
theorem dX8_areTurns_44 : decode cX8_areTurns 44 = .ok (.goto 4, 3) := by decide +kernel
theorem dX8_areTurns_47 : decode cX8_areTurns 47 = .ok (.iconst 0, 1) := by decide +kernel
theorem dX8_areTurns_48 : decode cX8_areTurns 48 = .ok (.istore_n 3, 1) := by decide +kernel
theorem dX8_areTurns_49 : decode cX8_areTurns 49 = .ok (.iload_n 3, 1) := by decide +kernel
theorem dX8_areTurns_50 : decode cX8_areTurns 50 = .ok (.ifCond .eq 21, 3) := by decide +kernel
theorem dX8_areTurns_53 : decode cX8_areTurns 53 = .ok (.iload_n 2, 1) := by decide +kernel
theorem dX8_areTurns_54 : decode cX8_areTurns 54 = .ok (.invokestatic 189, 3) := by decide +kernel
theorem dX8_areTurns_57 : decode cX8_areTurns 57 = .ok (.aload_n 0, 1) := by decide +kernel
theorem dX8_areTurns_58 : decode cX8_areTurns 58 = .ok (.iload_n 1, 1) := by decide +kernel
theorem dX8_areTurns_59 : decode cX8_areTurns 59 = .ok (.invokevirtual 192, 3) := by decide +kernel
theorem dX8_areTurns_62 : decode cX8_areTurns 62 = .ok (.iconst 1, 1) := by decide +kernel
theorem dX8_areTurns_63 : decode cX8_areTurns 63 = .ok (.iadd, 1) := by decide +kernel
theorem dX8_areTurns_64 : decode cX8_areTurns 64 = .ok (.if_icmp .ne 7, 3) := by decide +kernel
theorem dX8_areTurns_67 : decode cX8_areTurns 67 = .ok (.iconst 1, 1) := by decide +kernel
theorem dX8_areTurns_68 : decode cX8_areTurns 68 = .ok (.goto 4, 3) := by decide +kernel
theorem dX8_areTurns_71 : decode cX8_areTurns 71 = .ok (.iconst 0, 1) := by decide +kernel
theorem dX8_areTurns_72 : decode cX8_areTurns 72 = .ok (.ireturn, 1) := by decide +kernel
theorem dX8_isAhead_0 : decode cX8_isAhead 0 = .ok (.iload_n 0, 1) := by decide +kernel
theorem dX8_isAhead_1 : decode cX8_isAhead 1 = .ok (.iload_n 1, 1) := by decide +kernel
theorem dX8_isAhead_2 : decode cX8_isAhead 2 = .ok (.ixor, 1) := by decide +kernel
theorem dX8_isAhead_3 : decode cX8_isAhead 3 = .ok (.istore_n 2, 1) := by decide +kernel
theorem dX8_isAhead_4 : decode cX8_isAhead 4 = .ok (.iload_n 2, 1) := by decide +kernel
theorem dX8_isAhead_5 : decode cX8_isAhead 5 = .ok (.iload_n 2, 1) := by decide +kernel
theorem dX8_isAhead_6 : decode cX8_isAhead 6 = .ok (.ineg, 1) := by decide +kernel
theorem dX8_isAhead_7 : decode cX8_isAhead 7 = .ok (.iand, 1) := by decide +kernel
theorem dX8_isAhead_8 : decode cX8_isAhead 8 = .ok (.iload_n 0, 1) := by decide +kernel
theorem dX8_isAhead_9 : decode cX8_isAhead 9 = .ok (.iand, 1) := by decide +kernel
theorem dX8_isAhead_10 : decode cX8_isAhead 10 = .ok (.ifCond .eq 7, 3) := by decide +kernel
theorem dX8_isAhead_13 : decode cX8_isAhead 13 = .ok (.iconst 1, 1) := by decide +kernel
theorem dX8_isAhead_14 : decode cX8_isAhead 14 = .ok (.goto 4, 3) := by decide +kernel
theorem dX8_isAhead_17 : decode cX8_isAhead 17 = .ok (.iconst 0, 1) := by decide +kernel
theorem dX8_isAhead_18 : decode cX8_isAhead 18 = .ok (.ireturn, 1) := by decide +kernel
theorem dX8_bestTurns_0 : decode cX8_bestTurns 0 = .ok (.iconst (-1), 1) := by decide +kernel
theorem dX8_bestTurns_1 : decode cX8_bestTurns 1 = .ok (.istore_n 2, 1) := by decide +kernel
theorem dX8_bestTurns_2 : decode cX8_bestTurns 2 = .ok (.lconst 0, 1) := by decide +kernel
theorem dX8_bestTurns_3 : decode cX8_bestTurns 3 = .ok (.lstore_n 3, 1) := by decide +kernel
theorem dX8_bestTurns_4 : decode cX8_bestTurns 4 = .ok (.lconst 1, 1) := by decide +kernel
theorem dX8_bestTurns_5 : decode cX8_bestTurns 5 = .ok (.lstore 5, 2) := by decide +kernel
theorem dX8_bestTurns_7 : decode cX8_bestTurns 7 = .ok (.iconst 0, 1) := by decide +kernel
theorem dX8_bestTurns_8 : decode cX8_bestTurns 8 = .ok (.istore 7, 2) := by decide +kernel
theorem dX8_bestTurns_10 : decode cX8_bestTurns 10 = .ok (.iload 7, 2) := by decide +kernel
theorem dX8_bestTurns_12 : decode cX8_bestTurns 12 = .ok (.iconst 1, 1) := by decide +kernel
theorem dX8_bestTurns_13 : decode cX8_bestTurns 13 = .ok (.aload_n 0, 1) := by decide +kernel
theorem dX8_bestTurns_14 : decode cX8_bestTurns 14 = .ok (.getfield 28, 3) := by decide +kernel
theorem dX8_bestTurns_17 : decode cX8_bestTurns 17 = .ok (.iload_n 1, 1) := by decide +kernel
theorem dX8_bestTurns_18 : decode cX8_bestTurns 18 = .ok (.iaload, 1) := by decide +kernel
theorem dX8_bestTurns_19 : decode cX8_bestTurns 19 = .ok (.ishl, 1) := by decide +kernel
theorem dX8_bestTurns_20 : decode cX8_bestTurns 20 = .ok (.if_icmp .ge 103, 3) := by decide +kernel
theorem dX8_bestTurns_23 : decode cX8_bestTurns 23 = .ok (.aload_n 0, 1) := by decide +kernel
theorem dX8_bestTurns_24 : decode cX8_bestTurns 24 = .ok (.iload_n 1, 1) := by decide +kernel
theorem dX8_bestTurns_25 : decode cX8_bestTurns 25 = .ok (.iload 7, 2) := by decide +kernel
theorem dX8_bestTurns_27 : decode cX8_bestTurns 27 = .ok (.invokevirtual 195, 3) := by decide +kernel
theorem dX8_bestTurns_30 : decode cX8_bestTurns 30 = .ok (.ifCond .eq 87, 3) := by decide +kernel
theorem dX8_bestTurns_33 : decode cX8_bestTurns 33 = .ok (.aload_n 0, 1) := by decide +kernel
theorem dX8_bestTurns_34 : decode cX8_bestTurns 34 = .ok (.iload_n 1, 1) := by decide +kernel
theorem dX8_bestTurns_35 : decode cX8_bestTurns 35 = .ok (.iload 7, 2) := by decide +kernel
theorem dX8_bestTurns_37 : decode cX8_bestTurns 37 = .ok (.invokevirtual 198, 3) := by decide +kernel
theorem dX8_bestTurns_40 : decode cX8_bestTurns 40 = .ok (.aload_n 0, 1) := by decide +kernel
theorem dX8_bestTurns_41 : decode cX8_bestTurns 41 = .ok (.getfield 154, 3) := by decide +kernel
theorem dX8_bestTurns_44 : decode cX8_bestTurns 44 = .ok (.lconst 0, 1) := by decide +kernel
theorem dX8_bestTurns_45 : decode cX8_bestTurns 45 = .ok (.lcmp, 1) := by decide +kernel
theorem dX8_bestTurns_46 : decode cX8_bestTurns 46 = .ok (.ifCond .ge 11, 3) := by decide +kernel
theorem dX8_bestTurns_49 : decode cX8_bestTurns 49 = .ok (.aload_n 0, 1) := by decide +kernel
theorem dX8_bestTurns_50 : decode cX8_bestTurns 50 = .ok (.getfield 154, 3) := by decide +kernel
theorem dX8_bestTurns_53 : decode cX8_bestTurns 53 = .ok (.lneg, 1) := by decide +kernel
theorem dX8_bestTurns_54 : decode cX8_bestTurns 54 = .ok (.goto 7, 3) := by decide +kernel
theorem dX8_bestTurns_57 : decode cX8_bestTurns 57 = .ok (.aload_n 0, 1) := by decide +kernel
theorem dX8_bestTurns_58 : decode cX8_bestTurns 58 = .ok (.getfield 154, 3) := by decide +kernel
theorem dX8_bestTurns_61 : decode cX8_bestTurns 61 = .ok (.lstore 8, 2) := by decide +kernel
theorem dX8_bestTurns_63 : decode cX8_bestTurns 63 = .ok (.iload_n 2, 1) := by decide +kernel
theorem dX8_bestTurns_64 : decode cX8_bestTurns 64 = .ok (.iconst (-1), 1) := by decide +kernel
theorem dX8_bestTurns_65 : decode cX8_bestTurns 65 = .ok (.if_icmp .ne 7, 3) := by decide +kernel
theorem dX8_bestTurns_68 : decode cX8_bestTurns 68 = .ok (.iconst 1, 1) := by decide +kernel
theorem dX8_bestTurns_69 : decode cX8_bestTurns 69 = .ok (.goto 15, 3) := by decide +kernel
theorem dX8_bestTurns_72 : decode cX8_bestTurns 72 = .ok (.lload 8, 2) := by decide +kernel
theorem dX8_bestTurns_74 : decode cX8_bestTurns 74 = .ok (.aload_n 0, 1) := by decide +kernel
theorem dX8_bestTurns_75 : decode cX8_bestTurns 75 = .ok (.getfield 157, 3) := by decide +kernel
theorem dX8_bestTurns_78 : decode cX8_bestTurns 78 = .ok (.lload_n 3, 1) := by decide +kernel
theorem dX8_bestTurns_79 : decode cX8_bestTurns 79 = .ok (.lload 5, 2) := by decide +kernel
theorem dX8_bestTurns_81 : decode cX8_bestTurns 81 = .ok (.invokestatic 201, 3) := by decide +kernel
theorem dX8_bestTurns_84 : decode cX8_bestTurns 84 = .ok (.istore 10, 2) := by decide +kernel
theorem dX8_bestTurns_86 : decode cX8_bestTurns 86 = .ok (.iload 10, 2) := by decide +kernel
theorem dX8_bestTurns_88 : decode cX8_bestTurns 88 = .ok (.ifCond .gt 17, 3) := by decide +kernel
theorem dX8_bestTurns_91 : decode cX8_bestTurns 91 = .ok (.iload 10, 2) := by decide +kernel
theorem dX8_bestTurns_93 : decode cX8_bestTurns 93 = .ok (.ifCond .ne 24, 3) := by decide +kernel
theorem dX8_bestTurns_96 : decode cX8_bestTurns 96 = .ok (.iload 7, 2) := by decide +kernel
theorem dX8_bestTurns_98 : decode cX8_bestTurns 98 = .ok (.iload_n 2, 1) := by decide +kernel
theorem dX8_bestTurns_99 : decode cX8_bestTurns 99 = .ok (.invokestatic 205, 3) := by decide +kernel
theorem dX8_bestTurns_102 : decode cX8_bestTurns 102 = .ok (.ifCond .eq 15, 3) := by decide +kernel
theorem dX8_bestTurns_105 : decode cX8_bestTurns 105 = .ok (.iload 7, 2) := by decide +kernel
theorem dX8_bestTurns_107 : decode cX8_bestTurns 107 = .ok (.istore_n 2, 1) := by decide +kernel
theorem dX8_bestTurns_108 : decode cX8_bestTurns 108 = .ok (.lload 8, 2) := by decide +kernel
theorem dX8_bestTurns_110 : decode cX8_bestTurns 110 = .ok (.lstore_n 3, 1) := by decide +kernel
theorem dX8_bestTurns_111 : decode cX8_bestTurns 111 = .ok (.aload_n 0, 1) := by decide +kernel
theorem dX8_bestTurns_112 : decode cX8_bestTurns 112 = .ok (.getfield 157, 3) := by decide +kernel
theorem dX8_bestTurns_115 : decode cX8_bestTurns 115 = .ok (.lstore 5, 2) := by decide +kernel
theorem dX8_bestTurns_117 : decode cX8_bestTurns 117 = .ok (.iinc 7 1, 3) := by decide +kernel
theorem dX8_bestTurns_120 : decode cX8_bestTurns 120 = .ok (.goto (-110), 3) := by decide +kernel
theorem dX8_bestTurns_123 : decode cX8_bestTurns 123 = .ok (.iload_n 2, 1) := by decide +kernel
theorem dX8_bestTurns_124 : decode cX8_bestTurns 124 = .ok (.ireturn, 1) := by decide +kernel
theorem dX8_settle_0 : decode cX8_settle 0 = .ok (.aload_n 0, 1) := by decide +kernel
theorem dX8_settle_1 : decode cX8_settle 1 = .ok (.iload_n 1, 1) := by decide +kernel
theorem dX8_settle_2 : decode cX8_settle 2 = .ok (.invokevirtual 208, 3) := by decide +kernel
theorem dX8_settle_5 : decode cX8_settle 5 = .ok (.istore_n 2, 1) := by decide +kernel
theorem dX8_settle_6 : decode cX8_settle 6 = .ok (.iload_n 2, 1) := by decide +kernel
theorem dX8_settle_7 : decode cX8_settle 7 = .ok (.iconst (-1), 1) := by decide +kernel
theorem dX8_settle_8 : decode cX8_settle 8 = .ok (.if_icmp .eq 12, 3) := by decide +kernel
theorem dX8_settle_11 : decode cX8_settle 11 = .ok (.aload_n 0, 1) := by decide +kernel
theorem dX8_settle_12 : decode cX8_settle 12 = .ok (.iload_n 1, 1) := by decide +kernel
theorem dX8_settle_13 : decode cX8_settle 13 = .ok (.iload_n 2, 1) := by decide +kernel
theorem dX8_settle_14 : decode cX8_settle 14 = .ok (.invokevirtual 198, 3) := by decide +kernel
theorem dX8_settle_17 : decode cX8_settle 17 = .ok (.goto 69, 3) := by decide +kernel
theorem dX8_settle_20 : decode cX8_settle 20 = .ok (.iconst 0, 1) := by decide +kernel
theorem dX8_settle_21 : decode cX8_settle 21 = .ok (.istore_n 3, 1) := by decide +kernel
theorem dX8_settle_22 : decode cX8_settle 22 = .ok (.iload_n 3, 1) := by decide +kernel
theorem dX8_settle_23 : decode cX8_settle 23 = .ok (.aload_n 0, 1) := by decide +kernel
theorem dX8_settle_24 : decode cX8_settle 24 = .ok (.getfield 28, 3) := by decide +kernel
theorem dX8_settle_27 : decode cX8_settle 27 = .ok (.iload_n 1, 1) := by decide +kernel
theorem dX8_settle_28 : decode cX8_settle 28 = .ok (.iaload, 1) := by decide +kernel
theorem dX8_settle_29 : decode cX8_settle 29 = .ok (.if_icmp .ge 41, 3) := by decide +kernel
theorem dX8_settle_32 : decode cX8_settle 32 = .ok (.aload_n 0, 1) := by decide +kernel
theorem dX8_settle_33 : decode cX8_settle 33 = .ok (.getfield 69, 3) := by decide +kernel
theorem dX8_settle_36 : decode cX8_settle 36 = .ok (.iload_n 3, 1) := by decide +kernel
theorem dX8_settle_37 : decode cX8_settle 37 = .ok (.iload_n 3, 1) := by decide +kernel
theorem dX8_settle_38 : decode cX8_settle 38 = .ok (.iastore, 1) := by decide +kernel
theorem dX8_settle_39 : decode cX8_settle 39 = .ok (.aload_n 0, 1) := by decide +kernel
theorem dX8_settle_40 : decode cX8_settle 40 = .ok (.getfield 72, 3) := by decide +kernel
theorem dX8_settle_43 : decode cX8_settle 43 = .ok (.iload_n 3, 1) := by decide +kernel
theorem dX8_settle_44 : decode cX8_settle 44 = .ok (.aload_n 0, 1) := by decide +kernel
theorem dX8_settle_45 : decode cX8_settle 45 = .ok (.getfield 34, 3) := by decide +kernel
theorem dX8_settle_48 : decode cX8_settle 48 = .ok (.bipush 12, 2) := by decide +kernel
theorem dX8_settle_50 : decode cX8_settle 50 = .ok (.iload_n 1, 1) := by decide +kernel
theorem dX8_settle_51 : decode cX8_settle 51 = .ok (.imul, 1) := by decide +kernel
theorem dX8_settle_52 : decode cX8_settle 52 = .ok (.iload_n 3, 1) := by decide +kernel
theorem dX8_settle_53 : decode cX8_settle 53 = .ok (.iadd, 1) := by decide +kernel
theorem dX8_settle_54 : decode cX8_settle 54 = .ok (.iaload, 1) := by decide +kernel
theorem dX8_settle_55 : decode cX8_settle 55 = .ok (.i2l, 1) := by decide +kernel
theorem dX8_settle_56 : decode cX8_settle 56 = .ok (.lastore, 1) := by decide +kernel
theorem dX8_settle_57 : decode cX8_settle 57 = .ok (.aload_n 0, 1) := by decide +kernel
theorem dX8_settle_58 : decode cX8_settle 58 = .ok (.getfield 75, 3) := by decide +kernel
theorem dX8_settle_61 : decode cX8_settle 61 = .ok (.iload_n 3, 1) := by decide +kernel
theorem dX8_settle_62 : decode cX8_settle 62 = .ok (.lconst 1, 1) := by decide +kernel
theorem dX8_settle_63 : decode cX8_settle 63 = .ok (.lastore, 1) := by decide +kernel
theorem dX8_settle_64 : decode cX8_settle 64 = .ok (.iinc 3 1, 3) := by decide +kernel
theorem dX8_settle_67 : decode cX8_settle 67 = .ok (.goto (-45), 3) := by decide +kernel
theorem dX8_settle_70 : decode cX8_settle 70 = .ok (.aload_n 0, 1) := by decide +kernel
theorem dX8_settle_71 : decode cX8_settle 71 = .ok (.iload_n 1, 1) := by decide +kernel
theorem dX8_settle_72 : decode cX8_settle 72 = .ok (.aload_n 0, 1) := by decide +kernel
theorem dX8_settle_73 : decode cX8_settle 73 = .ok (.getfield 28, 3) := by decide +kernel
theorem dX8_settle_76 : decode cX8_settle 76 = .ok (.iload_n 1, 1) := by decide +kernel
theorem dX8_settle_77 : decode cX8_settle 77 = .ok (.iaload, 1) := by decide +kernel
theorem dX8_settle_78 : decode cX8_settle 78 = .ok (.invokevirtual 178, 3) := by decide +kernel
theorem dX8_settle_81 : decode cX8_settle 81 = .ok (.aload_n 0, 1) := by decide +kernel
theorem dX8_settle_82 : decode cX8_settle 82 = .ok (.iload_n 1, 1) := by decide +kernel
theorem dX8_settle_83 : decode cX8_settle 83 = .ok (.invokevirtual 181, 3) := by decide +kernel
theorem dX8_settle_86 : decode cX8_settle 86 = .ok (.aload_n 0, 1) := by decide +kernel
theorem dX8_settle_87 : decode cX8_settle 87 = .ok (.iload_n 1, 1) := by decide +kernel
theorem dX8_settle_88 : decode cX8_settle 88 = .ok (.iconst 0, 1) := by decide +kernel
theorem dX8_settle_89 : decode cX8_settle 89 = .ok (.invokevirtual 211, 3) := by decide +kernel
theorem dX8_settle_92 : decode cX8_settle 92 = .ok (.return_, 1) := by decide +kernel
theorem dX8_keep_0 : decode cX8_keep 0 = .ok (.iconst 0, 1) := by decide +kernel
theorem dX8_keep_1 : decode cX8_keep 1 = .ok (.istore_n 3, 1) := by decide +kernel
theorem dX8_keep_2 : decode cX8_keep 2 = .ok (.iload_n 3, 1) := by decide +kernel
theorem dX8_keep_3 : decode cX8_keep 3 = .ok (.iconst 3, 1) := by decide +kernel
theorem dX8_keep_4 : decode cX8_keep 4 = .ok (.if_icmp .ge 28, 3) := by decide +kernel
theorem dX8_keep_7 : decode cX8_keep 7 = .ok (.aload_n 0, 1) := by decide +kernel
theorem dX8_keep_8 : decode cX8_keep 8 = .ok (.iload_n 1, 1) := by decide +kernel
theorem dX8_keep_9 : decode cX8_keep 9 = .ok (.iload_n 2, 1) := by decide +kernel
theorem dX8_keep_10 : decode cX8_keep 10 = .ok (.iload_n 3, 1) := by decide +kernel
theorem dX8_keep_11 : decode cX8_keep 11 = .ok (.aload_n 0, 1) := by decide +kernel
theorem dX8_keep_12 : decode cX8_keep 12 = .ok (.getfield 78, 3) := by decide +kernel
theorem dX8_keep_15 : decode cX8_keep 15 = .ok (.iload_n 3, 1) := by decide +kernel
theorem dX8_keep_16 : decode cX8_keep 16 = .ok (.laload, 1) := by decide +kernel
theorem dX8_keep_17 : decode cX8_keep 17 = .ok (.aload_n 0, 1) := by decide +kernel
theorem dX8_keep_18 : decode cX8_keep 18 = .ok (.getfield 81, 3) := by decide +kernel
theorem dX8_keep_21 : decode cX8_keep 21 = .ok (.iload_n 3, 1) := by decide +kernel
theorem dX8_keep_22 : decode cX8_keep 22 = .ok (.laload, 1) := by decide +kernel
theorem dX8_keep_23 : decode cX8_keep 23 = .ok (.invokevirtual 133, 3) := by decide +kernel
theorem dX8_keep_26 : decode cX8_keep 26 = .ok (.iinc 3 1, 3) := by decide +kernel
theorem dX8_keep_29 : decode cX8_keep 29 = .ok (.goto (-27), 3) := by decide +kernel
theorem dX8_keep_32 : decode cX8_keep 32 = .ok (.return_, 1) := by decide +kernel
theorem dX8_line_0 : decode cX8_line 0 = .ok (.aload_n 0, 1) := by decide +kernel
theorem dX8_line_1 : decode cX8_line 1 = .ok (.iload_n 1, 1) := by decide +kernel
theorem dX8_line_2 : decode cX8_line 2 = .ok (.iload_n 2, 1) := by decide +kernel
theorem dX8_line_3 : decode cX8_line 3 = .ok (.iconst 0, 1) := by decide +kernel
theorem dX8_line_4 : decode cX8_line 4 = .ok (.iconst 2, 1) := by decide +kernel
theorem dX8_line_5 : decode cX8_line 5 = .ok (.invokestatic 100, 3) := by decide +kernel
theorem dX8_line_8 : decode cX8_line 8 = .ok (.invokevirtual 137, 3) := by decide +kernel
theorem dX8_line_11 : decode cX8_line 11 = .ok (.istore_n 3, 1) := by decide +kernel
theorem dX8_line_12 : decode cX8_line 12 = .ok (.iload_n 3, 1) := by decide +kernel
theorem dX8_line_13 : decode cX8_line 13 = .ok (.ifCond .eq 9, 3) := by decide +kernel
theorem dX8_line_16 : decode cX8_line 16 = .ok (.aload_n 0, 1) := by decide +kernel
theorem dX8_line_17 : decode cX8_line 17 = .ok (.iload_n 3, 1) := by decide +kernel
theorem dX8_line_18 : decode cX8_line 18 = .ok (.invokevirtual 118, 3) := by decide +kernel
theorem dX8_line_21 : decode cX8_line 21 = .ok (.ireturn, 1) := by decide +kernel
theorem dX8_line_22 : decode cX8_line 22 = .ok (.aload_n 0, 1) := by decide +kernel
theorem dX8_line_23 : decode cX8_line 23 = .ok (.iload_n 1, 1) := by decide +kernel
theorem dX8_line_24 : decode cX8_line 24 = .ok (.iconst 1, 1) := by decide +kernel
theorem dX8_line_25 : decode cX8_line 25 = .ok (.iload_n 2, 1) := by decide +kernel
theorem dX8_line_26 : decode cX8_line 26 = .ok (.invokevirtual 141, 3) := by decide +kernel
theorem dX8_line_29 : decode cX8_line 29 = .ok (.istore 4, 2) := by decide +kernel
theorem dX8_line_31 : decode cX8_line 31 = .ok (.aload_n 0, 1) := by decide +kernel
theorem dX8_line_32 : decode cX8_line 32 = .ok (.iload 4, 2) := by decide +kernel
theorem dX8_line_34 : decode cX8_line 34 = .ok (.invokevirtual 214, 3) := by decide +kernel
theorem dX8_line_37 : decode cX8_line 37 = .ok (.aload_n 0, 1) := by decide +kernel
theorem dX8_line_38 : decode cX8_line 38 = .ok (.iload 4, 2) := by decide +kernel
theorem dX8_line_40 : decode cX8_line 40 = .ok (.invokevirtual 130, 3) := by decide +kernel
theorem dX8_line_43 : decode cX8_line 43 = .ok (.ireturn, 1) := by decide +kernel
theorem dX8_even_0 : decode cX8_even 0 = .ok (.aload_n 0, 1) := by decide +kernel
theorem dX8_even_1 : decode cX8_even 1 = .ok (.iload_n 1, 1) := by decide +kernel
theorem dX8_even_2 : decode cX8_even 2 = .ok (.iconst 1, 1) := by decide +kernel
theorem dX8_even_3 : decode cX8_even 3 = .ok (.invokevirtual 137, 3) := by decide +kernel
theorem dX8_even_6 : decode cX8_even 6 = .ok (.istore_n 2, 1) := by decide +kernel
theorem dX8_even_7 : decode cX8_even 7 = .ok (.iload_n 2, 1) := by decide +kernel
theorem dX8_even_8 : decode cX8_even 8 = .ok (.ifCond .eq 9, 3) := by decide +kernel
theorem dX8_even_11 : decode cX8_even 11 = .ok (.aload_n 0, 1) := by decide +kernel
theorem dX8_even_12 : decode cX8_even 12 = .ok (.iload_n 2, 1) := by decide +kernel
theorem dX8_even_13 : decode cX8_even 13 = .ok (.invokevirtual 118, 3) := by decide +kernel
theorem dX8_even_16 : decode cX8_even 16 = .ok (.ireturn, 1) := by decide +kernel
theorem dX8_even_17 : decode cX8_even 17 = .ok (.aload_n 0, 1) := by decide +kernel
theorem dX8_even_18 : decode cX8_even 18 = .ok (.getfield 7, 3) := by decide +kernel
theorem dX8_even_21 : decode cX8_even 21 = .ok (.iload_n 1, 1) := by decide +kernel
theorem dX8_even_22 : decode cX8_even 22 = .ok (.iaload, 1) := by decide +kernel
theorem dX8_even_23 : decode cX8_even 23 = .ok (.ifCond .le 21, 3) := by decide +kernel
theorem dX8_even_26 : decode cX8_even 26 = .ok (.aload_n 0, 1) := by decide +kernel
theorem dX8_even_27 : decode cX8_even 27 = .ok (.getfield 13, 3) := by decide +kernel
theorem dX8_even_30 : decode cX8_even 30 = .ok (.bipush 12, 2) := by decide +kernel
theorem dX8_even_32 : decode cX8_even 32 = .ok (.iload_n 1, 1) := by decide +kernel
theorem dX8_even_33 : decode cX8_even 33 = .ok (.imul, 1) := by decide +kernel
theorem dX8_even_34 : decode cX8_even 34 = .ok (.iaload, 1) := by decide +kernel
theorem dX8_even_35 : decode cX8_even 35 = .ok (.ifCond .ge 9, 3) := by decide +kernel
theorem dX8_even_38 : decode cX8_even 38 = .ok (.aload_n 0, 1) := by decide +kernel
theorem dX8_even_39 : decode cX8_even 39 = .ok (.iconst 3, 1) := by decide +kernel
theorem dX8_even_40 : decode cX8_even 40 = .ok (.invokevirtual 118, 3) := by decide +kernel
theorem dX8_even_43 : decode cX8_even 43 = .ok (.ireturn, 1) := by decide +kernel
theorem dX8_even_44 : decode cX8_even 44 = .ok (.aload_n 0, 1) := by decide +kernel
theorem dX8_even_45 : decode cX8_even 45 = .ok (.iload_n 1, 1) := by decide +kernel
theorem dX8_even_46 : decode cX8_even 46 = .ok (.iconst 2, 1) := by decide +kernel
theorem dX8_even_47 : decode cX8_even 47 = .ok (.iconst 2, 1) := by decide +kernel
theorem dX8_even_48 : decode cX8_even 48 = .ok (.invokevirtual 141, 3) := by decide +kernel
theorem dX8_even_51 : decode cX8_even 51 = .ok (.istore_n 3, 1) := by decide +kernel
theorem dX8_even_52 : decode cX8_even 52 = .ok (.aload_n 0, 1) := by decide +kernel
theorem dX8_even_53 : decode cX8_even 53 = .ok (.iload_n 3, 1) := by decide +kernel
theorem dX8_even_54 : decode cX8_even 54 = .ok (.invokevirtual 214, 3) := by decide +kernel
theorem dX8_even_57 : decode cX8_even 57 = .ok (.aload_n 0, 1) := by decide +kernel
theorem dX8_even_58 : decode cX8_even 58 = .ok (.iload_n 3, 1) := by decide +kernel
theorem dX8_even_59 : decode cX8_even 59 = .ok (.invokevirtual 130, 3) := by decide +kernel
theorem dX8_even_62 : decode cX8_even 62 = .ok (.ireturn, 1) := by decide +kernel
theorem dX8_shorts_0 : decode cX8_shorts 0 = .ok (.aload_n 0, 1) := by decide +kernel
theorem dX8_shorts_1 : decode cX8_shorts 1 = .ok (.iload_n 1, 1) := by decide +kernel
theorem dX8_shorts_2 : decode cX8_shorts 2 = .ok (.iload_n 2, 1) := by decide +kernel
theorem dX8_shorts_3 : decode cX8_shorts 3 = .ok (.iconst 0, 1) := by decide +kernel
theorem dX8_shorts_4 : decode cX8_shorts 4 = .ok (.iconst 1, 1) := by decide +kernel
theorem dX8_shorts_5 : decode cX8_shorts 5 = .ok (.invokestatic 100, 3) := by decide +kernel
theorem dX8_shorts_8 : decode cX8_shorts 8 = .ok (.ifCond .eq 16, 3) := by decide +kernel
theorem dX8_shorts_11 : decode cX8_shorts 11 = .ok (.iload_n 3, 1) := by decide +kernel
theorem dX8_shorts_12 : decode cX8_shorts 12 = .ok (.iconst 0, 1) := by decide +kernel
theorem dX8_shorts_13 : decode cX8_shorts 13 = .ok (.iconst 2, 1) := by decide +kernel
theorem dX8_shorts_14 : decode cX8_shorts 14 = .ok (.invokestatic 100, 3) := by decide +kernel
theorem dX8_shorts_17 : decode cX8_shorts 17 = .ok (.ifCond .eq 7, 3) := by decide +kernel
theorem dX8_shorts_20 : decode cX8_shorts 20 = .ok (.iconst 1, 1) := by decide +kernel
theorem dX8_shorts_21 : decode cX8_shorts 21 = .ok (.goto 4, 3) := by decide +kernel
theorem dX8_shorts_24 : decode cX8_shorts 24 = .ok (.iconst 0, 1) := by decide +kernel
theorem dX8_shorts_25 : decode cX8_shorts 25 = .ok (.invokevirtual 137, 3) := by decide +kernel
theorem dX8_shorts_28 : decode cX8_shorts 28 = .ok (.istore 4, 2) := by decide +kernel
theorem dX8_shorts_30 : decode cX8_shorts 30 = .ok (.iload 4, 2) := by decide +kernel
theorem dX8_shorts_32 : decode cX8_shorts 32 = .ok (.ifCond .eq 10, 3) := by decide +kernel
theorem dX8_shorts_35 : decode cX8_shorts 35 = .ok (.aload_n 0, 1) := by decide +kernel
theorem dX8_shorts_36 : decode cX8_shorts 36 = .ok (.iload 4, 2) := by decide +kernel
theorem dX8_shorts_38 : decode cX8_shorts 38 = .ok (.invokevirtual 118, 3) := by decide +kernel
theorem dX8_shorts_41 : decode cX8_shorts 41 = .ok (.ireturn, 1) := by decide +kernel
theorem dX8_shorts_42 : decode cX8_shorts 42 = .ok (.aload_n 0, 1) := by decide +kernel
theorem dX8_shorts_43 : decode cX8_shorts 43 = .ok (.iload_n 1, 1) := by decide +kernel
theorem dX8_shorts_44 : decode cX8_shorts 44 = .ok (.iconst 3, 1) := by decide +kernel
theorem dX8_shorts_45 : decode cX8_shorts 45 = .ok (.iload_n 2, 1) := by decide +kernel
theorem dX8_shorts_46 : decode cX8_shorts 46 = .ok (.invokevirtual 141, 3) := by decide +kernel
theorem dX8_shorts_49 : decode cX8_shorts 49 = .ok (.istore 5, 2) := by decide +kernel
theorem dX8_shorts_51 : decode cX8_shorts 51 = .ok (.iconst 1, 1) := by decide +kernel
theorem dX8_shorts_52 : decode cX8_shorts 52 = .ok (.iload_n 3, 1) := by decide +kernel
theorem dX8_shorts_53 : decode cX8_shorts 53 = .ok (.ishl, 1) := by decide +kernel
theorem dX8_shorts_54 : decode cX8_shorts 54 = .ok (.istore 6, 2) := by decide +kernel
theorem dX8_shorts_56 : decode cX8_shorts 56 = .ok (.iconst (-1), 1) := by decide +kernel
theorem dX8_shorts_57 : decode cX8_shorts 57 = .ok (.istore 7, 2) := by decide +kernel
theorem dX8_shorts_59 : decode cX8_shorts 59 = .ok (.iconst 0, 1) := by decide +kernel
theorem dX8_shorts_60 : decode cX8_shorts 60 = .ok (.istore 8, 2) := by decide +kernel
theorem dX8_shorts_62 : decode cX8_shorts 62 = .ok (.iconst 0, 1) := by decide +kernel
theorem dX8_shorts_63 : decode cX8_shorts 63 = .ok (.istore 9, 2) := by decide +kernel
theorem dX8_shorts_65 : decode cX8_shorts 65 = .ok (.bipush (-64), 2) := by decide +kernel
theorem dX8_shorts_67 : decode cX8_shorts 67 = .ok (.iload 6, 2) := by decide +kernel
theorem dX8_shorts_69 : decode cX8_shorts 69 = .ok (.imul, 1) := by decide +kernel
theorem dX8_shorts_70 : decode cX8_shorts 70 = .ok (.istore 10, 2) := by decide +kernel
theorem dX8_shorts_72 : decode cX8_shorts 72 = .ok (.iload 10, 2) := by decide +kernel
theorem dX8_shorts_74 : decode cX8_shorts 74 = .ok (.bipush 64, 2) := by decide +kernel
theorem dX8_shorts_76 : decode cX8_shorts 76 = .ok (.iload 6, 2) := by decide +kernel
theorem dX8_shorts_78 : decode cX8_shorts 78 = .ok (.imul, 1) := by decide +kernel
theorem dX8_shorts_79 : decode cX8_shorts 79 = .ok (.if_icmp .gt 172, 3) := by decide +kernel
theorem dX8_shorts_82 : decode cX8_shorts 82 = .ok (.iload_n 2, 1) := by decide +kernel
theorem dX8_shorts_83 : decode cX8_shorts 83 = .ok (.ifCond .ne 7, 3) := by decide +kernel
theorem dX8_shorts_86 : decode cX8_shorts 86 = .ok (.iconst 0, 1) := by decide +kernel
theorem dX8_shorts_87 : decode cX8_shorts 87 = .ok (.goto 8, 3) := by decide +kernel
theorem dX8_shorts_90 : decode cX8_shorts 90 = .ok (.bipush (-8), 2) := by decide +kernel
theorem dX8_shorts_92 : decode cX8_shorts 92 = .ok (.iload 6, 2) := by decide +kernel
theorem dX8_shorts_94 : decode cX8_shorts 94 = .ok (.imul, 1) := by decide +kernel
theorem dX8_shorts_95 : decode cX8_shorts 95 = .ok (.istore 11, 2) := by decide +kernel
theorem dX8_shorts_97 : decode cX8_shorts 97 = .ok (.iload 11, 2) := by decide +kernel
theorem dX8_shorts_99 : decode cX8_shorts 99 = .ok (.iload_n 2, 1) := by decide +kernel
theorem dX8_shorts_100 : decode cX8_shorts 100 = .ok (.ifCond .ne 7, 3) := by decide +kernel
theorem dX8_shorts_103 : decode cX8_shorts 103 = .ok (.iconst 0, 1) := by decide +kernel
theorem dX8_shorts_104 : decode cX8_shorts 104 = .ok (.goto 8, 3) := by decide +kernel
theorem dX8_shorts_107 : decode cX8_shorts 107 = .ok (.bipush 8, 2) := by decide +kernel
theorem dX8_shorts_109 : decode cX8_shorts 109 = .ok (.iload 6, 2) := by decide +kernel
theorem dX8_shorts_111 : decode cX8_shorts 111 = .ok (.imul, 1) := by decide +kernel
theorem dX8_shorts_112 : decode cX8_shorts 112 = .ok (.if_icmp .gt 133, 3) := by decide +kernel
theorem dX8_shorts_115 : decode cX8_shorts 115 = .ok (.iconst 0, 1) := by decide +kernel
theorem dX8_shorts_116 : decode cX8_shorts 116 = .ok (.istore 12, 2) := by decide +kernel
theorem dX8_shorts_118 : decode cX8_shorts 118 = .ok (.bipush 12, 2) := by decide +kernel
theorem dX8_shorts_120 : decode cX8_shorts 120 = .ok (.iload 5, 2) := by decide +kernel
theorem dX8_shorts_122 : decode cX8_shorts 122 = .ok (.imul, 1) := by decide +kernel
theorem dX8_shorts_123 : decode cX8_shorts 123 = .ok (.istore 13, 2) := by decide +kernel
theorem dX8_shorts_125 : decode cX8_shorts 125 = .ok (.iload 13, 2) := by decide +kernel
theorem dX8_shorts_127 : decode cX8_shorts 127 = .ok (.bipush 12, 2) := by decide +kernel
theorem dX8_shorts_129 : decode cX8_shorts 129 = .ok (.iload 5, 2) := by decide +kernel
theorem dX8_shorts_131 : decode cX8_shorts 131 = .ok (.imul, 1) := by decide +kernel
theorem dX8_shorts_132 : decode cX8_shorts 132 = .ok (.aload_n 0, 1) := by decide +kernel
theorem dX8_shorts_133 : decode cX8_shorts 133 = .ok (.getfield 28, 3) := by decide +kernel
theorem dX8_shorts_136 : decode cX8_shorts 136 = .ok (.iload 5, 2) := by decide +kernel
theorem dX8_shorts_138 : decode cX8_shorts 138 = .ok (.iaload, 1) := by decide +kernel
theorem dX8_shorts_139 : decode cX8_shorts 139 = .ok (.iadd, 1) := by decide +kernel
theorem dX8_shorts_140 : decode cX8_shorts 140 = .ok (.if_icmp .ge 74, 3) := by decide +kernel
theorem dX8_shorts_143 : decode cX8_shorts 143 = .ok (.aload_n 0, 1) := by decide +kernel
theorem dX8_shorts_144 : decode cX8_shorts 144 = .ok (.getfield 37, 3) := by decide +kernel
theorem dX8_shorts_147 : decode cX8_shorts 147 = .ok (.iload 13, 2) := by decide +kernel
theorem dX8_shorts_149 : decode cX8_shorts 149 = .ok (.iaload, 1) := by decide +kernel
theorem dX8_shorts_150 : decode cX8_shorts 150 = .ok (.iload 6, 2) := by decide +kernel
theorem dX8_shorts_152 : decode cX8_shorts 152 = .ok (.aload_n 0, 1) := by decide +kernel
theorem dX8_shorts_153 : decode cX8_shorts 153 = .ok (.getfield 34, 3) := by decide +kernel
theorem dX8_shorts_156 : decode cX8_shorts 156 = .ok (.iload 13, 2) := by decide +kernel
theorem dX8_shorts_158 : decode cX8_shorts 158 = .ok (.iaload, 1) := by decide +kernel
theorem dX8_shorts_159 : decode cX8_shorts 159 = .ok (.imul, 1) := by decide +kernel
theorem dX8_shorts_160 : decode cX8_shorts 160 = .ok (.iload 10, 2) := by decide +kernel
theorem dX8_shorts_162 : decode cX8_shorts 162 = .ok (.isub, 1) := by decide +kernel
theorem dX8_shorts_163 : decode cX8_shorts 163 = .ok (.iload 11, 2) := by decide +kernel
theorem dX8_shorts_165 : decode cX8_shorts 165 = .ok (.aload_n 0, 1) := by decide +kernel
theorem dX8_shorts_166 : decode cX8_shorts 166 = .ok (.getfield 31, 3) := by decide +kernel
theorem dX8_shorts_169 : decode cX8_shorts 169 = .ok (.iload 13, 2) := by decide +kernel
theorem dX8_shorts_171 : decode cX8_shorts 171 = .ok (.iaload, 1) := by decide +kernel
theorem dX8_shorts_172 : decode cX8_shorts 172 = .ok (.imul, 1) := by decide +kernel
theorem dX8_shorts_173 : decode cX8_shorts 173 = .ok (.isub, 1) := by decide +kernel
theorem dX8_shorts_174 : decode cX8_shorts 174 = .ok (.imul, 1) := by decide +kernel
theorem dX8_shorts_175 : decode cX8_shorts 175 = .ok (.istore 14, 2) := by decide +kernel
theorem dX8_shorts_177 : decode cX8_shorts 177 = .ok (.iload 14, 2) := by decide +kernel
theorem dX8_shorts_179 : decode cX8_shorts 179 = .ok (.ifCond .ge 9, 3) := by decide +kernel
theorem dX8_shorts_182 : decode cX8_shorts 182 = .ok (.iload 14, 2) := by decide +kernel
theorem dX8_shorts_184 : decode cX8_shorts 184 = .ok (.ineg, 1) := by decide +kernel
theorem dX8_shorts_185 : decode cX8_shorts 185 = .ok (.goto 5, 3) := by decide +kernel
theorem dX8_shorts_188 : decode cX8_shorts 188 = .ok (.iload 14, 2) := by decide +kernel
theorem dX8_shorts_190 : decode cX8_shorts 190 = .ok (.istore 14, 2) := by decide +kernel
theorem dX8_shorts_192 : decode cX8_shorts 192 = .ok (.iload 14, 2) := by decide +kernel
theorem dX8_shorts_194 : decode cX8_shorts 194 = .ok (.iload 12, 2) := by decide +kernel
theorem dX8_shorts_196 : decode cX8_shorts 196 = .ok (.if_icmp .le 8, 3) := by decide +kernel
theorem dX8_shorts_199 : decode cX8_shorts 199 = .ok (.iload 14, 2) := by decide +kernel
theorem dX8_shorts_201 : decode cX8_shorts 201 = .ok (.goto 5, 3) := by decide +kernel
theorem dX8_shorts_204 : decode cX8_shorts 204 = .ok (.iload 12, 2) := by decide +kernel
theorem dX8_shorts_206 : decode cX8_shorts 206 = .ok (.istore 12, 2) := by decide +kernel
theorem dX8_shorts_208 : decode cX8_shorts 208 = .ok (.iinc 13 1, 3) := by decide +kernel
theorem dX8_shorts_211 : decode cX8_shorts 211 = .ok (.goto (-86), 3) := by decide +kernel
theorem dX8_shorts_214 : decode cX8_shorts 214 = .ok (.iload 7, 2) := by decide +kernel
theorem dX8_shorts_216 : decode cX8_shorts 216 = .ok (.iconst (-1), 1) := by decide +kernel
theorem dX8_shorts_217 : decode cX8_shorts 217 = .ok (.if_icmp .eq 10, 3) := by decide +kernel
theorem dX8_shorts_220 : decode cX8_shorts 220 = .ok (.iload 12, 2) := by decide +kernel
theorem dX8_shorts_222 : decode cX8_shorts 222 = .ok (.iload 7, 2) := by decide +kernel
theorem dX8_shorts_224 : decode cX8_shorts 224 = .ok (.if_icmp .ge 15, 3) := by decide +kernel
theorem dX8_shorts_227 : decode cX8_shorts 227 = .ok (.iload 12, 2) := by decide +kernel
theorem dX8_shorts_229 : decode cX8_shorts 229 = .ok (.istore 7, 2) := by decide +kernel
theorem dX8_shorts_231 : decode cX8_shorts 231 = .ok (.iload 10, 2) := by decide +kernel
theorem dX8_shorts_233 : decode cX8_shorts 233 = .ok (.istore 8, 2) := by decide +kernel
theorem dX8_shorts_235 : decode cX8_shorts 235 = .ok (.iload 11, 2) := by decide +kernel
theorem dX8_shorts_237 : decode cX8_shorts 237 = .ok (.istore 9, 2) := by decide +kernel
theorem dX8_shorts_239 : decode cX8_shorts 239 = .ok (.iinc 11 1, 3) := by decide +kernel
theorem dX8_shorts_242 : decode cX8_shorts 242 = .ok (.goto (-145), 3) := by decide +kernel
theorem dX8_shorts_245 : decode cX8_shorts 245 = .ok (.iinc 10 1, 3) := by decide +kernel
theorem dX8_shorts_248 : decode cX8_shorts 248 = .ok (.goto (-176), 3) := by decide +kernel
theorem dX8_shorts_251 : decode cX8_shorts 251 = .ok (.aload_n 0, 1) := by decide +kernel
theorem dX8_shorts_252 : decode cX8_shorts 252 = .ok (.iload 8, 2) := by decide +kernel
theorem dX8_shorts_254 : decode cX8_shorts 254 = .ok (.i2l, 1) := by decide +kernel
theorem dX8_shorts_255 : decode cX8_shorts 255 = .ok (.iload 6, 2) := by decide +kernel
theorem dX8_shorts_257 : decode cX8_shorts 257 = .ok (.i2l, 1) := by decide +kernel
theorem dX8_shorts_258 : decode cX8_shorts 258 = .ok (.invokevirtual 111, 3) := by decide +kernel
theorem dX8_shorts_261 : decode cX8_shorts 261 = .ok (.aload_n 0, 1) := by decide +kernel
theorem dX8_shorts_262 : decode cX8_shorts 262 = .ok (.iload 5, 2) := by decide +kernel
theorem dX8_shorts_264 : decode cX8_shorts 264 = .ok (.iconst 0, 1) := by decide +kernel
theorem dX8_shorts_265 : decode cX8_shorts 265 = .ok (.iconst 0, 1) := by decide +kernel
theorem dX8_shorts_266 : decode cX8_shorts 266 = .ok (.aload_n 0, 1) := by decide +kernel
theorem dX8_shorts_267 : decode cX8_shorts 267 = .ok (.getfield 108, 3) := by decide +kernel
theorem dX8_shorts_270 : decode cX8_shorts 270 = .ok (.aload_n 0, 1) := by decide +kernel
theorem dX8_shorts_271 : decode cX8_shorts 271 = .ok (.getfield 65, 3) := by decide +kernel
theorem dX8_shorts_274 : decode cX8_shorts 274 = .ok (.invokevirtual 133, 3) := by decide +kernel
theorem dX8_shorts_277 : decode cX8_shorts 277 = .ok (.aload_n 0, 1) := by decide +kernel
theorem dX8_shorts_278 : decode cX8_shorts 278 = .ok (.iload 9, 2) := by decide +kernel
theorem dX8_shorts_280 : decode cX8_shorts 280 = .ok (.i2l, 1) := by decide +kernel
theorem dX8_shorts_281 : decode cX8_shorts 281 = .ok (.iload 6, 2) := by decide +kernel
theorem dX8_shorts_283 : decode cX8_shorts 283 = .ok (.i2l, 1) := by decide +kernel
theorem dX8_shorts_284 : decode cX8_shorts 284 = .ok (.invokevirtual 111, 3) := by decide +kernel
theorem dX8_shorts_287 : decode cX8_shorts 287 = .ok (.aload_n 0, 1) := by decide +kernel
theorem dX8_shorts_288 : decode cX8_shorts 288 = .ok (.iload 5, 2) := by decide +kernel
theorem dX8_shorts_290 : decode cX8_shorts 290 = .ok (.iconst 0, 1) := by decide +kernel
theorem dX8_shorts_291 : decode cX8_shorts 291 = .ok (.iconst 1, 1) := by decide +kernel
theorem dX8_shorts_292 : decode cX8_shorts 292 = .ok (.aload_n 0, 1) := by decide +kernel
theorem dX8_shorts_293 : decode cX8_shorts 293 = .ok (.getfield 108, 3) := by decide +kernel
theorem dX8_shorts_296 : decode cX8_shorts 296 = .ok (.aload_n 0, 1) := by decide +kernel
theorem dX8_shorts_297 : decode cX8_shorts 297 = .ok (.getfield 65, 3) := by decide +kernel
theorem dX8_shorts_300 : decode cX8_shorts 300 = .ok (.invokevirtual 133, 3) := by decide +kernel
theorem dX8_shorts_303 : decode cX8_shorts 303 = .ok (.aload_n 0, 1) := by decide +kernel
theorem dX8_shorts_304 : decode cX8_shorts 304 = .ok (.iload 5, 2) := by decide +kernel
theorem dX8_shorts_306 : decode cX8_shorts 306 = .ok (.invokevirtual 130, 3) := by decide +kernel
theorem dX8_shorts_309 : decode cX8_shorts 309 = .ok (.ireturn, 1) := by decide +kernel
theorem dX8_lineOf_0 : decode cX8_lineOf 0 = .ok (.aload_n 0, 1) := by decide +kernel
theorem dX8_lineOf_1 : decode cX8_lineOf 1 = .ok (.getfield 28, 3) := by decide +kernel
theorem dX8_lineOf_4 : decode cX8_lineOf 4 = .ok (.iload_n 1, 1) := by decide +kernel
theorem dX8_lineOf_5 : decode cX8_lineOf 5 = .ok (.iaload, 1) := by decide +kernel
theorem dX8_lineOf_6 : decode cX8_lineOf 6 = .ok (.istore 4, 2) := by decide +kernel
theorem dX8_lineOf_8 : decode cX8_lineOf 8 = .ok (.iconst 0, 1) := by decide +kernel
theorem dX8_lineOf_9 : decode cX8_lineOf 9 = .ok (.istore 5, 2) := by decide +kernel
theorem dX8_lineOf_11 : decode cX8_lineOf 11 = .ok (.iload 5, 2) := by decide +kernel
theorem dX8_lineOf_13 : decode cX8_lineOf 13 = .ok (.iload 4, 2) := by decide +kernel
theorem dX8_lineOf_15 : decode cX8_lineOf 15 = .ok (.if_icmp .ge 66, 3) := by decide +kernel
theorem dX8_lineOf_18 : decode cX8_lineOf 18 = .ok (.aload_n 0, 1) := by decide +kernel
theorem dX8_lineOf_19 : decode cX8_lineOf 19 = .ok (.getfield 84, 3) := by decide +kernel
theorem dX8_lineOf_22 : decode cX8_lineOf 22 = .ok (.iload 5, 2) := by decide +kernel
theorem dX8_lineOf_24 : decode cX8_lineOf 24 = .ok (.aload_n 0, 1) := by decide +kernel
theorem dX8_lineOf_25 : decode cX8_lineOf 25 = .ok (.getfield 31, 3) := by decide +kernel
theorem dX8_lineOf_28 : decode cX8_lineOf 28 = .ok (.bipush 12, 2) := by decide +kernel
theorem dX8_lineOf_30 : decode cX8_lineOf 30 = .ok (.iload_n 1, 1) := by decide +kernel
theorem dX8_lineOf_31 : decode cX8_lineOf 31 = .ok (.imul, 1) := by decide +kernel
theorem dX8_lineOf_32 : decode cX8_lineOf 32 = .ok (.iload 5, 2) := by decide +kernel
theorem dX8_lineOf_34 : decode cX8_lineOf 34 = .ok (.iadd, 1) := by decide +kernel
theorem dX8_lineOf_35 : decode cX8_lineOf 35 = .ok (.iaload, 1) := by decide +kernel
theorem dX8_lineOf_36 : decode cX8_lineOf 36 = .ok (.iastore, 1) := by decide +kernel
theorem dX8_lineOf_37 : decode cX8_lineOf 37 = .ok (.aload_n 0, 1) := by decide +kernel
theorem dX8_lineOf_38 : decode cX8_lineOf 38 = .ok (.getfield 87, 3) := by decide +kernel
theorem dX8_lineOf_41 : decode cX8_lineOf 41 = .ok (.iload 5, 2) := by decide +kernel
theorem dX8_lineOf_43 : decode cX8_lineOf 43 = .ok (.aload_n 0, 1) := by decide +kernel
theorem dX8_lineOf_44 : decode cX8_lineOf 44 = .ok (.getfield 34, 3) := by decide +kernel
theorem dX8_lineOf_47 : decode cX8_lineOf 47 = .ok (.bipush 12, 2) := by decide +kernel
theorem dX8_lineOf_49 : decode cX8_lineOf 49 = .ok (.iload_n 1, 1) := by decide +kernel
theorem dX8_lineOf_50 : decode cX8_lineOf 50 = .ok (.imul, 1) := by decide +kernel
theorem dX8_lineOf_51 : decode cX8_lineOf 51 = .ok (.iload 5, 2) := by decide +kernel
theorem dX8_lineOf_53 : decode cX8_lineOf 53 = .ok (.iadd, 1) := by decide +kernel
theorem dX8_lineOf_54 : decode cX8_lineOf 54 = .ok (.iaload, 1) := by decide +kernel
theorem dX8_lineOf_55 : decode cX8_lineOf 55 = .ok (.iastore, 1) := by decide +kernel
theorem dX8_lineOf_56 : decode cX8_lineOf 56 = .ok (.aload_n 0, 1) := by decide +kernel
theorem dX8_lineOf_57 : decode cX8_lineOf 57 = .ok (.getfield 90, 3) := by decide +kernel
theorem dX8_lineOf_60 : decode cX8_lineOf 60 = .ok (.iload 5, 2) := by decide +kernel
theorem dX8_lineOf_62 : decode cX8_lineOf 62 = .ok (.aload_n 0, 1) := by decide +kernel
theorem dX8_lineOf_63 : decode cX8_lineOf 63 = .ok (.getfield 37, 3) := by decide +kernel
theorem dX8_lineOf_66 : decode cX8_lineOf 66 = .ok (.bipush 12, 2) := by decide +kernel
theorem dX8_lineOf_68 : decode cX8_lineOf 68 = .ok (.iload_n 1, 1) := by decide +kernel
theorem dX8_lineOf_69 : decode cX8_lineOf 69 = .ok (.imul, 1) := by decide +kernel
theorem dX8_lineOf_70 : decode cX8_lineOf 70 = .ok (.iload 5, 2) := by decide +kernel
theorem dX8_lineOf_72 : decode cX8_lineOf 72 = .ok (.iadd, 1) := by decide +kernel
theorem dX8_lineOf_73 : decode cX8_lineOf 73 = .ok (.iaload, 1) := by decide +kernel
theorem dX8_lineOf_74 : decode cX8_lineOf 74 = .ok (.iastore, 1) := by decide +kernel
theorem dX8_lineOf_75 : decode cX8_lineOf 75 = .ok (.iinc 5 1, 3) := by decide +kernel
theorem dX8_lineOf_78 : decode cX8_lineOf 78 = .ok (.goto (-67), 3) := by decide +kernel
theorem dX8_lineOf_81 : decode cX8_lineOf 81 = .ok (.iconst 0, 1) := by decide +kernel
theorem dX8_lineOf_82 : decode cX8_lineOf 82 = .ok (.istore 5, 2) := by decide +kernel
theorem dX8_lineOf_84 : decode cX8_lineOf 84 = .ok (.iload 5, 2) := by decide +kernel
theorem dX8_lineOf_86 : decode cX8_lineOf 86 = .ok (.iload_n 3, 1) := by decide +kernel
theorem dX8_lineOf_87 : decode cX8_lineOf 87 = .ok (.if_icmp .ge 72, 3) := by decide +kernel
theorem dX8_lineOf_90 : decode cX8_lineOf 90 = .ok (.aload_n 0, 1) := by decide +kernel
theorem dX8_lineOf_91 : decode cX8_lineOf 91 = .ok (.getfield 31, 3) := by decide +kernel
theorem dX8_lineOf_94 : decode cX8_lineOf 94 = .ok (.bipush 12, 2) := by decide +kernel
theorem dX8_lineOf_96 : decode cX8_lineOf 96 = .ok (.iload_n 1, 1) := by decide +kernel
theorem dX8_lineOf_97 : decode cX8_lineOf 97 = .ok (.imul, 1) := by decide +kernel
theorem dX8_lineOf_98 : decode cX8_lineOf 98 = .ok (.iload 5, 2) := by decide +kernel
theorem dX8_lineOf_100 : decode cX8_lineOf 100 = .ok (.iadd, 1) := by decide +kernel
theorem dX8_lineOf_101 : decode cX8_lineOf 101 = .ok (.aload_n 0, 1) := by decide +kernel
theorem dX8_lineOf_102 : decode cX8_lineOf 102 = .ok (.getfield 84, 3) := by decide +kernel
theorem dX8_lineOf_105 : decode cX8_lineOf 105 = .ok (.iload_n 2, 1) := by decide +kernel
theorem dX8_lineOf_106 : decode cX8_lineOf 106 = .ok (.iload 5, 2) := by decide +kernel
theorem dX8_lineOf_108 : decode cX8_lineOf 108 = .ok (.iadd, 1) := by decide +kernel
theorem dX8_lineOf_109 : decode cX8_lineOf 109 = .ok (.iaload, 1) := by decide +kernel
theorem dX8_lineOf_110 : decode cX8_lineOf 110 = .ok (.iastore, 1) := by decide +kernel
theorem dX8_lineOf_111 : decode cX8_lineOf 111 = .ok (.aload_n 0, 1) := by decide +kernel
theorem dX8_lineOf_112 : decode cX8_lineOf 112 = .ok (.getfield 34, 3) := by decide +kernel
theorem dX8_lineOf_115 : decode cX8_lineOf 115 = .ok (.bipush 12, 2) := by decide +kernel
theorem dX8_lineOf_117 : decode cX8_lineOf 117 = .ok (.iload_n 1, 1) := by decide +kernel
theorem dX8_lineOf_118 : decode cX8_lineOf 118 = .ok (.imul, 1) := by decide +kernel
theorem dX8_lineOf_119 : decode cX8_lineOf 119 = .ok (.iload 5, 2) := by decide +kernel
theorem dX8_lineOf_121 : decode cX8_lineOf 121 = .ok (.iadd, 1) := by decide +kernel
theorem dX8_lineOf_122 : decode cX8_lineOf 122 = .ok (.aload_n 0, 1) := by decide +kernel
theorem dX8_lineOf_123 : decode cX8_lineOf 123 = .ok (.getfield 87, 3) := by decide +kernel
theorem dX8_lineOf_126 : decode cX8_lineOf 126 = .ok (.iload_n 2, 1) := by decide +kernel
theorem dX8_lineOf_127 : decode cX8_lineOf 127 = .ok (.iload 5, 2) := by decide +kernel
theorem dX8_lineOf_129 : decode cX8_lineOf 129 = .ok (.iadd, 1) := by decide +kernel
theorem dX8_lineOf_130 : decode cX8_lineOf 130 = .ok (.iaload, 1) := by decide +kernel
theorem dX8_lineOf_131 : decode cX8_lineOf 131 = .ok (.iastore, 1) := by decide +kernel
theorem dX8_lineOf_132 : decode cX8_lineOf 132 = .ok (.aload_n 0, 1) := by decide +kernel
theorem dX8_lineOf_133 : decode cX8_lineOf 133 = .ok (.getfield 37, 3) := by decide +kernel
theorem dX8_lineOf_136 : decode cX8_lineOf 136 = .ok (.bipush 12, 2) := by decide +kernel
theorem dX8_lineOf_138 : decode cX8_lineOf 138 = .ok (.iload_n 1, 1) := by decide +kernel
theorem dX8_lineOf_139 : decode cX8_lineOf 139 = .ok (.imul, 1) := by decide +kernel
theorem dX8_lineOf_140 : decode cX8_lineOf 140 = .ok (.iload 5, 2) := by decide +kernel
theorem dX8_lineOf_142 : decode cX8_lineOf 142 = .ok (.iadd, 1) := by decide +kernel
theorem dX8_lineOf_143 : decode cX8_lineOf 143 = .ok (.aload_n 0, 1) := by decide +kernel
theorem dX8_lineOf_144 : decode cX8_lineOf 144 = .ok (.getfield 90, 3) := by decide +kernel
theorem dX8_lineOf_147 : decode cX8_lineOf 147 = .ok (.iload_n 2, 1) := by decide +kernel
theorem dX8_lineOf_148 : decode cX8_lineOf 148 = .ok (.iload 5, 2) := by decide +kernel
theorem dX8_lineOf_150 : decode cX8_lineOf 150 = .ok (.iadd, 1) := by decide +kernel
theorem dX8_lineOf_151 : decode cX8_lineOf 151 = .ok (.iaload, 1) := by decide +kernel
theorem dX8_lineOf_152 : decode cX8_lineOf 152 = .ok (.iastore, 1) := by decide +kernel
theorem dX8_lineOf_153 : decode cX8_lineOf 153 = .ok (.iinc 5 1, 3) := by decide +kernel
theorem dX8_lineOf_156 : decode cX8_lineOf 156 = .ok (.goto (-72), 3) := by decide +kernel
theorem dX8_lineOf_159 : decode cX8_lineOf 159 = .ok (.aload_n 0, 1) := by decide +kernel
theorem dX8_lineOf_160 : decode cX8_lineOf 160 = .ok (.getfield 28, 3) := by decide +kernel
theorem dX8_lineOf_163 : decode cX8_lineOf 163 = .ok (.iload_n 1, 1) := by decide +kernel
theorem dX8_lineOf_164 : decode cX8_lineOf 164 = .ok (.iload_n 3, 1) := by decide +kernel
theorem dX8_lineOf_165 : decode cX8_lineOf 165 = .ok (.iastore, 1) := by decide +kernel
theorem dX8_lineOf_166 : decode cX8_lineOf 166 = .ok (.aload_n 0, 1) := by decide +kernel
theorem dX8_lineOf_167 : decode cX8_lineOf 167 = .ok (.getfield 22, 3) := by decide +kernel
theorem dX8_lineOf_170 : decode cX8_lineOf 170 = .ok (.iload_n 1, 1) := by decide +kernel
theorem dX8_lineOf_171 : decode cX8_lineOf 171 = .ok (.iconst 1, 1) := by decide +kernel
theorem dX8_lineOf_172 : decode cX8_lineOf 172 = .ok (.iastore, 1) := by decide +kernel
theorem dX8_lineOf_173 : decode cX8_lineOf 173 = .ok (.aload_n 0, 1) := by decide +kernel
theorem dX8_lineOf_174 : decode cX8_lineOf 174 = .ok (.iload_n 1, 1) := by decide +kernel
theorem dX8_lineOf_175 : decode cX8_lineOf 175 = .ok (.invokevirtual 208, 3) := by decide +kernel
theorem dX8_lineOf_178 : decode cX8_lineOf 178 = .ok (.istore 5, 2) := by decide +kernel
theorem dX8_lineOf_180 : decode cX8_lineOf 180 = .ok (.iload 5, 2) := by decide +kernel
theorem dX8_lineOf_182 : decode cX8_lineOf 182 = .ok (.iconst (-1), 1) := by decide +kernel
theorem dX8_lineOf_183 : decode cX8_lineOf 183 = .ok (.if_icmp .eq 13, 3) := by decide +kernel
theorem dX8_lineOf_186 : decode cX8_lineOf 186 = .ok (.aload_n 0, 1) := by decide +kernel
theorem dX8_lineOf_187 : decode cX8_lineOf 187 = .ok (.iload_n 1, 1) := by decide +kernel
theorem dX8_lineOf_188 : decode cX8_lineOf 188 = .ok (.iload 5, 2) := by decide +kernel
theorem dX8_lineOf_190 : decode cX8_lineOf 190 = .ok (.invokevirtual 198, 3) := by decide +kernel
theorem dX8_lineOf_193 : decode cX8_lineOf 193 = .ok (.goto 71, 3) := by decide +kernel
theorem dX8_lineOf_196 : decode cX8_lineOf 196 = .ok (.iconst 0, 1) := by decide +kernel
theorem dX8_lineOf_197 : decode cX8_lineOf 197 = .ok (.istore 6, 2) := by decide +kernel
theorem dX8_lineOf_199 : decode cX8_lineOf 199 = .ok (.iload 6, 2) := by decide +kernel
theorem dX8_lineOf_201 : decode cX8_lineOf 201 = .ok (.iload_n 3, 1) := by decide +kernel
theorem dX8_lineOf_202 : decode cX8_lineOf 202 = .ok (.if_icmp .ge 46, 3) := by decide +kernel
theorem dX8_lineOf_205 : decode cX8_lineOf 205 = .ok (.aload_n 0, 1) := by decide +kernel
theorem dX8_lineOf_206 : decode cX8_lineOf 206 = .ok (.getfield 69, 3) := by decide +kernel
theorem dX8_lineOf_209 : decode cX8_lineOf 209 = .ok (.iload 6, 2) := by decide +kernel
theorem dX8_lineOf_211 : decode cX8_lineOf 211 = .ok (.iload 6, 2) := by decide +kernel
theorem dX8_lineOf_213 : decode cX8_lineOf 213 = .ok (.iastore, 1) := by decide +kernel
theorem dX8_lineOf_214 : decode cX8_lineOf 214 = .ok (.aload_n 0, 1) := by decide +kernel
theorem dX8_lineOf_215 : decode cX8_lineOf 215 = .ok (.getfield 72, 3) := by decide +kernel
theorem dX8_lineOf_218 : decode cX8_lineOf 218 = .ok (.iload 6, 2) := by decide +kernel
theorem dX8_lineOf_220 : decode cX8_lineOf 220 = .ok (.aload_n 0, 1) := by decide +kernel
theorem dX8_lineOf_221 : decode cX8_lineOf 221 = .ok (.getfield 34, 3) := by decide +kernel
theorem dX8_lineOf_224 : decode cX8_lineOf 224 = .ok (.bipush 12, 2) := by decide +kernel
theorem dX8_lineOf_226 : decode cX8_lineOf 226 = .ok (.iload_n 1, 1) := by decide +kernel
theorem dX8_lineOf_227 : decode cX8_lineOf 227 = .ok (.imul, 1) := by decide +kernel
theorem dX8_lineOf_228 : decode cX8_lineOf 228 = .ok (.iload 6, 2) := by decide +kernel
theorem dX8_lineOf_230 : decode cX8_lineOf 230 = .ok (.iadd, 1) := by decide +kernel
theorem dX8_lineOf_231 : decode cX8_lineOf 231 = .ok (.iaload, 1) := by decide +kernel
theorem dX8_lineOf_232 : decode cX8_lineOf 232 = .ok (.i2l, 1) := by decide +kernel
theorem dX8_lineOf_233 : decode cX8_lineOf 233 = .ok (.lastore, 1) := by decide +kernel
theorem dX8_lineOf_234 : decode cX8_lineOf 234 = .ok (.aload_n 0, 1) := by decide +kernel
theorem dX8_lineOf_235 : decode cX8_lineOf 235 = .ok (.getfield 75, 3) := by decide +kernel
theorem dX8_lineOf_238 : decode cX8_lineOf 238 = .ok (.iload 6, 2) := by decide +kernel
theorem dX8_lineOf_240 : decode cX8_lineOf 240 = .ok (.lconst 1, 1) := by decide +kernel
theorem dX8_lineOf_241 : decode cX8_lineOf 241 = .ok (.lastore, 1) := by decide +kernel
theorem dX8_lineOf_242 : decode cX8_lineOf 242 = .ok (.iinc 6 1, 3) := by decide +kernel
theorem dX8_lineOf_245 : decode cX8_lineOf 245 = .ok (.goto (-46), 3) := by decide +kernel
theorem dX8_lineOf_248 : decode cX8_lineOf 248 = .ok (.aload_n 0, 1) := by decide +kernel
theorem dX8_lineOf_249 : decode cX8_lineOf 249 = .ok (.iload_n 1, 1) := by decide +kernel
theorem dX8_lineOf_250 : decode cX8_lineOf 250 = .ok (.iload_n 3, 1) := by decide +kernel
theorem dX8_lineOf_251 : decode cX8_lineOf 251 = .ok (.invokevirtual 178, 3) := by decide +kernel
theorem dX8_lineOf_254 : decode cX8_lineOf 254 = .ok (.aload_n 0, 1) := by decide +kernel
theorem dX8_lineOf_255 : decode cX8_lineOf 255 = .ok (.lconst 0, 1) := by decide +kernel
theorem dX8_lineOf_256 : decode cX8_lineOf 256 = .ok (.putfield 154, 3) := by decide +kernel
theorem dX8_lineOf_259 : decode cX8_lineOf 259 = .ok (.aload_n 0, 1) := by decide +kernel
theorem dX8_lineOf_260 : decode cX8_lineOf 260 = .ok (.lconst 1, 1) := by decide +kernel
theorem dX8_lineOf_261 : decode cX8_lineOf 261 = .ok (.putfield 157, 3) := by decide +kernel
theorem dX8_lineOf_264 : decode cX8_lineOf 264 = .ok (.aload_n 0, 1) := by decide +kernel
theorem dX8_lineOf_265 : decode cX8_lineOf 265 = .ok (.getfield 22, 3) := by decide +kernel
theorem dX8_lineOf_268 : decode cX8_lineOf 268 = .ok (.iload_n 1, 1) := by decide +kernel
theorem dX8_lineOf_269 : decode cX8_lineOf 269 = .ok (.iconst 4, 1) := by decide +kernel
theorem dX8_lineOf_270 : decode cX8_lineOf 270 = .ok (.iastore, 1) := by decide +kernel
theorem dX8_lineOf_271 : decode cX8_lineOf 271 = .ok (.aload_n 0, 1) := by decide +kernel
theorem dX8_lineOf_272 : decode cX8_lineOf 272 = .ok (.getfield 28, 3) := by decide +kernel
theorem dX8_lineOf_275 : decode cX8_lineOf 275 = .ok (.iload_n 1, 1) := by decide +kernel
theorem dX8_lineOf_276 : decode cX8_lineOf 276 = .ok (.iload 4, 2) := by decide +kernel
theorem dX8_lineOf_278 : decode cX8_lineOf 278 = .ok (.iastore, 1) := by decide +kernel
theorem dX8_lineOf_279 : decode cX8_lineOf 279 = .ok (.iconst 0, 1) := by decide +kernel
theorem dX8_lineOf_280 : decode cX8_lineOf 280 = .ok (.istore 6, 2) := by decide +kernel
theorem dX8_lineOf_282 : decode cX8_lineOf 282 = .ok (.iload 6, 2) := by decide +kernel
theorem dX8_lineOf_284 : decode cX8_lineOf 284 = .ok (.iload 4, 2) := by decide +kernel
theorem dX8_lineOf_286 : decode cX8_lineOf 286 = .ok (.if_icmp .ge 66, 3) := by decide +kernel
theorem dX8_lineOf_289 : decode cX8_lineOf 289 = .ok (.aload_n 0, 1) := by decide +kernel
theorem dX8_lineOf_290 : decode cX8_lineOf 290 = .ok (.getfield 31, 3) := by decide +kernel
theorem dX8_lineOf_293 : decode cX8_lineOf 293 = .ok (.bipush 12, 2) := by decide +kernel
theorem dX8_lineOf_295 : decode cX8_lineOf 295 = .ok (.iload_n 1, 1) := by decide +kernel
theorem dX8_lineOf_296 : decode cX8_lineOf 296 = .ok (.imul, 1) := by decide +kernel
theorem dX8_lineOf_297 : decode cX8_lineOf 297 = .ok (.iload 6, 2) := by decide +kernel
theorem dX8_lineOf_299 : decode cX8_lineOf 299 = .ok (.iadd, 1) := by decide +kernel
theorem dX8_lineOf_300 : decode cX8_lineOf 300 = .ok (.aload_n 0, 1) := by decide +kernel
theorem dX8_lineOf_301 : decode cX8_lineOf 301 = .ok (.getfield 84, 3) := by decide +kernel
theorem dX8_lineOf_304 : decode cX8_lineOf 304 = .ok (.iload 6, 2) := by decide +kernel
theorem dX8_lineOf_306 : decode cX8_lineOf 306 = .ok (.iaload, 1) := by decide +kernel
theorem dX8_lineOf_307 : decode cX8_lineOf 307 = .ok (.iastore, 1) := by decide +kernel
theorem dX8_lineOf_308 : decode cX8_lineOf 308 = .ok (.aload_n 0, 1) := by decide +kernel
theorem dX8_lineOf_309 : decode cX8_lineOf 309 = .ok (.getfield 34, 3) := by decide +kernel
theorem dX8_lineOf_312 : decode cX8_lineOf 312 = .ok (.bipush 12, 2) := by decide +kernel
theorem dX8_lineOf_314 : decode cX8_lineOf 314 = .ok (.iload_n 1, 1) := by decide +kernel
theorem dX8_lineOf_315 : decode cX8_lineOf 315 = .ok (.imul, 1) := by decide +kernel
theorem dX8_lineOf_316 : decode cX8_lineOf 316 = .ok (.iload 6, 2) := by decide +kernel
theorem dX8_lineOf_318 : decode cX8_lineOf 318 = .ok (.iadd, 1) := by decide +kernel
theorem dX8_lineOf_319 : decode cX8_lineOf 319 = .ok (.aload_n 0, 1) := by decide +kernel
theorem dX8_lineOf_320 : decode cX8_lineOf 320 = .ok (.getfield 87, 3) := by decide +kernel
theorem dX8_lineOf_323 : decode cX8_lineOf 323 = .ok (.iload 6, 2) := by decide +kernel
theorem dX8_lineOf_325 : decode cX8_lineOf 325 = .ok (.iaload, 1) := by decide +kernel
theorem dX8_lineOf_326 : decode cX8_lineOf 326 = .ok (.iastore, 1) := by decide +kernel
theorem dX8_lineOf_327 : decode cX8_lineOf 327 = .ok (.aload_n 0, 1) := by decide +kernel
theorem dX8_lineOf_328 : decode cX8_lineOf 328 = .ok (.getfield 37, 3) := by decide +kernel
theorem dX8_lineOf_331 : decode cX8_lineOf 331 = .ok (.bipush 12, 2) := by decide +kernel
theorem dX8_lineOf_333 : decode cX8_lineOf 333 = .ok (.iload_n 1, 1) := by decide +kernel
theorem dX8_lineOf_334 : decode cX8_lineOf 334 = .ok (.imul, 1) := by decide +kernel
theorem dX8_lineOf_335 : decode cX8_lineOf 335 = .ok (.iload 6, 2) := by decide +kernel
theorem dX8_lineOf_337 : decode cX8_lineOf 337 = .ok (.iadd, 1) := by decide +kernel
theorem dX8_lineOf_338 : decode cX8_lineOf 338 = .ok (.aload_n 0, 1) := by decide +kernel
theorem dX8_lineOf_339 : decode cX8_lineOf 339 = .ok (.getfield 90, 3) := by decide +kernel
theorem dX8_lineOf_342 : decode cX8_lineOf 342 = .ok (.iload 6, 2) := by decide +kernel
theorem dX8_lineOf_344 : decode cX8_lineOf 344 = .ok (.iaload, 1) := by decide +kernel
theorem dX8_lineOf_345 : decode cX8_lineOf 345 = .ok (.iastore, 1) := by decide +kernel
theorem dX8_lineOf_346 : decode cX8_lineOf 346 = .ok (.iinc 6 1, 3) := by decide +kernel
theorem dX8_lineOf_349 : decode cX8_lineOf 349 = .ok (.goto (-67), 3) := by decide +kernel
theorem dX8_lineOf_352 : decode cX8_lineOf 352 = .ok (.return_, 1) := by decide +kernel
theorem dX8_pieces_0 : decode cX8_pieces 0 = .ok (.aload_n 0, 1) := by decide +kernel
theorem dX8_pieces_1 : decode cX8_pieces 1 = .ok (.iload_n 1, 1) := by decide +kernel
theorem dX8_pieces_2 : decode cX8_pieces 2 = .ok (.iload_n 2, 1) := by decide +kernel
theorem dX8_pieces_3 : decode cX8_pieces 3 = .ok (.iconst 0, 1) := by decide +kernel
theorem dX8_pieces_4 : decode cX8_pieces 4 = .ok (.iconst 2, 1) := by decide +kernel
theorem dX8_pieces_5 : decode cX8_pieces 5 = .ok (.invokestatic 100, 3) := by decide +kernel
theorem dX8_pieces_8 : decode cX8_pieces 8 = .ok (.ifCond .eq 30, 3) := by decide +kernel
theorem dX8_pieces_11 : decode cX8_pieces 11 = .ok (.iload_n 3, 1) := by decide +kernel
theorem dX8_pieces_12 : decode cX8_pieces 12 = .ok (.iconst 0, 1) := by decide +kernel
theorem dX8_pieces_13 : decode cX8_pieces 13 = .ok (.sipush 10000, 3) := by decide +kernel
theorem dX8_pieces_16 : decode cX8_pieces 16 = .ok (.invokestatic 100, 3) := by decide +kernel
theorem dX8_pieces_19 : decode cX8_pieces 19 = .ok (.ifCond .eq 19, 3) := by decide +kernel
theorem dX8_pieces_22 : decode cX8_pieces 22 = .ok (.iload 4, 2) := by decide +kernel
theorem dX8_pieces_24 : decode cX8_pieces 24 = .ok (.iconst 1, 1) := by decide +kernel
theorem dX8_pieces_25 : decode cX8_pieces 25 = .ok (.sipush 1000, 3) := by decide +kernel
theorem dX8_pieces_28 : decode cX8_pieces 28 = .ok (.invokestatic 100, 3) := by decide +kernel
theorem dX8_pieces_31 : decode cX8_pieces 31 = .ok (.ifCond .eq 7, 3) := by decide +kernel
theorem dX8_pieces_34 : decode cX8_pieces 34 = .ok (.iconst 1, 1) := by decide +kernel
theorem dX8_pieces_35 : decode cX8_pieces 35 = .ok (.goto 4, 3) := by decide +kernel
theorem dX8_pieces_38 : decode cX8_pieces 38 = .ok (.iconst 0, 1) := by decide +kernel
theorem dX8_pieces_39 : decode cX8_pieces 39 = .ok (.invokevirtual 137, 3) := by decide +kernel
theorem dX8_pieces_42 : decode cX8_pieces 42 = .ok (.istore 5, 2) := by decide +kernel
theorem dX8_pieces_44 : decode cX8_pieces 44 = .ok (.iload 5, 2) := by decide +kernel
theorem dX8_pieces_46 : decode cX8_pieces 46 = .ok (.ifCond .eq 10, 3) := by decide +kernel
theorem dX8_pieces_49 : decode cX8_pieces 49 = .ok (.aload_n 0, 1) := by decide +kernel
theorem dX8_pieces_50 : decode cX8_pieces 50 = .ok (.iload 5, 2) := by decide +kernel
theorem dX8_pieces_52 : decode cX8_pieces 52 = .ok (.invokevirtual 118, 3) := by decide +kernel
theorem dX8_pieces_55 : decode cX8_pieces 55 = .ok (.ireturn, 1) := by decide +kernel
theorem dX8_pieces_56 : decode cX8_pieces 56 = .ok (.aload_n 0, 1) := by decide +kernel
theorem dX8_pieces_57 : decode cX8_pieces 57 = .ok (.iload_n 1, 1) := by decide +kernel
theorem dX8_pieces_58 : decode cX8_pieces 58 = .ok (.iconst 4, 1) := by decide +kernel
theorem dX8_pieces_59 : decode cX8_pieces 59 = .ok (.iload_n 2, 1) := by decide +kernel
theorem dX8_pieces_60 : decode cX8_pieces 60 = .ok (.invokevirtual 141, 3) := by decide +kernel
theorem dX8_pieces_63 : decode cX8_pieces 63 = .ok (.istore 6, 2) := by decide +kernel
theorem dX8_pieces_65 : decode cX8_pieces 65 = .ok (.aload_n 0, 1) := by decide +kernel
theorem dX8_pieces_66 : decode cX8_pieces 66 = .ok (.getfield 40, 3) := by decide +kernel
theorem dX8_pieces_69 : decode cX8_pieces 69 = .ok (.iload 6, 2) := by decide +kernel
theorem dX8_pieces_71 : decode cX8_pieces 71 = .ok (.iconst 0, 1) := by decide +kernel
theorem dX8_pieces_72 : decode cX8_pieces 72 = .ok (.iastore, 1) := by decide +kernel
theorem dX8_pieces_73 : decode cX8_pieces 73 = .ok (.iconst 0, 1) := by decide +kernel
theorem dX8_pieces_74 : decode cX8_pieces 74 = .ok (.istore 7, 2) := by decide +kernel
theorem dX8_pieces_76 : decode cX8_pieces 76 = .ok (.iload 7, 2) := by decide +kernel
theorem dX8_pieces_78 : decode cX8_pieces 78 = .ok (.aload_n 0, 1) := by decide +kernel
theorem dX8_pieces_79 : decode cX8_pieces 79 = .ok (.getfield 28, 3) := by decide +kernel
theorem dX8_pieces_82 : decode cX8_pieces 82 = .ok (.iload 6, 2) := by decide +kernel
theorem dX8_pieces_84 : decode cX8_pieces 84 = .ok (.iaload, 1) := by decide +kernel
theorem dX8_pieces_85 : decode cX8_pieces 85 = .ok (.if_icmp .ge 131, 3) := by decide +kernel
theorem dX8_pieces_88 : decode cX8_pieces 88 = .ok (.aload_n 0, 1) := by decide +kernel
theorem dX8_pieces_89 : decode cX8_pieces 89 = .ok (.getfield 28, 3) := by decide +kernel
theorem dX8_pieces_92 : decode cX8_pieces 92 = .ok (.iload 6, 2) := by decide +kernel
theorem dX8_pieces_94 : decode cX8_pieces 94 = .ok (.iaload, 1) := by decide +kernel
theorem dX8_pieces_95 : decode cX8_pieces 95 = .ok (.iload 7, 2) := by decide +kernel
theorem dX8_pieces_97 : decode cX8_pieces 97 = .ok (.isub, 1) := by decide +kernel
theorem dX8_pieces_98 : decode cX8_pieces 98 = .ok (.istore 8, 2) := by decide +kernel
theorem dX8_pieces_100 : decode cX8_pieces 100 = .ok (.aload_n 0, 1) := by decide +kernel
theorem dX8_pieces_101 : decode cX8_pieces 101 = .ok (.iload 6, 2) := by decide +kernel
theorem dX8_pieces_103 : decode cX8_pieces 103 = .ok (.iload 7, 2) := by decide +kernel
theorem dX8_pieces_105 : decode cX8_pieces 105 = .ok (.iload 8, 2) := by decide +kernel
theorem dX8_pieces_107 : decode cX8_pieces 107 = .ok (.invokevirtual 217, 3) := by decide +kernel
theorem dX8_pieces_110 : decode cX8_pieces 110 = .ok (.aload_n 0, 1) := by decide +kernel
theorem dX8_pieces_111 : decode cX8_pieces 111 = .ok (.getfield 154, 3) := by decide +kernel
theorem dX8_pieces_114 : decode cX8_pieces 114 = .ok (.lconst 0, 1) := by decide +kernel
theorem dX8_pieces_115 : decode cX8_pieces 115 = .ok (.lcmp, 1) := by decide +kernel
theorem dX8_pieces_116 : decode cX8_pieces 116 = .ok (.ifCond .ge 11, 3) := by decide +kernel
theorem dX8_pieces_119 : decode cX8_pieces 119 = .ok (.aload_n 0, 1) := by decide +kernel
theorem dX8_pieces_120 : decode cX8_pieces 120 = .ok (.getfield 154, 3) := by decide +kernel
theorem dX8_pieces_123 : decode cX8_pieces 123 = .ok (.lneg, 1) := by decide +kernel
theorem dX8_pieces_124 : decode cX8_pieces 124 = .ok (.goto 7, 3) := by decide +kernel
theorem dX8_pieces_127 : decode cX8_pieces 127 = .ok (.aload_n 0, 1) := by decide +kernel
theorem dX8_pieces_128 : decode cX8_pieces 128 = .ok (.getfield 154, 3) := by decide +kernel
theorem dX8_pieces_131 : decode cX8_pieces 131 = .ok (.aload_n 0, 1) := by decide +kernel
theorem dX8_pieces_132 : decode cX8_pieces 132 = .ok (.getfield 157, 3) := by decide +kernel
theorem dX8_pieces_135 : decode cX8_pieces 135 = .ok (.iload_n 3, 1) := by decide +kernel
theorem dX8_pieces_136 : decode cX8_pieces 136 = .ok (.i2l, 1) := by decide +kernel
theorem dX8_pieces_137 : decode cX8_pieces 137 = .ok (.iload 4, 2) := by decide +kernel
theorem dX8_pieces_139 : decode cX8_pieces 139 = .ok (.i2l, 1) := by decide +kernel
theorem dX8_pieces_140 : decode cX8_pieces 140 = .ok (.invokestatic 201, 3) := by decide +kernel
theorem dX8_pieces_143 : decode cX8_pieces 143 = .ok (.ifCond .le 19, 3) := by decide +kernel
theorem dX8_pieces_146 : decode cX8_pieces 146 = .ok (.iinc 8 (-1), 3) := by decide +kernel
theorem dX8_pieces_149 : decode cX8_pieces 149 = .ok (.aload_n 0, 1) := by decide +kernel
theorem dX8_pieces_150 : decode cX8_pieces 150 = .ok (.iload 6, 2) := by decide +kernel
theorem dX8_pieces_152 : decode cX8_pieces 152 = .ok (.iload 7, 2) := by decide +kernel
theorem dX8_pieces_154 : decode cX8_pieces 154 = .ok (.iload 8, 2) := by decide +kernel
theorem dX8_pieces_156 : decode cX8_pieces 156 = .ok (.invokevirtual 217, 3) := by decide +kernel
theorem dX8_pieces_159 : decode cX8_pieces 159 = .ok (.goto (-49), 3) := by decide +kernel
theorem dX8_pieces_162 : decode cX8_pieces 162 = .ok (.aload_n 0, 1) := by decide +kernel
theorem dX8_pieces_163 : decode cX8_pieces 163 = .ok (.getfield 43, 3) := by decide +kernel
theorem dX8_pieces_166 : decode cX8_pieces 166 = .ok (.bipush 12, 2) := by decide +kernel
theorem dX8_pieces_168 : decode cX8_pieces 168 = .ok (.iload 6, 2) := by decide +kernel
theorem dX8_pieces_170 : decode cX8_pieces 170 = .ok (.imul, 1) := by decide +kernel
theorem dX8_pieces_171 : decode cX8_pieces 171 = .ok (.aload_n 0, 1) := by decide +kernel
theorem dX8_pieces_172 : decode cX8_pieces 172 = .ok (.getfield 40, 3) := by decide +kernel
theorem dX8_pieces_175 : decode cX8_pieces 175 = .ok (.iload 6, 2) := by decide +kernel
theorem dX8_pieces_177 : decode cX8_pieces 177 = .ok (.iaload, 1) := by decide +kernel
theorem dX8_pieces_178 : decode cX8_pieces 178 = .ok (.iadd, 1) := by decide +kernel
theorem dX8_pieces_179 : decode cX8_pieces 179 = .ok (.iload 7, 2) := by decide +kernel
theorem dX8_pieces_181 : decode cX8_pieces 181 = .ok (.iastore, 1) := by decide +kernel
theorem dX8_pieces_182 : decode cX8_pieces 182 = .ok (.aload_n 0, 1) := by decide +kernel
theorem dX8_pieces_183 : decode cX8_pieces 183 = .ok (.iload 6, 2) := by decide +kernel
theorem dX8_pieces_185 : decode cX8_pieces 185 = .ok (.aload_n 0, 1) := by decide +kernel
theorem dX8_pieces_186 : decode cX8_pieces 186 = .ok (.getfield 40, 3) := by decide +kernel
theorem dX8_pieces_189 : decode cX8_pieces 189 = .ok (.iload 6, 2) := by decide +kernel
theorem dX8_pieces_191 : decode cX8_pieces 191 = .ok (.iaload, 1) := by decide +kernel
theorem dX8_pieces_192 : decode cX8_pieces 192 = .ok (.invokevirtual 211, 3) := by decide +kernel
theorem dX8_pieces_195 : decode cX8_pieces 195 = .ok (.aload_n 0, 1) := by decide +kernel
theorem dX8_pieces_196 : decode cX8_pieces 196 = .ok (.getfield 40, 3) := by decide +kernel
theorem dX8_pieces_199 : decode cX8_pieces 199 = .ok (.iload 6, 2) := by decide +kernel
theorem dX8_pieces_201 : decode cX8_pieces 201 = .ok (.dup2, 1) := by decide +kernel
theorem dX8_pieces_202 : decode cX8_pieces 202 = .ok (.iaload, 1) := by decide +kernel
theorem dX8_pieces_203 : decode cX8_pieces 203 = .ok (.iconst 1, 1) := by decide +kernel
theorem dX8_pieces_204 : decode cX8_pieces 204 = .ok (.iadd, 1) := by decide +kernel
theorem dX8_pieces_205 : decode cX8_pieces 205 = .ok (.iastore, 1) := by decide +kernel
theorem dX8_pieces_206 : decode cX8_pieces 206 = .ok (.iload 7, 2) := by decide +kernel
theorem dX8_pieces_208 : decode cX8_pieces 208 = .ok (.iload 8, 2) := by decide +kernel
theorem dX8_pieces_210 : decode cX8_pieces 210 = .ok (.iadd, 1) := by decide +kernel
theorem dX8_pieces_211 : decode cX8_pieces 211 = .ok (.istore 7, 2) := by decide +kernel
theorem dX8_pieces_213 : decode cX8_pieces 213 = .ok (.goto (-137), 3) := by decide +kernel
theorem dX8_pieces_216 : decode cX8_pieces 216 = .ok (.aload_n 0, 1) := by decide +kernel
theorem dX8_pieces_217 : decode cX8_pieces 217 = .ok (.iload 6, 2) := by decide +kernel
theorem dX8_pieces_219 : decode cX8_pieces 219 = .ok (.invokevirtual 130, 3) := by decide +kernel
theorem dX8_pieces_222 : decode cX8_pieces 222 = .ok (.ireturn, 1) := by decide +kernel
theorem dX8_drop_0 : decode cX8_drop 0 = .ok (.aload_n 0, 1) := by decide +kernel
theorem dX8_drop_1 : decode cX8_drop 1 = .ok (.getfield 97, 3) := by decide +kernel
theorem dX8_drop_4 : decode cX8_drop 4 = .ok (.ifCond .ne 9, 3) := by decide +kernel
theorem dX8_drop_7 : decode cX8_drop 7 = .ok (.aload_n 0, 1) := by decide +kernel
theorem dX8_drop_8 : decode cX8_drop 8 = .ok (.iconst 3, 1) := by decide +kernel
theorem dX8_drop_9 : decode cX8_drop 9 = .ok (.invokevirtual 118, 3) := by decide +kernel
theorem dX8_drop_12 : decode cX8_drop 12 = .ok (.ireturn, 1) := by decide +kernel
theorem dX8_drop_13 : decode cX8_drop 13 = .ok (.aload_n 0, 1) := by decide +kernel
theorem dX8_drop_14 : decode cX8_drop 14 = .ok (.dup, 1) := by decide +kernel
theorem dX8_drop_15 : decode cX8_drop 15 = .ok (.getfield 97, 3) := by decide +kernel
theorem dX8_drop_18 : decode cX8_drop 18 = .ok (.iconst 1, 1) := by decide +kernel
theorem dX8_drop_19 : decode cX8_drop 19 = .ok (.isub, 1) := by decide +kernel
theorem dX8_drop_20 : decode cX8_drop 20 = .ok (.putfield 97, 3) := by decide +kernel
theorem dX8_drop_23 : decode cX8_drop 23 = .ok (.aload_n 0, 1) := by decide +kernel
theorem dX8_drop_24 : decode cX8_drop 24 = .ok (.aload_n 0, 1) := by decide +kernel
theorem dX8_drop_25 : decode cX8_drop 25 = .ok (.getfield 97, 3) := by decide +kernel
theorem dX8_drop_28 : decode cX8_drop 28 = .ok (.invokevirtual 130, 3) := by decide +kernel
theorem dX8_drop_31 : decode cX8_drop 31 = .ok (.ireturn, 1) := by decide +kernel
theorem dX8_pointTold_0 : decode cX8_pointTold 0 = .ok (.iload_n 1, 1) := by decide +kernel
theorem dX8_pointTold_1 : decode cX8_pointTold 1 = .ok (.iconst 0, 1) := by decide +kernel
theorem dX8_pointTold_2 : decode cX8_pointTold 2 = .ok (.iconst 5, 1) := by decide +kernel
theorem dX8_pointTold_3 : decode cX8_pointTold 3 = .ok (.invokestatic 100, 3) := by decide +kernel
theorem dX8_pointTold_6 : decode cX8_pointTold 6 = .ok (.ifCond .eq 28, 3) := by decide +kernel
theorem dX8_pointTold_9 : decode cX8_pointTold 9 = .ok (.iload_n 2, 1) := by decide +kernel
theorem dX8_pointTold_10 : decode cX8_pointTold 10 = .ok (.iconst 0, 1) := by decide +kernel
theorem dX8_pointTold_11 : decode cX8_pointTold 11 = .ok (.aload_n 0, 1) := by decide +kernel
theorem dX8_pointTold_12 : decode cX8_pointTold 12 = .ok (.getfield 7, 3) := by decide +kernel
theorem dX8_pointTold_15 : decode cX8_pointTold 15 = .ok (.iload_n 1, 1) := by decide +kernel
theorem dX8_pointTold_16 : decode cX8_pointTold 16 = .ok (.iaload, 1) := by decide +kernel
theorem dX8_pointTold_17 : decode cX8_pointTold 17 = .ok (.iconst 1, 1) := by decide +kernel
theorem dX8_pointTold_18 : decode cX8_pointTold 18 = .ok (.isub, 1) := by decide +kernel
theorem dX8_pointTold_19 : decode cX8_pointTold 19 = .ok (.invokestatic 100, 3) := by decide +kernel
theorem dX8_pointTold_22 : decode cX8_pointTold 22 = .ok (.ifCond .eq 12, 3) := by decide +kernel
theorem dX8_pointTold_25 : decode cX8_pointTold 25 = .ok (.iload_n 3, 1) := by decide +kernel
theorem dX8_pointTold_26 : decode cX8_pointTold 26 = .ok (.iconst 0, 1) := by decide +kernel
theorem dX8_pointTold_27 : decode cX8_pointTold 27 = .ok (.iconst 2, 1) := by decide +kernel
theorem dX8_pointTold_28 : decode cX8_pointTold 28 = .ok (.invokestatic 100, 3) := by decide +kernel
theorem dX8_pointTold_31 : decode cX8_pointTold 31 = .ok (.ifCond .ne 7, 3) := by decide +kernel
theorem dX8_pointTold_34 : decode cX8_pointTold 34 = .ok (.ldc2_w 220, 3) := by decide +kernel
theorem dX8_pointTold_37 : decode cX8_pointTold 37 = .ok (.lreturn, 1) := by decide +kernel
theorem dX8_pointTold_38 : decode cX8_pointTold 38 = .ok (.bipush 12, 2) := by decide +kernel
theorem dX8_pointTold_40 : decode cX8_pointTold 40 = .ok (.iload_n 1, 1) := by decide +kernel
theorem dX8_pointTold_41 : decode cX8_pointTold 41 = .ok (.imul, 1) := by decide +kernel
theorem dX8_pointTold_42 : decode cX8_pointTold 42 = .ok (.iload_n 2, 1) := by decide +kernel
theorem dX8_pointTold_43 : decode cX8_pointTold 43 = .ok (.iadd, 1) := by decide +kernel
theorem dX8_pointTold_44 : decode cX8_pointTold 44 = .ok (.istore 4, 2) := by decide +kernel
theorem dX8_pointTold_46 : decode cX8_pointTold 46 = .ok (.iload_n 3, 1) := by decide +kernel
theorem dX8_pointTold_47 : decode cX8_pointTold 47 = .ok (.ifCond .ne 14, 3) := by decide +kernel
theorem dX8_pointTold_50 : decode cX8_pointTold 50 = .ok (.aload_n 0, 1) := by decide +kernel
theorem dX8_pointTold_51 : decode cX8_pointTold 51 = .ok (.getfield 13, 3) := by decide +kernel
theorem dX8_pointTold_54 : decode cX8_pointTold 54 = .ok (.iload 4, 2) := by decide +kernel
theorem dX8_pointTold_56 : decode cX8_pointTold 56 = .ok (.iaload, 1) := by decide +kernel
theorem dX8_pointTold_57 : decode cX8_pointTold 57 = .ok (.i2l, 1) := by decide +kernel
theorem dX8_pointTold_58 : decode cX8_pointTold 58 = .ok (.goto 27, 3) := by decide +kernel
theorem dX8_pointTold_61 : decode cX8_pointTold 61 = .ok (.iload_n 3, 1) := by decide +kernel
theorem dX8_pointTold_62 : decode cX8_pointTold 62 = .ok (.iconst 1, 1) := by decide +kernel
theorem dX8_pointTold_63 : decode cX8_pointTold 63 = .ok (.if_icmp .ne 14, 3) := by decide +kernel
theorem dX8_pointTold_66 : decode cX8_pointTold 66 = .ok (.aload_n 0, 1) := by decide +kernel
theorem dX8_pointTold_67 : decode cX8_pointTold 67 = .ok (.getfield 16, 3) := by decide +kernel
theorem dX8_pointTold_70 : decode cX8_pointTold 70 = .ok (.iload 4, 2) := by decide +kernel
theorem dX8_pointTold_72 : decode cX8_pointTold 72 = .ok (.iaload, 1) := by decide +kernel
theorem dX8_pointTold_73 : decode cX8_pointTold 73 = .ok (.i2l, 1) := by decide +kernel
theorem dX8_pointTold_74 : decode cX8_pointTold 74 = .ok (.goto 11, 3) := by decide +kernel
theorem dX8_pointTold_77 : decode cX8_pointTold 77 = .ok (.aload_n 0, 1) := by decide +kernel
theorem dX8_pointTold_78 : decode cX8_pointTold 78 = .ok (.getfield 19, 3) := by decide +kernel
theorem dX8_pointTold_81 : decode cX8_pointTold 81 = .ok (.iload 4, 2) := by decide +kernel
theorem dX8_pointTold_83 : decode cX8_pointTold 83 = .ok (.iaload, 1) := by decide +kernel
theorem dX8_pointTold_84 : decode cX8_pointTold 84 = .ok (.i2l, 1) := by decide +kernel
theorem dX8_pointTold_85 : decode cX8_pointTold 85 = .ok (.lreturn, 1) := by decide +kernel
theorem dX8_count_0 : decode cX8_count 0 = .ok (.iload_n 1, 1) := by decide +kernel
theorem dX8_count_1 : decode cX8_count 1 = .ok (.ifCond .ne 10, 3) := by decide +kernel
theorem dX8_count_4 : decode cX8_count 4 = .ok (.aload_n 0, 1) := by decide +kernel
theorem dX8_count_5 : decode cX8_count 5 = .ok (.getfield 97, 3) := by decide +kernel
theorem dX8_count_8 : decode cX8_count 8 = .ok (.goto 37, 3) := by decide +kernel
theorem dX8_count_11 : decode cX8_count 11 = .ok (.iload_n 1, 1) := by decide +kernel
theorem dX8_count_12 : decode cX8_count 12 = .ok (.iconst 1, 1) := by decide +kernel
theorem dX8_count_13 : decode cX8_count 13 = .ok (.if_icmp .ne 10, 3) := by decide +kernel
theorem dX8_count_16 : decode cX8_count 16 = .ok (.aload_n 0, 1) := by decide +kernel
theorem dX8_count_17 : decode cX8_count 17 = .ok (.getfield 222, 3) := by decide +kernel
theorem dX8_count_20 : decode cX8_count 20 = .ok (.goto 25, 3) := by decide +kernel
theorem dX8_count_23 : decode cX8_count 23 = .ok (.iload_n 1, 1) := by decide +kernel
theorem dX8_count_24 : decode cX8_count 24 = .ok (.iconst 2, 1) := by decide +kernel
theorem dX8_count_25 : decode cX8_count 25 = .ok (.bipush 7, 2) := by decide +kernel
theorem dX8_count_27 : decode cX8_count 27 = .ok (.invokestatic 100, 3) := by decide +kernel
theorem dX8_count_30 : decode cX8_count 30 = .ok (.ifCond .eq 14, 3) := by decide +kernel
theorem dX8_count_33 : decode cX8_count 33 = .ok (.aload_n 0, 1) := by decide +kernel
theorem dX8_count_34 : decode cX8_count 34 = .ok (.getfield 7, 3) := by decide +kernel
theorem dX8_count_37 : decode cX8_count 37 = .ok (.iload_n 1, 1) := by decide +kernel
theorem dX8_count_38 : decode cX8_count 38 = .ok (.iconst 2, 1) := by decide +kernel
theorem dX8_count_39 : decode cX8_count 39 = .ok (.isub, 1) := by decide +kernel
theorem dX8_count_40 : decode cX8_count 40 = .ok (.iaload, 1) := by decide +kernel
theorem dX8_count_41 : decode cX8_count 41 = .ok (.goto 4, 3) := by decide +kernel
theorem dX8_count_44 : decode cX8_count 44 = .ok (.iconst (-1), 1) := by decide +kernel
theorem dX8_count_45 : decode cX8_count 45 = .ok (.ireturn, 1) := by decide +kernel
theorem dX8_valueOf_0 : decode cX8_valueOf 0 = .ok (.aload_n 0, 1) := by decide +kernel
theorem dX8_valueOf_1 : decode cX8_valueOf 1 = .ok (.lload 9, 2) := by decide +kernel
theorem dX8_valueOf_3 : decode cX8_valueOf 3 = .ok (.lload 11, 2) := by decide +kernel
theorem dX8_valueOf_5 : decode cX8_valueOf 5 = .ok (.iload 13, 2) := by decide +kernel
theorem dX8_valueOf_7 : decode cX8_valueOf 7 = .ok (.i2l, 1) := by decide +kernel
theorem dX8_valueOf_8 : decode cX8_valueOf 8 = .ok (.lconst 1, 1) := by decide +kernel
theorem dX8_valueOf_9 : decode cX8_valueOf 9 = .ok (.invokevirtual 168, 3) := by decide +kernel
theorem dX8_valueOf_12 : decode cX8_valueOf 12 = .ok (.aload_n 0, 1) := by decide +kernel
theorem dX8_valueOf_13 : decode cX8_valueOf 13 = .ok (.aload_n 0, 1) := by decide +kernel
theorem dX8_valueOf_14 : decode cX8_valueOf 14 = .ok (.getfield 108, 3) := by decide +kernel
theorem dX8_valueOf_17 : decode cX8_valueOf 17 = .ok (.aload_n 0, 1) := by decide +kernel
theorem dX8_valueOf_18 : decode cX8_valueOf 18 = .ok (.getfield 65, 3) := by decide +kernel
theorem dX8_valueOf_21 : decode cX8_valueOf 21 = .ok (.lload 5, 2) := by decide +kernel
theorem dX8_valueOf_23 : decode cX8_valueOf 23 = .ok (.lload 7, 2) := by decide +kernel
theorem dX8_valueOf_25 : decode cX8_valueOf 25 = .ok (.invokevirtual 164, 3) := by decide +kernel
theorem dX8_valueOf_28 : decode cX8_valueOf 28 = .ok (.aload_n 0, 1) := by decide +kernel
theorem dX8_valueOf_29 : decode cX8_valueOf 29 = .ok (.aload_n 0, 1) := by decide +kernel
theorem dX8_valueOf_30 : decode cX8_valueOf 30 = .ok (.getfield 108, 3) := by decide +kernel
theorem dX8_valueOf_33 : decode cX8_valueOf 33 = .ok (.aload_n 0, 1) := by decide +kernel
theorem dX8_valueOf_34 : decode cX8_valueOf 34 = .ok (.getfield 65, 3) := by decide +kernel
theorem dX8_valueOf_37 : decode cX8_valueOf 37 = .ok (.iload 13, 2) := by decide +kernel
theorem dX8_valueOf_39 : decode cX8_valueOf 39 = .ok (.i2l, 1) := by decide +kernel
theorem dX8_valueOf_40 : decode cX8_valueOf 40 = .ok (.lconst 1, 1) := by decide +kernel
theorem dX8_valueOf_41 : decode cX8_valueOf 41 = .ok (.invokevirtual 168, 3) := by decide +kernel
theorem dX8_valueOf_44 : decode cX8_valueOf 44 = .ok (.aload_n 0, 1) := by decide +kernel
theorem dX8_valueOf_45 : decode cX8_valueOf 45 = .ok (.aload_n 0, 1) := by decide +kernel
theorem dX8_valueOf_46 : decode cX8_valueOf 46 = .ok (.getfield 108, 3) := by decide +kernel
theorem dX8_valueOf_49 : decode cX8_valueOf 49 = .ok (.aload_n 0, 1) := by decide +kernel
theorem dX8_valueOf_50 : decode cX8_valueOf 50 = .ok (.getfield 65, 3) := by decide +kernel
theorem dX8_valueOf_53 : decode cX8_valueOf 53 = .ok (.lload_n 1, 1) := by decide +kernel
theorem dX8_valueOf_54 : decode cX8_valueOf 54 = .ok (.lload_n 3, 1) := by decide +kernel
theorem dX8_valueOf_55 : decode cX8_valueOf 55 = .ok (.invokevirtual 164, 3) := by decide +kernel
theorem dX8_valueOf_58 : decode cX8_valueOf 58 = .ok (.return_, 1) := by decide +kernel
theorem dX8_valueAt_0 : decode cX8_valueAt 0 = .ok (.aload_n 0, 1) := by decide +kernel
theorem dX8_valueAt_1 : decode cX8_valueAt 1 = .ok (.getfield 40, 3) := by decide +kernel
theorem dX8_valueAt_4 : decode cX8_valueAt 4 = .ok (.iload_n 1, 1) := by decide +kernel
theorem dX8_valueAt_5 : decode cX8_valueAt 5 = .ok (.iaload, 1) := by decide +kernel
theorem dX8_valueAt_6 : decode cX8_valueAt 6 = .ok (.ifCond .ne 10, 3) := by decide +kernel
theorem dX8_valueAt_9 : decode cX8_valueAt 9 = .ok (.aload_n 0, 1) := by decide +kernel
theorem dX8_valueAt_10 : decode cX8_valueAt 10 = .ok (.lconst 0, 1) := by decide +kernel
theorem dX8_valueAt_11 : decode cX8_valueAt 11 = .ok (.lconst 1, 1) := by decide +kernel
theorem dX8_valueAt_12 : decode cX8_valueAt 12 = .ok (.invokevirtual 111, 3) := by decide +kernel
theorem dX8_valueAt_15 : decode cX8_valueAt 15 = .ok (.return_, 1) := by decide +kernel
theorem dX8_valueAt_16 : decode cX8_valueAt 16 = .ok (.iconst 0, 1) := by decide +kernel
theorem dX8_valueAt_17 : decode cX8_valueAt 17 = .ok (.istore_n 3, 1) := by decide +kernel
theorem dX8_valueAt_18 : decode cX8_valueAt 18 = .ok (.iload_n 3, 1) := by decide +kernel
theorem dX8_valueAt_19 : decode cX8_valueAt 19 = .ok (.iconst 1, 1) := by decide +kernel
theorem dX8_valueAt_20 : decode cX8_valueAt 20 = .ok (.iadd, 1) := by decide +kernel
theorem dX8_valueAt_21 : decode cX8_valueAt 21 = .ok (.aload_n 0, 1) := by decide +kernel
theorem dX8_valueAt_22 : decode cX8_valueAt 22 = .ok (.getfield 40, 3) := by decide +kernel
theorem dX8_valueAt_25 : decode cX8_valueAt 25 = .ok (.iload_n 1, 1) := by decide +kernel
theorem dX8_valueAt_26 : decode cX8_valueAt 26 = .ok (.iaload, 1) := by decide +kernel
theorem dX8_valueAt_27 : decode cX8_valueAt 27 = .ok (.if_icmp .ge 36, 3) := by decide +kernel
theorem dX8_valueAt_30 : decode cX8_valueAt 30 = .ok (.aload_n 0, 1) := by decide +kernel
theorem dX8_valueAt_31 : decode cX8_valueAt 31 = .ok (.getfield 31, 3) := by decide +kernel
theorem dX8_valueAt_34 : decode cX8_valueAt 34 = .ok (.bipush 12, 2) := by decide +kernel
theorem dX8_valueAt_36 : decode cX8_valueAt 36 = .ok (.iload_n 1, 1) := by decide +kernel
theorem dX8_valueAt_37 : decode cX8_valueAt 37 = .ok (.imul, 1) := by decide +kernel
theorem dX8_valueAt_38 : decode cX8_valueAt 38 = .ok (.aload_n 0, 1) := by decide +kernel
theorem dX8_valueAt_39 : decode cX8_valueAt 39 = .ok (.getfield 43, 3) := by decide +kernel
theorem dX8_valueAt_42 : decode cX8_valueAt 42 = .ok (.bipush 12, 2) := by decide +kernel
theorem dX8_valueAt_44 : decode cX8_valueAt 44 = .ok (.iload_n 1, 1) := by decide +kernel
theorem dX8_valueAt_45 : decode cX8_valueAt 45 = .ok (.imul, 1) := by decide +kernel
theorem dX8_valueAt_46 : decode cX8_valueAt 46 = .ok (.iload_n 3, 1) := by decide +kernel
theorem dX8_valueAt_47 : decode cX8_valueAt 47 = .ok (.iadd, 1) := by decide +kernel
theorem dX8_valueAt_48 : decode cX8_valueAt 48 = .ok (.iconst 1, 1) := by decide +kernel
theorem dX8_valueAt_49 : decode cX8_valueAt 49 = .ok (.iadd, 1) := by decide +kernel
theorem dX8_valueAt_50 : decode cX8_valueAt 50 = .ok (.iaload, 1) := by decide +kernel
theorem dX8_valueAt_51 : decode cX8_valueAt 51 = .ok (.iadd, 1) := by decide +kernel
theorem dX8_valueAt_52 : decode cX8_valueAt 52 = .ok (.iaload, 1) := by decide +kernel
theorem dX8_valueAt_53 : decode cX8_valueAt 53 = .ok (.iload_n 2, 1) := by decide +kernel
theorem dX8_valueAt_54 : decode cX8_valueAt 54 = .ok (.if_icmp .gt 9, 3) := by decide +kernel
theorem dX8_valueAt_57 : decode cX8_valueAt 57 = .ok (.iinc 3 1, 3) := by decide +kernel
theorem dX8_valueAt_60 : decode cX8_valueAt 60 = .ok (.goto (-42), 3) := by decide +kernel
theorem dX8_valueAt_63 : decode cX8_valueAt 63 = .ok (.bipush 36, 2) := by decide +kernel
theorem dX8_valueAt_65 : decode cX8_valueAt 65 = .ok (.iload_n 1, 1) := by decide +kernel
theorem dX8_valueAt_66 : decode cX8_valueAt 66 = .ok (.imul, 1) := by decide +kernel
theorem dX8_valueAt_67 : decode cX8_valueAt 67 = .ok (.iconst 3, 1) := by decide +kernel
theorem dX8_valueAt_68 : decode cX8_valueAt 68 = .ok (.iload_n 3, 1) := by decide +kernel
theorem dX8_valueAt_69 : decode cX8_valueAt 69 = .ok (.imul, 1) := by decide +kernel
theorem dX8_valueAt_70 : decode cX8_valueAt 70 = .ok (.iadd, 1) := by decide +kernel
theorem dX8_valueAt_71 : decode cX8_valueAt 71 = .ok (.istore 4, 2) := by decide +kernel
theorem dX8_valueAt_73 : decode cX8_valueAt 73 = .ok (.aload_n 0, 1) := by decide +kernel
theorem dX8_valueAt_74 : decode cX8_valueAt 74 = .ok (.aload_n 0, 1) := by decide +kernel
theorem dX8_valueAt_75 : decode cX8_valueAt 75 = .ok (.getfield 46, 3) := by decide +kernel
theorem dX8_valueAt_78 : decode cX8_valueAt 78 = .ok (.iload 4, 2) := by decide +kernel
theorem dX8_valueAt_80 : decode cX8_valueAt 80 = .ok (.laload, 1) := by decide +kernel
theorem dX8_valueAt_81 : decode cX8_valueAt 81 = .ok (.aload_n 0, 1) := by decide +kernel
theorem dX8_valueAt_82 : decode cX8_valueAt 82 = .ok (.getfield 50, 3) := by decide +kernel
theorem dX8_valueAt_85 : decode cX8_valueAt 85 = .ok (.iload 4, 2) := by decide +kernel
theorem dX8_valueAt_87 : decode cX8_valueAt 87 = .ok (.laload, 1) := by decide +kernel
theorem dX8_valueAt_88 : decode cX8_valueAt 88 = .ok (.aload_n 0, 1) := by decide +kernel
theorem dX8_valueAt_89 : decode cX8_valueAt 89 = .ok (.getfield 46, 3) := by decide +kernel
theorem dX8_valueAt_92 : decode cX8_valueAt 92 = .ok (.iload 4, 2) := by decide +kernel
theorem dX8_valueAt_94 : decode cX8_valueAt 94 = .ok (.iconst 1, 1) := by decide +kernel
theorem dX8_valueAt_95 : decode cX8_valueAt 95 = .ok (.iadd, 1) := by decide +kernel
theorem dX8_valueAt_96 : decode cX8_valueAt 96 = .ok (.laload, 1) := by decide +kernel
theorem dX8_valueAt_97 : decode cX8_valueAt 97 = .ok (.aload_n 0, 1) := by decide +kernel
theorem dX8_valueAt_98 : decode cX8_valueAt 98 = .ok (.getfield 50, 3) := by decide +kernel
theorem dX8_valueAt_101 : decode cX8_valueAt 101 = .ok (.iload 4, 2) := by decide +kernel
theorem dX8_valueAt_103 : decode cX8_valueAt 103 = .ok (.iconst 1, 1) := by decide +kernel
theorem dX8_valueAt_104 : decode cX8_valueAt 104 = .ok (.iadd, 1) := by decide +kernel
theorem dX8_valueAt_105 : decode cX8_valueAt 105 = .ok (.laload, 1) := by decide +kernel
theorem dX8_valueAt_106 : decode cX8_valueAt 106 = .ok (.aload_n 0, 1) := by decide +kernel
theorem dX8_valueAt_107 : decode cX8_valueAt 107 = .ok (.getfield 46, 3) := by decide +kernel
theorem dX8_valueAt_110 : decode cX8_valueAt 110 = .ok (.iload 4, 2) := by decide +kernel
theorem dX8_valueAt_112 : decode cX8_valueAt 112 = .ok (.iconst 2, 1) := by decide +kernel
theorem dX8_valueAt_113 : decode cX8_valueAt 113 = .ok (.iadd, 1) := by decide +kernel
theorem dX8_valueAt_114 : decode cX8_valueAt 114 = .ok (.laload, 1) := by decide +kernel
theorem dX8_valueAt_115 : decode cX8_valueAt 115 = .ok (.aload_n 0, 1) := by decide +kernel
theorem dX8_valueAt_116 : decode cX8_valueAt 116 = .ok (.getfield 50, 3) := by decide +kernel
theorem dX8_valueAt_119 : decode cX8_valueAt 119 = .ok (.iload 4, 2) := by decide +kernel
theorem dX8_valueAt_121 : decode cX8_valueAt 121 = .ok (.iconst 2, 1) := by decide +kernel
theorem dX8_valueAt_122 : decode cX8_valueAt 122 = .ok (.iadd, 1) := by decide +kernel
theorem dX8_valueAt_123 : decode cX8_valueAt 123 = .ok (.laload, 1) := by decide +kernel
theorem dX8_valueAt_124 : decode cX8_valueAt 124 = .ok (.iload_n 2, 1) := by decide +kernel
theorem dX8_valueAt_125 : decode cX8_valueAt 125 = .ok (.invokevirtual 225, 3) := by decide +kernel
theorem dX8_valueAt_128 : decode cX8_valueAt 128 = .ok (.return_, 1) := by decide +kernel
theorem dX8_missAt_0 : decode cX8_missAt 0 = .ok (.bipush 12, 2) := by decide +kernel
theorem dX8_missAt_2 : decode cX8_missAt 2 = .ok (.iload_n 1, 1) := by decide +kernel
theorem dX8_missAt_3 : decode cX8_missAt 3 = .ok (.imul, 1) := by decide +kernel
theorem dX8_missAt_4 : decode cX8_missAt 4 = .ok (.iload_n 2, 1) := by decide +kernel
theorem dX8_missAt_5 : decode cX8_missAt 5 = .ok (.iadd, 1) := by decide +kernel
theorem dX8_missAt_6 : decode cX8_missAt 6 = .ok (.istore_n 3, 1) := by decide +kernel
theorem dX8_missAt_7 : decode cX8_missAt 7 = .ok (.aload_n 0, 1) := by decide +kernel
theorem dX8_missAt_8 : decode cX8_missAt 8 = .ok (.iload_n 1, 1) := by decide +kernel
theorem dX8_missAt_9 : decode cX8_missAt 9 = .ok (.aload_n 0, 1) := by decide +kernel
theorem dX8_missAt_10 : decode cX8_missAt 10 = .ok (.getfield 31, 3) := by decide +kernel
theorem dX8_missAt_13 : decode cX8_missAt 13 = .ok (.iload_n 3, 1) := by decide +kernel
theorem dX8_missAt_14 : decode cX8_missAt 14 = .ok (.iaload, 1) := by decide +kernel
theorem dX8_missAt_15 : decode cX8_missAt 15 = .ok (.invokevirtual 229, 3) := by decide +kernel
theorem dX8_missAt_18 : decode cX8_missAt 18 = .ok (.aload_n 0, 1) := by decide +kernel
theorem dX8_missAt_19 : decode cX8_missAt 19 = .ok (.aload_n 0, 1) := by decide +kernel
theorem dX8_missAt_20 : decode cX8_missAt 20 = .ok (.getfield 34, 3) := by decide +kernel
theorem dX8_missAt_23 : decode cX8_missAt 23 = .ok (.iload_n 3, 1) := by decide +kernel
theorem dX8_missAt_24 : decode cX8_missAt 24 = .ok (.iaload, 1) := by decide +kernel
theorem dX8_missAt_25 : decode cX8_missAt 25 = .ok (.i2l, 1) := by decide +kernel
theorem dX8_missAt_26 : decode cX8_missAt 26 = .ok (.lconst 1, 1) := by decide +kernel
theorem dX8_missAt_27 : decode cX8_missAt 27 = .ok (.aload_n 0, 1) := by decide +kernel
theorem dX8_missAt_28 : decode cX8_missAt 28 = .ok (.getfield 108, 3) := by decide +kernel
theorem dX8_missAt_31 : decode cX8_missAt 31 = .ok (.lneg, 1) := by decide +kernel
theorem dX8_missAt_32 : decode cX8_missAt 32 = .ok (.aload_n 0, 1) := by decide +kernel
theorem dX8_missAt_33 : decode cX8_missAt 33 = .ok (.getfield 65, 3) := by decide +kernel
theorem dX8_missAt_36 : decode cX8_missAt 36 = .ok (.invokevirtual 164, 3) := by decide +kernel
theorem dX8_missAt_39 : decode cX8_missAt 39 = .ok (.aload_n 0, 1) := by decide +kernel
theorem dX8_missAt_40 : decode cX8_missAt 40 = .ok (.aload_n 0, 1) := by decide +kernel
theorem dX8_missAt_41 : decode cX8_missAt 41 = .ok (.getfield 108, 3) := by decide +kernel
theorem dX8_missAt_44 : decode cX8_missAt 44 = .ok (.aload_n 0, 1) := by decide +kernel
theorem dX8_missAt_45 : decode cX8_missAt 45 = .ok (.getfield 65, 3) := by decide +kernel
theorem dX8_missAt_48 : decode cX8_missAt 48 = .ok (.aload_n 0, 1) := by decide +kernel
theorem dX8_missAt_49 : decode cX8_missAt 49 = .ok (.getfield 37, 3) := by decide +kernel
theorem dX8_missAt_52 : decode cX8_missAt 52 = .ok (.iload_n 3, 1) := by decide +kernel
theorem dX8_missAt_53 : decode cX8_missAt 53 = .ok (.iaload, 1) := by decide +kernel
theorem dX8_missAt_54 : decode cX8_missAt 54 = .ok (.i2l, 1) := by decide +kernel
theorem dX8_missAt_55 : decode cX8_missAt 55 = .ok (.lconst 1, 1) := by decide +kernel
theorem dX8_missAt_56 : decode cX8_missAt 56 = .ok (.invokevirtual 168, 3) := by decide +kernel
theorem dX8_missAt_59 : decode cX8_missAt 59 = .ok (.return_, 1) := by decide +kernel
theorem dX8_findLevel_0 : decode cX8_findLevel 0 = .ok (.aload_n 0, 1) := by decide +kernel
theorem dX8_findLevel_1 : decode cX8_findLevel 1 = .ok (.lconst 0, 1) := by decide +kernel
theorem dX8_findLevel_2 : decode cX8_findLevel 2 = .ok (.putfield 232, 3) := by decide +kernel
theorem dX8_findLevel_5 : decode cX8_findLevel 5 = .ok (.aload_n 0, 1) := by decide +kernel
theorem dX8_findLevel_6 : decode cX8_findLevel 6 = .ok (.lconst 1, 1) := by decide +kernel
theorem dX8_findLevel_7 : decode cX8_findLevel 7 = .ok (.putfield 235, 3) := by decide +kernel
theorem dX8_findLevel_10 : decode cX8_findLevel 10 = .ok (.iconst 0, 1) := by decide +kernel
theorem dX8_findLevel_11 : decode cX8_findLevel 11 = .ok (.istore_n 2, 1) := by decide +kernel
theorem dX8_findLevel_12 : decode cX8_findLevel 12 = .ok (.iload_n 2, 1) := by decide +kernel
theorem dX8_findLevel_13 : decode cX8_findLevel 13 = .ok (.aload_n 0, 1) := by decide +kernel
theorem dX8_findLevel_14 : decode cX8_findLevel 14 = .ok (.getfield 28, 3) := by decide +kernel
theorem dX8_findLevel_17 : decode cX8_findLevel 17 = .ok (.iload_n 1, 1) := by decide +kernel
theorem dX8_findLevel_18 : decode cX8_findLevel 18 = .ok (.iaload, 1) := by decide +kernel
theorem dX8_findLevel_19 : decode cX8_findLevel 19 = .ok (.if_icmp .ge 69, 3) := by decide +kernel
theorem dX8_findLevel_22 : decode cX8_findLevel 22 = .ok (.aload_n 0, 1) := by decide +kernel
theorem dX8_findLevel_23 : decode cX8_findLevel 23 = .ok (.iload_n 1, 1) := by decide +kernel
theorem dX8_findLevel_24 : decode cX8_findLevel 24 = .ok (.iload_n 2, 1) := by decide +kernel
theorem dX8_findLevel_25 : decode cX8_findLevel 25 = .ok (.invokevirtual 238, 3) := by decide +kernel
theorem dX8_findLevel_28 : decode cX8_findLevel 28 = .ok (.aload_n 0, 1) := by decide +kernel
theorem dX8_findLevel_29 : decode cX8_findLevel 29 = .ok (.getfield 108, 3) := by decide +kernel
theorem dX8_findLevel_32 : decode cX8_findLevel 32 = .ok (.lconst 0, 1) := by decide +kernel
theorem dX8_findLevel_33 : decode cX8_findLevel 33 = .ok (.lcmp, 1) := by decide +kernel
theorem dX8_findLevel_34 : decode cX8_findLevel 34 = .ok (.ifCond .ge 11, 3) := by decide +kernel
theorem dX8_findLevel_37 : decode cX8_findLevel 37 = .ok (.aload_n 0, 1) := by decide +kernel
theorem dX8_findLevel_38 : decode cX8_findLevel 38 = .ok (.getfield 108, 3) := by decide +kernel
theorem dX8_findLevel_41 : decode cX8_findLevel 41 = .ok (.lneg, 1) := by decide +kernel
theorem dX8_findLevel_42 : decode cX8_findLevel 42 = .ok (.goto 7, 3) := by decide +kernel
theorem dX8_findLevel_45 : decode cX8_findLevel 45 = .ok (.aload_n 0, 1) := by decide +kernel
theorem dX8_findLevel_46 : decode cX8_findLevel 46 = .ok (.getfield 108, 3) := by decide +kernel
theorem dX8_findLevel_49 : decode cX8_findLevel 49 = .ok (.lstore_n 3, 1) := by decide +kernel
theorem dX8_findLevel_50 : decode cX8_findLevel 50 = .ok (.lload_n 3, 1) := by decide +kernel
theorem dX8_findLevel_51 : decode cX8_findLevel 51 = .ok (.aload_n 0, 1) := by decide +kernel
theorem dX8_findLevel_52 : decode cX8_findLevel 52 = .ok (.getfield 65, 3) := by decide +kernel
theorem dX8_findLevel_55 : decode cX8_findLevel 55 = .ok (.aload_n 0, 1) := by decide +kernel
theorem dX8_findLevel_56 : decode cX8_findLevel 56 = .ok (.getfield 232, 3) := by decide +kernel
theorem dX8_findLevel_59 : decode cX8_findLevel 59 = .ok (.aload_n 0, 1) := by decide +kernel
theorem dX8_findLevel_60 : decode cX8_findLevel 60 = .ok (.getfield 235, 3) := by decide +kernel
theorem dX8_findLevel_63 : decode cX8_findLevel 63 = .ok (.invokestatic 201, 3) := by decide +kernel
theorem dX8_findLevel_66 : decode cX8_findLevel 66 = .ok (.ifCond .le 16, 3) := by decide +kernel
theorem dX8_findLevel_69 : decode cX8_findLevel 69 = .ok (.aload_n 0, 1) := by decide +kernel
theorem dX8_findLevel_70 : decode cX8_findLevel 70 = .ok (.lload_n 3, 1) := by decide +kernel
theorem dX8_findLevel_71 : decode cX8_findLevel 71 = .ok (.putfield 232, 3) := by decide +kernel
theorem dX8_findLevel_74 : decode cX8_findLevel 74 = .ok (.aload_n 0, 1) := by decide +kernel
theorem dX8_findLevel_75 : decode cX8_findLevel 75 = .ok (.aload_n 0, 1) := by decide +kernel
theorem dX8_findLevel_76 : decode cX8_findLevel 76 = .ok (.getfield 65, 3) := by decide +kernel
theorem dX8_findLevel_79 : decode cX8_findLevel 79 = .ok (.putfield 235, 3) := by decide +kernel
theorem dX8_findLevel_82 : decode cX8_findLevel 82 = .ok (.iinc 2 1, 3) := by decide +kernel
theorem dX8_findLevel_85 : decode cX8_findLevel 85 = .ok (.goto (-73), 3) := by decide +kernel
theorem dX8_findLevel_88 : decode cX8_findLevel 88 = .ok (.return_, 1) := by decide +kernel
theorem dX8_isFar_0 : decode cX8_isFar 0 = .ok (.aload_n 0, 1) := by decide +kernel
theorem dX8_isFar_1 : decode cX8_isFar 1 = .ok (.iload_n 1, 1) := by decide +kernel
theorem dX8_isFar_2 : decode cX8_isFar 2 = .ok (.iload_n 2, 1) := by decide +kernel
theorem dX8_isFar_3 : decode cX8_isFar 3 = .ok (.invokevirtual 238, 3) := by decide +kernel
theorem dX8_isFar_6 : decode cX8_isFar 6 = .ok (.aload_n 0, 1) := by decide +kernel
theorem dX8_isFar_7 : decode cX8_isFar 7 = .ok (.getfield 108, 3) := by decide +kernel
theorem dX8_isFar_10 : decode cX8_isFar 10 = .ok (.lconst 0, 1) := by decide +kernel
theorem dX8_isFar_11 : decode cX8_isFar 11 = .ok (.lcmp, 1) := by decide +kernel
theorem dX8_isFar_12 : decode cX8_isFar 12 = .ok (.ifCond .ge 11, 3) := by decide +kernel
theorem dX8_isFar_15 : decode cX8_isFar 15 = .ok (.aload_n 0, 1) := by decide +kernel
theorem dX8_isFar_16 : decode cX8_isFar 16 = .ok (.getfield 108, 3) := by decide +kernel
theorem dX8_isFar_19 : decode cX8_isFar 19 = .ok (.lneg, 1) := by decide +kernel
theorem dX8_isFar_20 : decode cX8_isFar 20 = .ok (.goto 7, 3) := by decide +kernel
theorem dX8_isFar_23 : decode cX8_isFar 23 = .ok (.aload_n 0, 1) := by decide +kernel
theorem dX8_isFar_24 : decode cX8_isFar 24 = .ok (.getfield 108, 3) := by decide +kernel
theorem dX8_isFar_27 : decode cX8_isFar 27 = .ok (.aload_n 0, 1) := by decide +kernel
theorem dX8_isFar_28 : decode cX8_isFar 28 = .ok (.getfield 232, 3) := by decide +kernel
theorem dX8_isFar_31 : decode cX8_isFar 31 = .ok (.lcmp, 1) := by decide +kernel
theorem dX8_isFar_32 : decode cX8_isFar 32 = .ok (.ifCond .ne 19, 3) := by decide +kernel
theorem dX8_isFar_35 : decode cX8_isFar 35 = .ok (.aload_n 0, 1) := by decide +kernel
theorem dX8_isFar_36 : decode cX8_isFar 36 = .ok (.getfield 65, 3) := by decide +kernel
theorem dX8_isFar_39 : decode cX8_isFar 39 = .ok (.aload_n 0, 1) := by decide +kernel
theorem dX8_isFar_40 : decode cX8_isFar 40 = .ok (.getfield 235, 3) := by decide +kernel
theorem dX8_isFar_43 : decode cX8_isFar 43 = .ok (.lcmp, 1) := by decide +kernel
theorem dX8_isFar_44 : decode cX8_isFar 44 = .ok (.ifCond .ne 7, 3) := by decide +kernel
theorem dX8_isFar_47 : decode cX8_isFar 47 = .ok (.iconst 1, 1) := by decide +kernel
theorem dX8_isFar_48 : decode cX8_isFar 48 = .ok (.goto 4, 3) := by decide +kernel
theorem dX8_isFar_51 : decode cX8_isFar 51 = .ok (.iconst 0, 1) := by decide +kernel
theorem dX8_isFar_52 : decode cX8_isFar 52 = .ok (.ireturn, 1) := by decide +kernel
theorem dX8_fars_0 : decode cX8_fars 0 = .ok (.aload_n 0, 1) := by decide +kernel
theorem dX8_fars_1 : decode cX8_fars 1 = .ok (.iload_n 1, 1) := by decide +kernel
theorem dX8_fars_2 : decode cX8_fars 2 = .ok (.invokevirtual 241, 3) := by decide +kernel
theorem dX8_fars_5 : decode cX8_fars 5 = .ok (.iconst 0, 1) := by decide +kernel
theorem dX8_fars_6 : decode cX8_fars 6 = .ok (.istore_n 2, 1) := by decide +kernel
theorem dX8_fars_7 : decode cX8_fars 7 = .ok (.iconst 0, 1) := by decide +kernel
theorem dX8_fars_8 : decode cX8_fars 8 = .ok (.istore_n 3, 1) := by decide +kernel
theorem dX8_fars_9 : decode cX8_fars 9 = .ok (.iload_n 3, 1) := by decide +kernel
theorem dX8_fars_10 : decode cX8_fars 10 = .ok (.aload_n 0, 1) := by decide +kernel
theorem dX8_fars_11 : decode cX8_fars 11 = .ok (.getfield 28, 3) := by decide +kernel
theorem dX8_fars_14 : decode cX8_fars 14 = .ok (.iload_n 1, 1) := by decide +kernel
theorem dX8_fars_15 : decode cX8_fars 15 = .ok (.iaload, 1) := by decide +kernel
theorem dX8_fars_16 : decode cX8_fars 16 = .ok (.if_icmp .ge 26, 3) := by decide +kernel
theorem dX8_fars_19 : decode cX8_fars 19 = .ok (.iload_n 2, 1) := by decide +kernel
theorem dX8_fars_20 : decode cX8_fars 20 = .ok (.aload_n 0, 1) := by decide +kernel
theorem dX8_fars_21 : decode cX8_fars 21 = .ok (.iload_n 1, 1) := by decide +kernel
theorem dX8_fars_22 : decode cX8_fars 22 = .ok (.iload_n 3, 1) := by decide +kernel
theorem dX8_fars_23 : decode cX8_fars 23 = .ok (.invokevirtual 244, 3) := by decide +kernel
theorem dX8_fars_26 : decode cX8_fars 26 = .ok (.ifCond .eq 7, 3) := by decide +kernel
theorem dX8_fars_29 : decode cX8_fars 29 = .ok (.iconst 1, 1) := by decide +kernel
theorem dX8_fars_30 : decode cX8_fars 30 = .ok (.goto 4, 3) := by decide +kernel
theorem dX8_fars_33 : decode cX8_fars 33 = .ok (.iconst 0, 1) := by decide +kernel
theorem dX8_fars_34 : decode cX8_fars 34 = .ok (.iadd, 1) := by decide +kernel
theorem dX8_fars_35 : decode cX8_fars 35 = .ok (.istore_n 2, 1) := by decide +kernel
theorem dX8_fars_36 : decode cX8_fars 36 = .ok (.iinc 3 1, 3) := by decide +kernel
theorem dX8_fars_39 : decode cX8_fars 39 = .ok (.goto (-30), 3) := by decide +kernel
theorem dX8_fars_42 : decode cX8_fars 42 = .ok (.iload_n 2, 1) := by decide +kernel
theorem dX8_fars_43 : decode cX8_fars 43 = .ok (.ireturn, 1) := by decide +kernel
theorem dX8_told_0 : decode cX8_told 0 = .ok (.aload_n 0, 1) := by decide +kernel
theorem dX8_told_1 : decode cX8_told 1 = .ok (.iload_n 1, 1) := by decide +kernel
theorem dX8_told_2 : decode cX8_told 2 = .ok (.invokevirtual 185, 3) := by decide +kernel
theorem dX8_told_5 : decode cX8_told 5 = .ok (.ifCond .ne 5, 3) := by decide +kernel
theorem dX8_told_8 : decode cX8_told 8 = .ok (.iconst (-1), 1) := by decide +kernel
theorem dX8_told_9 : decode cX8_told 9 = .ok (.ireturn, 1) := by decide +kernel
theorem dX8_told_10 : decode cX8_told 10 = .ok (.iload_n 2, 1) := by decide +kernel
theorem dX8_told_11 : decode cX8_told 11 = .ok (.tableswitch 67 0 4 #[33, 40, 47, 54, 60], 33) := by decide +kernel
theorem dX8_told_44 : decode cX8_told 44 = .ok (.aload_n 0, 1) := by decide +kernel
theorem dX8_told_45 : decode cX8_told 45 = .ok (.getfield 22, 3) := by decide +kernel
theorem dX8_told_48 : decode cX8_told 48 = .ok (.iload_n 1, 1) := by decide +kernel
theorem dX8_told_49 : decode cX8_told 49 = .ok (.iaload, 1) := by decide +kernel
theorem dX8_told_50 : decode cX8_told 50 = .ok (.ireturn, 1) := by decide +kernel
theorem dX8_told_51 : decode cX8_told 51 = .ok (.aload_n 0, 1) := by decide +kernel
theorem dX8_told_52 : decode cX8_told 52 = .ok (.getfield 28, 3) := by decide +kernel
theorem dX8_told_55 : decode cX8_told 55 = .ok (.iload_n 1, 1) := by decide +kernel
theorem dX8_told_56 : decode cX8_told 56 = .ok (.iaload, 1) := by decide +kernel
theorem dX8_told_57 : decode cX8_told 57 = .ok (.ireturn, 1) := by decide +kernel
theorem dX8_told_58 : decode cX8_told 58 = .ok (.aload_n 0, 1) := by decide +kernel
theorem dX8_told_59 : decode cX8_told 59 = .ok (.getfield 25, 3) := by decide +kernel
theorem dX8_told_62 : decode cX8_told 62 = .ok (.iload_n 1, 1) := by decide +kernel
theorem dX8_told_63 : decode cX8_told 63 = .ok (.iaload, 1) := by decide +kernel
theorem dX8_told_64 : decode cX8_told 64 = .ok (.ireturn, 1) := by decide +kernel
theorem dX8_told_65 : decode cX8_told 65 = .ok (.aload_n 0, 1) := by decide +kernel
theorem dX8_told_66 : decode cX8_told 66 = .ok (.iload_n 1, 1) := by decide +kernel
theorem dX8_told_67 : decode cX8_told 67 = .ok (.invokevirtual 247, 3) := by decide +kernel
theorem dX8_told_70 : decode cX8_told 70 = .ok (.ireturn, 1) := by decide +kernel
theorem dX8_told_71 : decode cX8_told 71 = .ok (.aload_n 0, 1) := by decide +kernel
theorem dX8_told_72 : decode cX8_told 72 = .ok (.getfield 40, 3) := by decide +kernel
theorem dX8_told_75 : decode cX8_told 75 = .ok (.iload_n 1, 1) := by decide +kernel
theorem dX8_told_76 : decode cX8_told 76 = .ok (.iaload, 1) := by decide +kernel
theorem dX8_told_77 : decode cX8_told 77 = .ok (.ireturn, 1) := by decide +kernel
theorem dX8_told_78 : decode cX8_told 78 = .ok (.iconst (-1), 1) := by decide +kernel
theorem dX8_told_79 : decode cX8_told 79 = .ok (.ireturn, 1) := by decide +kernel
theorem dX8_number__0 : decode cX8_number_ 0 = .ok (.aload_n 0, 1) := by decide +kernel
theorem dX8_number__1 : decode cX8_number_ 1 = .ok (.iload_n 1, 1) := by decide +kernel
theorem dX8_number__2 : decode cX8_number_ 2 = .ok (.invokevirtual 185, 3) := by decide +kernel
theorem dX8_number__5 : decode cX8_number_ 5 = .ok (.ifCond .eq 48, 3) := by decide +kernel
theorem dX8_number__8 : decode cX8_number_ 8 = .ok (.iload_n 3, 1) := by decide +kernel
theorem dX8_number__9 : decode cX8_number_ 9 = .ok (.iconst 0, 1) := by decide +kernel
theorem dX8_number__10 : decode cX8_number_ 10 = .ok (.iconst 2, 1) := by decide +kernel
theorem dX8_number__11 : decode cX8_number_ 11 = .ok (.invokestatic 100, 3) := by decide +kernel
theorem dX8_number__14 : decode cX8_number_ 14 = .ok (.ifCond .eq 39, 3) := by decide +kernel
theorem dX8_number__17 : decode cX8_number_ 17 = .ok (.iload 4, 2) := by decide +kernel
theorem dX8_number__19 : decode cX8_number_ 19 = .ok (.iconst 0, 1) := by decide +kernel
theorem dX8_number__20 : decode cX8_number_ 20 = .ok (.iconst 1, 1) := by decide +kernel
theorem dX8_number__21 : decode cX8_number_ 21 = .ok (.invokestatic 100, 3) := by decide +kernel
theorem dX8_number__24 : decode cX8_number_ 24 = .ok (.ifCond .eq 29, 3) := by decide +kernel
theorem dX8_number__27 : decode cX8_number_ 27 = .ok (.aload_n 0, 1) := by decide +kernel
theorem dX8_number__28 : decode cX8_number_ 28 = .ok (.getfield 22, 3) := by decide +kernel
theorem dX8_number__31 : decode cX8_number_ 31 = .ok (.iload_n 1, 1) := by decide +kernel
theorem dX8_number__32 : decode cX8_number_ 32 = .ok (.iaload, 1) := by decide +kernel
theorem dX8_number__33 : decode cX8_number_ 33 = .ok (.iconst 4, 1) := by decide +kernel
theorem dX8_number__34 : decode cX8_number_ 34 = .ok (.if_icmp .ne 23, 3) := by decide +kernel
theorem dX8_number__37 : decode cX8_number_ 37 = .ok (.iload_n 2, 1) := by decide +kernel
theorem dX8_number__38 : decode cX8_number_ 38 = .ok (.iconst 0, 1) := by decide +kernel
theorem dX8_number__39 : decode cX8_number_ 39 = .ok (.aload_n 0, 1) := by decide +kernel
theorem dX8_number__40 : decode cX8_number_ 40 = .ok (.getfield 40, 3) := by decide +kernel
theorem dX8_number__43 : decode cX8_number_ 43 = .ok (.iload_n 1, 1) := by decide +kernel
theorem dX8_number__44 : decode cX8_number_ 44 = .ok (.iaload, 1) := by decide +kernel
theorem dX8_number__45 : decode cX8_number_ 45 = .ok (.iconst 1, 1) := by decide +kernel
theorem dX8_number__46 : decode cX8_number_ 46 = .ok (.isub, 1) := by decide +kernel
theorem dX8_number__47 : decode cX8_number_ 47 = .ok (.invokestatic 100, 3) := by decide +kernel
theorem dX8_number__50 : decode cX8_number_ 50 = .ok (.ifCond .ne 7, 3) := by decide +kernel
theorem dX8_number__53 : decode cX8_number_ 53 = .ok (.ldc2_w 220, 3) := by decide +kernel
theorem dX8_number__56 : decode cX8_number_ 56 = .ok (.lreturn, 1) := by decide +kernel
theorem dX8_number__57 : decode cX8_number_ 57 = .ok (.bipush 36, 2) := by decide +kernel
theorem dX8_number__59 : decode cX8_number_ 59 = .ok (.iload_n 1, 1) := by decide +kernel
theorem dX8_number__60 : decode cX8_number_ 60 = .ok (.imul, 1) := by decide +kernel
theorem dX8_number__61 : decode cX8_number_ 61 = .ok (.aload_n 0, 1) := by decide +kernel
theorem dX8_number__62 : decode cX8_number_ 62 = .ok (.getfield 22, 3) := by decide +kernel
theorem dX8_number__65 : decode cX8_number_ 65 = .ok (.iload_n 1, 1) := by decide +kernel
theorem dX8_number__66 : decode cX8_number_ 66 = .ok (.iaload, 1) := by decide +kernel
theorem dX8_number__67 : decode cX8_number_ 67 = .ok (.iconst 4, 1) := by decide +kernel
theorem dX8_number__68 : decode cX8_number_ 68 = .ok (.if_icmp .ne 9, 3) := by decide +kernel
theorem dX8_number__71 : decode cX8_number_ 71 = .ok (.iconst 3, 1) := by decide +kernel
theorem dX8_number__72 : decode cX8_number_ 72 = .ok (.iload_n 2, 1) := by decide +kernel
theorem dX8_number__73 : decode cX8_number_ 73 = .ok (.imul, 1) := by decide +kernel
theorem dX8_number__74 : decode cX8_number_ 74 = .ok (.goto 4, 3) := by decide +kernel
theorem dX8_number__77 : decode cX8_number_ 77 = .ok (.iconst 0, 1) := by decide +kernel
theorem dX8_number__78 : decode cX8_number_ 78 = .ok (.iadd, 1) := by decide +kernel
theorem dX8_number__79 : decode cX8_number_ 79 = .ok (.iload_n 3, 1) := by decide +kernel
theorem dX8_number__80 : decode cX8_number_ 80 = .ok (.iadd, 1) := by decide +kernel
theorem dX8_number__81 : decode cX8_number_ 81 = .ok (.istore 5, 2) := by decide +kernel
theorem dX8_number__83 : decode cX8_number_ 83 = .ok (.iload 4, 2) := by decide +kernel
theorem dX8_number__85 : decode cX8_number_ 85 = .ok (.ifCond .ne 13, 3) := by decide +kernel
theorem dX8_number__88 : decode cX8_number_ 88 = .ok (.aload_n 0, 1) := by decide +kernel
theorem dX8_number__89 : decode cX8_number_ 89 = .ok (.getfield 46, 3) := by decide +kernel
theorem dX8_number__92 : decode cX8_number_ 92 = .ok (.iload 5, 2) := by decide +kernel
theorem dX8_number__94 : decode cX8_number_ 94 = .ok (.laload, 1) := by decide +kernel
theorem dX8_number__95 : decode cX8_number_ 95 = .ok (.goto 10, 3) := by decide +kernel
theorem dX8_number__98 : decode cX8_number_ 98 = .ok (.aload_n 0, 1) := by decide +kernel
theorem dX8_number__99 : decode cX8_number_ 99 = .ok (.getfield 50, 3) := by decide +kernel
theorem dX8_number__102 : decode cX8_number_ 102 = .ok (.iload 5, 2) := by decide +kernel
theorem dX8_number__104 : decode cX8_number_ 104 = .ok (.laload, 1) := by decide +kernel
theorem dX8_number__105 : decode cX8_number_ 105 = .ok (.lreturn, 1) := by decide +kernel
theorem dX8_told__0 : decode cX8_told_ 0 = .ok (.iload_n 1, 1) := by decide +kernel
theorem dX8_told__1 : decode cX8_told_ 1 = .ok (.ifCond .ne 10, 3) := by decide +kernel
theorem dX8_told__4 : decode cX8_told_ 4 = .ok (.aload_n 0, 1) := by decide +kernel
theorem dX8_told__5 : decode cX8_told_ 5 = .ok (.getfield 108, 3) := by decide +kernel
theorem dX8_told__8 : decode cX8_told_ 8 = .ok (.goto 7, 3) := by decide +kernel
theorem dX8_told__11 : decode cX8_told_ 11 = .ok (.aload_n 0, 1) := by decide +kernel
theorem dX8_told__12 : decode cX8_told_ 12 = .ok (.getfield 65, 3) := by decide +kernel
theorem dX8_told__15 : decode cX8_told_ 15 = .ok (.lreturn, 1) := by decide +kernel
theorem dX8_value_0 : decode cX8_value 0 = .ok (.aload_n 0, 1) := by decide +kernel
theorem dX8_value_1 : decode cX8_value 1 = .ok (.iload_n 1, 1) := by decide +kernel
theorem dX8_value_2 : decode cX8_value 2 = .ok (.invokevirtual 185, 3) := by decide +kernel
theorem dX8_value_5 : decode cX8_value 5 = .ok (.ifCond .eq 23, 3) := by decide +kernel
theorem dX8_value_8 : decode cX8_value 8 = .ok (.iload_n 2, 1) := by decide +kernel
theorem dX8_value_9 : decode cX8_value 9 = .ok (.bipush (-100), 2) := by decide +kernel
theorem dX8_value_11 : decode cX8_value 11 = .ok (.bipush 100, 2) := by decide +kernel
theorem dX8_value_13 : decode cX8_value 13 = .ok (.invokestatic 100, 3) := by decide +kernel
theorem dX8_value_16 : decode cX8_value 16 = .ok (.ifCond .eq 12, 3) := by decide +kernel
theorem dX8_value_19 : decode cX8_value 19 = .ok (.iload_n 3, 1) := by decide +kernel
theorem dX8_value_20 : decode cX8_value 20 = .ok (.iconst 0, 1) := by decide +kernel
theorem dX8_value_21 : decode cX8_value 21 = .ok (.iconst 1, 1) := by decide +kernel
theorem dX8_value_22 : decode cX8_value 22 = .ok (.invokestatic 100, 3) := by decide +kernel
theorem dX8_value_25 : decode cX8_value 25 = .ok (.ifCond .ne 7, 3) := by decide +kernel
theorem dX8_value_28 : decode cX8_value 28 = .ok (.ldc2_w 220, 3) := by decide +kernel
theorem dX8_value_31 : decode cX8_value 31 = .ok (.lreturn, 1) := by decide +kernel
theorem dX8_value_32 : decode cX8_value 32 = .ok (.aload_n 0, 1) := by decide +kernel
theorem dX8_value_33 : decode cX8_value 33 = .ok (.iload_n 1, 1) := by decide +kernel
theorem dX8_value_34 : decode cX8_value 34 = .ok (.iload_n 2, 1) := by decide +kernel
theorem dX8_value_35 : decode cX8_value 35 = .ok (.invokevirtual 229, 3) := by decide +kernel
theorem dX8_value_38 : decode cX8_value 38 = .ok (.aload_n 0, 1) := by decide +kernel
theorem dX8_value_39 : decode cX8_value 39 = .ok (.iload_n 3, 1) := by decide +kernel
theorem dX8_value_40 : decode cX8_value 40 = .ok (.invokevirtual 250, 3) := by decide +kernel
theorem dX8_value_43 : decode cX8_value 43 = .ok (.lreturn, 1) := by decide +kernel
theorem dX8_miss_0 : decode cX8_miss 0 = .ok (.aload_n 0, 1) := by decide +kernel
theorem dX8_miss_1 : decode cX8_miss 1 = .ok (.iload_n 1, 1) := by decide +kernel
theorem dX8_miss_2 : decode cX8_miss 2 = .ok (.invokevirtual 185, 3) := by decide +kernel
theorem dX8_miss_5 : decode cX8_miss 5 = .ok (.ifCond .eq 28, 3) := by decide +kernel
theorem dX8_miss_8 : decode cX8_miss 8 = .ok (.iload_n 2, 1) := by decide +kernel
theorem dX8_miss_9 : decode cX8_miss 9 = .ok (.iconst 0, 1) := by decide +kernel
theorem dX8_miss_10 : decode cX8_miss 10 = .ok (.aload_n 0, 1) := by decide +kernel
theorem dX8_miss_11 : decode cX8_miss 11 = .ok (.getfield 28, 3) := by decide +kernel
theorem dX8_miss_14 : decode cX8_miss 14 = .ok (.iload_n 1, 1) := by decide +kernel
theorem dX8_miss_15 : decode cX8_miss 15 = .ok (.iaload, 1) := by decide +kernel
theorem dX8_miss_16 : decode cX8_miss 16 = .ok (.iconst 1, 1) := by decide +kernel
theorem dX8_miss_17 : decode cX8_miss 17 = .ok (.isub, 1) := by decide +kernel
theorem dX8_miss_18 : decode cX8_miss 18 = .ok (.invokestatic 100, 3) := by decide +kernel
theorem dX8_miss_21 : decode cX8_miss 21 = .ok (.ifCond .eq 12, 3) := by decide +kernel
theorem dX8_miss_24 : decode cX8_miss 24 = .ok (.iload_n 3, 1) := by decide +kernel
theorem dX8_miss_25 : decode cX8_miss 25 = .ok (.iconst 0, 1) := by decide +kernel
theorem dX8_miss_26 : decode cX8_miss 26 = .ok (.iconst 1, 1) := by decide +kernel
theorem dX8_miss_27 : decode cX8_miss 27 = .ok (.invokestatic 100, 3) := by decide +kernel
theorem dX8_miss_30 : decode cX8_miss 30 = .ok (.ifCond .ne 7, 3) := by decide +kernel
theorem dX8_miss_33 : decode cX8_miss 33 = .ok (.ldc2_w 220, 3) := by decide +kernel
theorem dX8_miss_36 : decode cX8_miss 36 = .ok (.lreturn, 1) := by decide +kernel
theorem dX8_miss_37 : decode cX8_miss 37 = .ok (.aload_n 0, 1) := by decide +kernel
theorem dX8_miss_38 : decode cX8_miss 38 = .ok (.iload_n 1, 1) := by decide +kernel
theorem dX8_miss_39 : decode cX8_miss 39 = .ok (.iload_n 2, 1) := by decide +kernel
theorem dX8_miss_40 : decode cX8_miss 40 = .ok (.invokevirtual 238, 3) := by decide +kernel
theorem dX8_miss_43 : decode cX8_miss 43 = .ok (.aload_n 0, 1) := by decide +kernel
theorem dX8_miss_44 : decode cX8_miss 44 = .ok (.iload_n 3, 1) := by decide +kernel
theorem dX8_miss_45 : decode cX8_miss 45 = .ok (.invokevirtual 250, 3) := by decide +kernel
theorem dX8_miss_48 : decode cX8_miss 48 = .ok (.lreturn, 1) := by decide +kernel
theorem dX8_level_0 : decode cX8_level 0 = .ok (.aload_n 0, 1) := by decide +kernel
theorem dX8_level_1 : decode cX8_level 1 = .ok (.iload_n 1, 1) := by decide +kernel
theorem dX8_level_2 : decode cX8_level 2 = .ok (.invokevirtual 185, 3) := by decide +kernel
theorem dX8_level_5 : decode cX8_level 5 = .ok (.ifCond .eq 12, 3) := by decide +kernel
theorem dX8_level_8 : decode cX8_level 8 = .ok (.iload_n 2, 1) := by decide +kernel
theorem dX8_level_9 : decode cX8_level 9 = .ok (.iconst 0, 1) := by decide +kernel
theorem dX8_level_10 : decode cX8_level 10 = .ok (.iconst 1, 1) := by decide +kernel
theorem dX8_level_11 : decode cX8_level 11 = .ok (.invokestatic 100, 3) := by decide +kernel
theorem dX8_level_14 : decode cX8_level 14 = .ok (.ifCond .ne 7, 3) := by decide +kernel
theorem dX8_level_17 : decode cX8_level 17 = .ok (.ldc2_w 220, 3) := by decide +kernel
theorem dX8_level_20 : decode cX8_level 20 = .ok (.lreturn, 1) := by decide +kernel
theorem dX8_level_21 : decode cX8_level 21 = .ok (.aload_n 0, 1) := by decide +kernel
theorem dX8_level_22 : decode cX8_level 22 = .ok (.iload_n 1, 1) := by decide +kernel
theorem dX8_level_23 : decode cX8_level 23 = .ok (.invokevirtual 241, 3) := by decide +kernel
theorem dX8_level_26 : decode cX8_level 26 = .ok (.iload_n 2, 1) := by decide +kernel
theorem dX8_level_27 : decode cX8_level 27 = .ok (.ifCond .ne 10, 3) := by decide +kernel
theorem dX8_level_30 : decode cX8_level 30 = .ok (.aload_n 0, 1) := by decide +kernel
theorem dX8_level_31 : decode cX8_level 31 = .ok (.getfield 232, 3) := by decide +kernel
theorem dX8_level_34 : decode cX8_level 34 = .ok (.goto 7, 3) := by decide +kernel
theorem dX8_level_37 : decode cX8_level 37 = .ok (.aload_n 0, 1) := by decide +kernel
