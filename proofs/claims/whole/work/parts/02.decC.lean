theorem dX8_level_38 : decode cX8_level 38 = .ok (.getfield 235, 3) := by decide +kernel
theorem dX8_level_41 : decode cX8_level 41 = .ok (.lreturn, 1) := by decide +kernel
theorem dX8_far_0 : decode cX8_far 0 = .ok (.aload_n 0, 1) := by decide +kernel
theorem dX8_far_1 : decode cX8_far 1 = .ok (.iload_n 1, 1) := by decide +kernel
theorem dX8_far_2 : decode cX8_far 2 = .ok (.invokevirtual 185, 3) := by decide +kernel
theorem dX8_far_5 : decode cX8_far 5 = .ok (.ifCond .ne 5, 3) := by decide +kernel
theorem dX8_far_8 : decode cX8_far 8 = .ok (.iconst (-1), 1) := by decide +kernel
theorem dX8_far_9 : decode cX8_far 9 = .ok (.ireturn, 1) := by decide +kernel
theorem dX8_far_10 : decode cX8_far 10 = .ok (.aload_n 0, 1) := by decide +kernel
theorem dX8_far_11 : decode cX8_far 11 = .ok (.iload_n 1, 1) := by decide +kernel
theorem dX8_far_12 : decode cX8_far 12 = .ok (.invokevirtual 241, 3) := by decide +kernel
theorem dX8_far_15 : decode cX8_far 15 = .ok (.iload_n 2, 1) := by decide +kernel
theorem dX8_far_16 : decode cX8_far 16 = .ok (.istore_n 3, 1) := by decide +kernel
theorem dX8_far_17 : decode cX8_far 17 = .ok (.iconst 0, 1) := by decide +kernel
theorem dX8_far_18 : decode cX8_far 18 = .ok (.istore 4, 2) := by decide +kernel
theorem dX8_far_20 : decode cX8_far 20 = .ok (.iload 4, 2) := by decide +kernel
theorem dX8_far_22 : decode cX8_far 22 = .ok (.aload_n 0, 1) := by decide +kernel
theorem dX8_far_23 : decode cX8_far 23 = .ok (.getfield 28, 3) := by decide +kernel
theorem dX8_far_26 : decode cX8_far 26 = .ok (.iload_n 1, 1) := by decide +kernel
theorem dX8_far_27 : decode cX8_far 27 = .ok (.iaload, 1) := by decide +kernel
theorem dX8_far_28 : decode cX8_far 28 = .ok (.if_icmp .ge 33, 3) := by decide +kernel
theorem dX8_far_31 : decode cX8_far 31 = .ok (.iload_n 3, 1) := by decide +kernel
theorem dX8_far_32 : decode cX8_far 32 = .ok (.ifCond .lt 29, 3) := by decide +kernel
theorem dX8_far_35 : decode cX8_far 35 = .ok (.aload_n 0, 1) := by decide +kernel
theorem dX8_far_36 : decode cX8_far 36 = .ok (.iload_n 1, 1) := by decide +kernel
theorem dX8_far_37 : decode cX8_far 37 = .ok (.iload 4, 2) := by decide +kernel
theorem dX8_far_39 : decode cX8_far 39 = .ok (.invokevirtual 244, 3) := by decide +kernel
theorem dX8_far_42 : decode cX8_far 42 = .ok (.ifCond .eq 13, 3) := by decide +kernel
theorem dX8_far_45 : decode cX8_far 45 = .ok (.iload_n 3, 1) := by decide +kernel
theorem dX8_far_46 : decode cX8_far 46 = .ok (.ifCond .ne 6, 3) := by decide +kernel
theorem dX8_far_49 : decode cX8_far 49 = .ok (.iload 4, 2) := by decide +kernel
theorem dX8_far_51 : decode cX8_far 51 = .ok (.ireturn, 1) := by decide +kernel
theorem dX8_far_52 : decode cX8_far 52 = .ok (.iinc 3 (-1), 3) := by decide +kernel
theorem dX8_far_55 : decode cX8_far 55 = .ok (.iinc 4 1, 3) := by decide +kernel
theorem dX8_far_58 : decode cX8_far 58 = .ok (.goto (-38), 3) := by decide +kernel
theorem dX8_far_61 : decode cX8_far 61 = .ok (.iconst (-1), 1) := by decide +kernel
theorem dX8_far_62 : decode cX8_far 62 = .ok (.ireturn, 1) := by decide +kernel
theorem dX8_begins_0 : decode cX8_begins 0 = .ok (.aload_n 0, 1) := by decide +kernel
theorem dX8_begins_1 : decode cX8_begins 1 = .ok (.iload_n 1, 1) := by decide +kernel
theorem dX8_begins_2 : decode cX8_begins 2 = .ok (.invokevirtual 185, 3) := by decide +kernel
theorem dX8_begins_5 : decode cX8_begins 5 = .ok (.ifCond .eq 43, 3) := by decide +kernel
theorem dX8_begins_8 : decode cX8_begins 8 = .ok (.aload_n 0, 1) := by decide +kernel
theorem dX8_begins_9 : decode cX8_begins 9 = .ok (.getfield 22, 3) := by decide +kernel
theorem dX8_begins_12 : decode cX8_begins 12 = .ok (.iload_n 1, 1) := by decide +kernel
theorem dX8_begins_13 : decode cX8_begins 13 = .ok (.iaload, 1) := by decide +kernel
theorem dX8_begins_14 : decode cX8_begins 14 = .ok (.iconst 4, 1) := by decide +kernel
theorem dX8_begins_15 : decode cX8_begins 15 = .ok (.if_icmp .ne 33, 3) := by decide +kernel
theorem dX8_begins_18 : decode cX8_begins 18 = .ok (.iload_n 2, 1) := by decide +kernel
theorem dX8_begins_19 : decode cX8_begins 19 = .ok (.iconst 0, 1) := by decide +kernel
theorem dX8_begins_20 : decode cX8_begins 20 = .ok (.aload_n 0, 1) := by decide +kernel
theorem dX8_begins_21 : decode cX8_begins 21 = .ok (.getfield 40, 3) := by decide +kernel
theorem dX8_begins_24 : decode cX8_begins 24 = .ok (.iload_n 1, 1) := by decide +kernel
theorem dX8_begins_25 : decode cX8_begins 25 = .ok (.iaload, 1) := by decide +kernel
theorem dX8_begins_26 : decode cX8_begins 26 = .ok (.iconst 1, 1) := by decide +kernel
theorem dX8_begins_27 : decode cX8_begins 27 = .ok (.isub, 1) := by decide +kernel
theorem dX8_begins_28 : decode cX8_begins 28 = .ok (.invokestatic 100, 3) := by decide +kernel
theorem dX8_begins_31 : decode cX8_begins 31 = .ok (.ifCond .eq 17, 3) := by decide +kernel
theorem dX8_begins_34 : decode cX8_begins 34 = .ok (.aload_n 0, 1) := by decide +kernel
theorem dX8_begins_35 : decode cX8_begins 35 = .ok (.getfield 43, 3) := by decide +kernel
theorem dX8_begins_38 : decode cX8_begins 38 = .ok (.bipush 12, 2) := by decide +kernel
theorem dX8_begins_40 : decode cX8_begins 40 = .ok (.iload_n 1, 1) := by decide +kernel
theorem dX8_begins_41 : decode cX8_begins 41 = .ok (.imul, 1) := by decide +kernel
theorem dX8_begins_42 : decode cX8_begins 42 = .ok (.iload_n 2, 1) := by decide +kernel
theorem dX8_begins_43 : decode cX8_begins 43 = .ok (.iadd, 1) := by decide +kernel
theorem dX8_begins_44 : decode cX8_begins 44 = .ok (.iaload, 1) := by decide +kernel
theorem dX8_begins_45 : decode cX8_begins 45 = .ok (.goto 4, 3) := by decide +kernel
theorem dX8_begins_48 : decode cX8_begins 48 = .ok (.iconst (-1), 1) := by decide +kernel
theorem dX8_begins_49 : decode cX8_begins 49 = .ok (.ireturn, 1) := by decide +kernel
theorem dX8_turns_0 : decode cX8_turns 0 = .ok (.aload_n 0, 1) := by decide +kernel
theorem dX8_turns_1 : decode cX8_turns 1 = .ok (.iload_n 1, 1) := by decide +kernel
theorem dX8_turns_2 : decode cX8_turns 2 = .ok (.invokevirtual 185, 3) := by decide +kernel
theorem dX8_turns_5 : decode cX8_turns 5 = .ok (.ifCond .eq 31, 3) := by decide +kernel
theorem dX8_turns_8 : decode cX8_turns 8 = .ok (.aload_n 0, 1) := by decide +kernel
theorem dX8_turns_9 : decode cX8_turns 9 = .ok (.getfield 22, 3) := by decide +kernel
theorem dX8_turns_12 : decode cX8_turns 12 = .ok (.iload_n 1, 1) := by decide +kernel
theorem dX8_turns_13 : decode cX8_turns 13 = .ok (.iaload, 1) := by decide +kernel
theorem dX8_turns_14 : decode cX8_turns 14 = .ok (.iconst 1, 1) := by decide +kernel
theorem dX8_turns_15 : decode cX8_turns 15 = .ok (.if_icmp .eq 13, 3) := by decide +kernel
theorem dX8_turns_18 : decode cX8_turns 18 = .ok (.aload_n 0, 1) := by decide +kernel
theorem dX8_turns_19 : decode cX8_turns 19 = .ok (.getfield 22, 3) := by decide +kernel
theorem dX8_turns_22 : decode cX8_turns 22 = .ok (.iload_n 1, 1) := by decide +kernel
theorem dX8_turns_23 : decode cX8_turns 23 = .ok (.iaload, 1) := by decide +kernel
theorem dX8_turns_24 : decode cX8_turns 24 = .ok (.iconst 2, 1) := by decide +kernel
theorem dX8_turns_25 : decode cX8_turns 25 = .ok (.if_icmp .ne 11, 3) := by decide +kernel
theorem dX8_turns_28 : decode cX8_turns 28 = .ok (.aload_n 0, 1) := by decide +kernel
theorem dX8_turns_29 : decode cX8_turns 29 = .ok (.iload_n 1, 1) := by decide +kernel
theorem dX8_turns_30 : decode cX8_turns 30 = .ok (.invokevirtual 208, 3) := by decide +kernel
theorem dX8_turns_33 : decode cX8_turns 33 = .ok (.goto 4, 3) := by decide +kernel
theorem dX8_turns_36 : decode cX8_turns 36 = .ok (.iconst (-1), 1) := by decide +kernel
theorem dX8_turns_37 : decode cX8_turns 37 = .ok (.ireturn, 1) := by decide +kernel
theorem dX8_low_0 : decode cX8_low 0 = .ok (.aload_n 0, 1) := by decide +kernel
theorem dX8_low_1 : decode cX8_low 1 = .ok (.iload_n 1, 1) := by decide +kernel
theorem dX8_low_2 : decode cX8_low 2 = .ok (.iload_n 2, 1) := by decide +kernel
theorem dX8_low_3 : decode cX8_low 3 = .ok (.invokevirtual 195, 3) := by decide +kernel
theorem dX8_low_6 : decode cX8_low 6 = .ok (.ifCond .eq 12, 3) := by decide +kernel
theorem dX8_low_9 : decode cX8_low 9 = .ok (.iload_n 3, 1) := by decide +kernel
theorem dX8_low_10 : decode cX8_low 10 = .ok (.iconst 0, 1) := by decide +kernel
theorem dX8_low_11 : decode cX8_low 11 = .ok (.iconst 1, 1) := by decide +kernel
theorem dX8_low_12 : decode cX8_low 12 = .ok (.invokestatic 100, 3) := by decide +kernel
theorem dX8_low_15 : decode cX8_low 15 = .ok (.ifCond .ne 7, 3) := by decide +kernel
theorem dX8_low_18 : decode cX8_low 18 = .ok (.ldc2_w 220, 3) := by decide +kernel
theorem dX8_low_21 : decode cX8_low 21 = .ok (.lreturn, 1) := by decide +kernel
theorem dX8_low_22 : decode cX8_low 22 = .ok (.aload_n 0, 1) := by decide +kernel
theorem dX8_low_23 : decode cX8_low 23 = .ok (.iload_n 1, 1) := by decide +kernel
theorem dX8_low_24 : decode cX8_low 24 = .ok (.iload_n 2, 1) := by decide +kernel
theorem dX8_low_25 : decode cX8_low 25 = .ok (.invokevirtual 198, 3) := by decide +kernel
theorem dX8_low_28 : decode cX8_low 28 = .ok (.iload_n 3, 1) := by decide +kernel
theorem dX8_low_29 : decode cX8_low 29 = .ok (.ifCond .ne 27, 3) := by decide +kernel
theorem dX8_low_32 : decode cX8_low 32 = .ok (.aload_n 0, 1) := by decide +kernel
theorem dX8_low_33 : decode cX8_low 33 = .ok (.getfield 154, 3) := by decide +kernel
theorem dX8_low_36 : decode cX8_low 36 = .ok (.lconst 0, 1) := by decide +kernel
theorem dX8_low_37 : decode cX8_low 37 = .ok (.lcmp, 1) := by decide +kernel
theorem dX8_low_38 : decode cX8_low 38 = .ok (.ifCond .ge 11, 3) := by decide +kernel
theorem dX8_low_41 : decode cX8_low 41 = .ok (.aload_n 0, 1) := by decide +kernel
theorem dX8_low_42 : decode cX8_low 42 = .ok (.getfield 154, 3) := by decide +kernel
theorem dX8_low_45 : decode cX8_low 45 = .ok (.lneg, 1) := by decide +kernel
theorem dX8_low_46 : decode cX8_low 46 = .ok (.goto 14, 3) := by decide +kernel
theorem dX8_low_49 : decode cX8_low 49 = .ok (.aload_n 0, 1) := by decide +kernel
theorem dX8_low_50 : decode cX8_low 50 = .ok (.getfield 154, 3) := by decide +kernel
theorem dX8_low_53 : decode cX8_low 53 = .ok (.goto 7, 3) := by decide +kernel
theorem dX8_low_56 : decode cX8_low 56 = .ok (.aload_n 0, 1) := by decide +kernel
theorem dX8_low_57 : decode cX8_low 57 = .ok (.getfield 157, 3) := by decide +kernel
theorem dX8_low_60 : decode cX8_low 60 = .ok (.lreturn, 1) := by decide +kernel
theorem dX8_missOfTurns_0 : decode cX8_missOfTurns 0 = .ok (.bipush 12, 2) := by decide +kernel
theorem dX8_missOfTurns_2 : decode cX8_missOfTurns 2 = .ok (.iload_n 1, 1) := by decide +kernel
theorem dX8_missOfTurns_3 : decode cX8_missOfTurns 3 = .ok (.imul, 1) := by decide +kernel
theorem dX8_missOfTurns_4 : decode cX8_missOfTurns 4 = .ok (.iload_n 2, 1) := by decide +kernel
theorem dX8_missOfTurns_5 : decode cX8_missOfTurns 5 = .ok (.iadd, 1) := by decide +kernel
theorem dX8_missOfTurns_6 : decode cX8_missOfTurns 6 = .ok (.istore_n 3, 1) := by decide +kernel
theorem dX8_missOfTurns_7 : decode cX8_missOfTurns 7 = .ok (.aload_n 0, 1) := by decide +kernel
theorem dX8_missOfTurns_8 : decode cX8_missOfTurns 8 = .ok (.aload_n 0, 1) := by decide +kernel
theorem dX8_missOfTurns_9 : decode cX8_missOfTurns 9 = .ok (.getfield 78, 3) := by decide +kernel
theorem dX8_missOfTurns_12 : decode cX8_missOfTurns 12 = .ok (.iconst 0, 1) := by decide +kernel
theorem dX8_missOfTurns_13 : decode cX8_missOfTurns 13 = .ok (.laload, 1) := by decide +kernel
theorem dX8_missOfTurns_14 : decode cX8_missOfTurns 14 = .ok (.aload_n 0, 1) := by decide +kernel
theorem dX8_missOfTurns_15 : decode cX8_missOfTurns 15 = .ok (.getfield 81, 3) := by decide +kernel
theorem dX8_missOfTurns_18 : decode cX8_missOfTurns 18 = .ok (.iconst 0, 1) := by decide +kernel
theorem dX8_missOfTurns_19 : decode cX8_missOfTurns 19 = .ok (.laload, 1) := by decide +kernel
theorem dX8_missOfTurns_20 : decode cX8_missOfTurns 20 = .ok (.aload_n 0, 1) := by decide +kernel
theorem dX8_missOfTurns_21 : decode cX8_missOfTurns 21 = .ok (.getfield 78, 3) := by decide +kernel
theorem dX8_missOfTurns_24 : decode cX8_missOfTurns 24 = .ok (.iconst 1, 1) := by decide +kernel
theorem dX8_missOfTurns_25 : decode cX8_missOfTurns 25 = .ok (.laload, 1) := by decide +kernel
theorem dX8_missOfTurns_26 : decode cX8_missOfTurns 26 = .ok (.aload_n 0, 1) := by decide +kernel
theorem dX8_missOfTurns_27 : decode cX8_missOfTurns 27 = .ok (.getfield 81, 3) := by decide +kernel
theorem dX8_missOfTurns_30 : decode cX8_missOfTurns 30 = .ok (.iconst 1, 1) := by decide +kernel
theorem dX8_missOfTurns_31 : decode cX8_missOfTurns 31 = .ok (.laload, 1) := by decide +kernel
theorem dX8_missOfTurns_32 : decode cX8_missOfTurns 32 = .ok (.aload_n 0, 1) := by decide +kernel
theorem dX8_missOfTurns_33 : decode cX8_missOfTurns 33 = .ok (.getfield 78, 3) := by decide +kernel
theorem dX8_missOfTurns_36 : decode cX8_missOfTurns 36 = .ok (.iconst 2, 1) := by decide +kernel
theorem dX8_missOfTurns_37 : decode cX8_missOfTurns 37 = .ok (.laload, 1) := by decide +kernel
theorem dX8_missOfTurns_38 : decode cX8_missOfTurns 38 = .ok (.aload_n 0, 1) := by decide +kernel
theorem dX8_missOfTurns_39 : decode cX8_missOfTurns 39 = .ok (.getfield 81, 3) := by decide +kernel
theorem dX8_missOfTurns_42 : decode cX8_missOfTurns 42 = .ok (.iconst 2, 1) := by decide +kernel
theorem dX8_missOfTurns_43 : decode cX8_missOfTurns 43 = .ok (.laload, 1) := by decide +kernel
theorem dX8_missOfTurns_44 : decode cX8_missOfTurns 44 = .ok (.aload_n 0, 1) := by decide +kernel
theorem dX8_missOfTurns_45 : decode cX8_missOfTurns 45 = .ok (.getfield 31, 3) := by decide +kernel
theorem dX8_missOfTurns_48 : decode cX8_missOfTurns 48 = .ok (.iload_n 3, 1) := by decide +kernel
theorem dX8_missOfTurns_49 : decode cX8_missOfTurns 49 = .ok (.iaload, 1) := by decide +kernel
theorem dX8_missOfTurns_50 : decode cX8_missOfTurns 50 = .ok (.invokevirtual 225, 3) := by decide +kernel
theorem dX8_missOfTurns_53 : decode cX8_missOfTurns 53 = .ok (.aload_n 0, 1) := by decide +kernel
theorem dX8_missOfTurns_54 : decode cX8_missOfTurns 54 = .ok (.aload_n 0, 1) := by decide +kernel
theorem dX8_missOfTurns_55 : decode cX8_missOfTurns 55 = .ok (.getfield 34, 3) := by decide +kernel
theorem dX8_missOfTurns_58 : decode cX8_missOfTurns 58 = .ok (.iload_n 3, 1) := by decide +kernel
theorem dX8_missOfTurns_59 : decode cX8_missOfTurns 59 = .ok (.iaload, 1) := by decide +kernel
theorem dX8_missOfTurns_60 : decode cX8_missOfTurns 60 = .ok (.i2l, 1) := by decide +kernel
theorem dX8_missOfTurns_61 : decode cX8_missOfTurns 61 = .ok (.lconst 1, 1) := by decide +kernel
theorem dX8_missOfTurns_62 : decode cX8_missOfTurns 62 = .ok (.aload_n 0, 1) := by decide +kernel
theorem dX8_missOfTurns_63 : decode cX8_missOfTurns 63 = .ok (.getfield 108, 3) := by decide +kernel
theorem dX8_missOfTurns_66 : decode cX8_missOfTurns 66 = .ok (.lneg, 1) := by decide +kernel
theorem dX8_missOfTurns_67 : decode cX8_missOfTurns 67 = .ok (.aload_n 0, 1) := by decide +kernel
theorem dX8_missOfTurns_68 : decode cX8_missOfTurns 68 = .ok (.getfield 65, 3) := by decide +kernel
theorem dX8_missOfTurns_71 : decode cX8_missOfTurns 71 = .ok (.invokevirtual 164, 3) := by decide +kernel
theorem dX8_missOfTurns_74 : decode cX8_missOfTurns 74 = .ok (.aload_n 0, 1) := by decide +kernel
theorem dX8_missOfTurns_75 : decode cX8_missOfTurns 75 = .ok (.aload_n 0, 1) := by decide +kernel
theorem dX8_missOfTurns_76 : decode cX8_missOfTurns 76 = .ok (.getfield 108, 3) := by decide +kernel
theorem dX8_missOfTurns_79 : decode cX8_missOfTurns 79 = .ok (.aload_n 0, 1) := by decide +kernel
theorem dX8_missOfTurns_80 : decode cX8_missOfTurns 80 = .ok (.getfield 65, 3) := by decide +kernel
theorem dX8_missOfTurns_83 : decode cX8_missOfTurns 83 = .ok (.aload_n 0, 1) := by decide +kernel
theorem dX8_missOfTurns_84 : decode cX8_missOfTurns 84 = .ok (.getfield 37, 3) := by decide +kernel
theorem dX8_missOfTurns_87 : decode cX8_missOfTurns 87 = .ok (.iload_n 3, 1) := by decide +kernel
theorem dX8_missOfTurns_88 : decode cX8_missOfTurns 88 = .ok (.iaload, 1) := by decide +kernel
theorem dX8_missOfTurns_89 : decode cX8_missOfTurns 89 = .ok (.i2l, 1) := by decide +kernel
theorem dX8_missOfTurns_90 : decode cX8_missOfTurns 90 = .ok (.lconst 1, 1) := by decide +kernel
theorem dX8_missOfTurns_91 : decode cX8_missOfTurns 91 = .ok (.invokevirtual 168, 3) := by decide +kernel
theorem dX8_missOfTurns_94 : decode cX8_missOfTurns 94 = .ok (.return_, 1) := by decide +kernel
theorem dX8_isUp_0 : decode cX8_isUp 0 = .ok (.aload_n 0, 1) := by decide +kernel
theorem dX8_isUp_1 : decode cX8_isUp 1 = .ok (.getfield 154, 3) := by decide +kernel
theorem dX8_isUp_4 : decode cX8_isUp 4 = .ok (.lconst 0, 1) := by decide +kernel
theorem dX8_isUp_5 : decode cX8_isUp 5 = .ok (.lcmp, 1) := by decide +kernel
theorem dX8_isUp_6 : decode cX8_isUp 6 = .ok (.ifCond .lt 7, 3) := by decide +kernel
theorem dX8_isUp_9 : decode cX8_isUp 9 = .ok (.iconst 1, 1) := by decide +kernel
theorem dX8_isUp_10 : decode cX8_isUp 10 = .ok (.goto 4, 3) := by decide +kernel
theorem dX8_isUp_13 : decode cX8_isUp 13 = .ok (.iconst 0, 1) := by decide +kernel
theorem dX8_isUp_14 : decode cX8_isUp 14 = .ok (.iload_n 1, 1) := by decide +kernel
theorem dX8_isUp_15 : decode cX8_isUp 15 = .ok (.iconst 2, 1) := by decide +kernel
theorem dX8_isUp_16 : decode cX8_isUp 16 = .ok (.irem, 1) := by decide +kernel
theorem dX8_isUp_17 : decode cX8_isUp 17 = .ok (.ifCond .ne 7, 3) := by decide +kernel
theorem dX8_isUp_20 : decode cX8_isUp 20 = .ok (.iconst 1, 1) := by decide +kernel
theorem dX8_isUp_21 : decode cX8_isUp 21 = .ok (.goto 4, 3) := by decide +kernel
theorem dX8_isUp_24 : decode cX8_isUp 24 = .ok (.iconst 0, 1) := by decide +kernel
theorem dX8_isUp_25 : decode cX8_isUp 25 = .ok (.if_icmp .ne 7, 3) := by decide +kernel
theorem dX8_isUp_28 : decode cX8_isUp 28 = .ok (.iconst 1, 1) := by decide +kernel
theorem dX8_isUp_29 : decode cX8_isUp 29 = .ok (.goto 4, 3) := by decide +kernel
theorem dX8_isUp_32 : decode cX8_isUp 32 = .ok (.iconst 0, 1) := by decide +kernel
theorem dX8_isUp_33 : decode cX8_isUp 33 = .ok (.ireturn, 1) := by decide +kernel
theorem dX8_swapped_0 : decode cX8_swapped 0 = .ok (.aload_n 0, 1) := by decide +kernel
theorem dX8_swapped_1 : decode cX8_swapped 1 = .ok (.iload_n 1, 1) := by decide +kernel
theorem dX8_swapped_2 : decode cX8_swapped 2 = .ok (.iload_n 2, 1) := by decide +kernel
theorem dX8_swapped_3 : decode cX8_swapped 3 = .ok (.invokevirtual 198, 3) := by decide +kernel
theorem dX8_swapped_6 : decode cX8_swapped 6 = .ok (.iload_n 2, 1) := by decide +kernel
theorem dX8_swapped_7 : decode cX8_swapped 7 = .ok (.invokestatic 189, 3) := by decide +kernel
theorem dX8_swapped_10 : decode cX8_swapped 10 = .ok (.istore_n 3, 1) := by decide +kernel
theorem dX8_swapped_11 : decode cX8_swapped 11 = .ok (.aload_n 0, 1) := by decide +kernel
theorem dX8_swapped_12 : decode cX8_swapped 12 = .ok (.getfield 154, 3) := by decide +kernel
theorem dX8_swapped_15 : decode cX8_swapped 15 = .ok (.lconst 0, 1) := by decide +kernel
theorem dX8_swapped_16 : decode cX8_swapped 16 = .ok (.lcmp, 1) := by decide +kernel
theorem dX8_swapped_17 : decode cX8_swapped 17 = .ok (.ifCond .ge 11, 3) := by decide +kernel
theorem dX8_swapped_20 : decode cX8_swapped 20 = .ok (.aload_n 0, 1) := by decide +kernel
theorem dX8_swapped_21 : decode cX8_swapped 21 = .ok (.getfield 154, 3) := by decide +kernel
theorem dX8_swapped_24 : decode cX8_swapped 24 = .ok (.lneg, 1) := by decide +kernel
theorem dX8_swapped_25 : decode cX8_swapped 25 = .ok (.goto 7, 3) := by decide +kernel
theorem dX8_swapped_28 : decode cX8_swapped 28 = .ok (.aload_n 0, 1) := by decide +kernel
theorem dX8_swapped_29 : decode cX8_swapped 29 = .ok (.getfield 154, 3) := by decide +kernel
theorem dX8_swapped_32 : decode cX8_swapped 32 = .ok (.lstore 4, 2) := by decide +kernel
theorem dX8_swapped_34 : decode cX8_swapped 34 = .ok (.aload_n 0, 1) := by decide +kernel
theorem dX8_swapped_35 : decode cX8_swapped 35 = .ok (.getfield 157, 3) := by decide +kernel
theorem dX8_swapped_38 : decode cX8_swapped 38 = .ok (.lstore 6, 2) := by decide +kernel
theorem dX8_swapped_40 : decode cX8_swapped 40 = .ok (.iconst (-1), 1) := by decide +kernel
theorem dX8_swapped_41 : decode cX8_swapped 41 = .ok (.istore 8, 2) := by decide +kernel
theorem dX8_swapped_43 : decode cX8_swapped 43 = .ok (.iconst 0, 1) := by decide +kernel
theorem dX8_swapped_44 : decode cX8_swapped 44 = .ok (.istore 9, 2) := by decide +kernel
theorem dX8_swapped_46 : decode cX8_swapped 46 = .ok (.iconst 0, 1) := by decide +kernel
theorem dX8_swapped_47 : decode cX8_swapped 47 = .ok (.istore 10, 2) := by decide +kernel
theorem dX8_swapped_49 : decode cX8_swapped 49 = .ok (.iload 10, 2) := by decide +kernel
theorem dX8_swapped_51 : decode cX8_swapped 51 = .ok (.aload_n 0, 1) := by decide +kernel
theorem dX8_swapped_52 : decode cX8_swapped 52 = .ok (.getfield 28, 3) := by decide +kernel
theorem dX8_swapped_55 : decode cX8_swapped 55 = .ok (.iload_n 1, 1) := by decide +kernel
theorem dX8_swapped_56 : decode cX8_swapped 56 = .ok (.iaload, 1) := by decide +kernel
theorem dX8_swapped_57 : decode cX8_swapped 57 = .ok (.if_icmp .ge 85, 3) := by decide +kernel
theorem dX8_swapped_60 : decode cX8_swapped 60 = .ok (.aload_n 0, 1) := by decide +kernel
theorem dX8_swapped_61 : decode cX8_swapped 61 = .ok (.iload_n 1, 1) := by decide +kernel
theorem dX8_swapped_62 : decode cX8_swapped 62 = .ok (.iload 10, 2) := by decide +kernel
theorem dX8_swapped_64 : decode cX8_swapped 64 = .ok (.invokevirtual 254, 3) := by decide +kernel
theorem dX8_swapped_67 : decode cX8_swapped 67 = .ok (.aload_n 0, 1) := by decide +kernel
theorem dX8_swapped_68 : decode cX8_swapped 68 = .ok (.getfield 108, 3) := by decide +kernel
theorem dX8_swapped_71 : decode cX8_swapped 71 = .ok (.lconst 0, 1) := by decide +kernel
theorem dX8_swapped_72 : decode cX8_swapped 72 = .ok (.lcmp, 1) := by decide +kernel
theorem dX8_swapped_73 : decode cX8_swapped 73 = .ok (.ifCond .ge 11, 3) := by decide +kernel
theorem dX8_swapped_76 : decode cX8_swapped 76 = .ok (.aload_n 0, 1) := by decide +kernel
theorem dX8_swapped_77 : decode cX8_swapped 77 = .ok (.getfield 108, 3) := by decide +kernel
theorem dX8_swapped_80 : decode cX8_swapped 80 = .ok (.lneg, 1) := by decide +kernel
theorem dX8_swapped_81 : decode cX8_swapped 81 = .ok (.goto 7, 3) := by decide +kernel
theorem dX8_swapped_84 : decode cX8_swapped 84 = .ok (.aload_n 0, 1) := by decide +kernel
theorem dX8_swapped_85 : decode cX8_swapped 85 = .ok (.getfield 108, 3) := by decide +kernel
theorem dX8_swapped_88 : decode cX8_swapped 88 = .ok (.lstore 11, 2) := by decide +kernel
theorem dX8_swapped_90 : decode cX8_swapped 90 = .ok (.lload 11, 2) := by decide +kernel
theorem dX8_swapped_92 : decode cX8_swapped 92 = .ok (.aload_n 0, 1) := by decide +kernel
theorem dX8_swapped_93 : decode cX8_swapped 93 = .ok (.getfield 65, 3) := by decide +kernel
theorem dX8_swapped_96 : decode cX8_swapped 96 = .ok (.lload 4, 2) := by decide +kernel
theorem dX8_swapped_98 : decode cX8_swapped 98 = .ok (.lload 6, 2) := by decide +kernel
theorem dX8_swapped_100 : decode cX8_swapped 100 = .ok (.invokestatic 201, 3) := by decide +kernel
theorem dX8_swapped_103 : decode cX8_swapped 103 = .ok (.ifCond .le 33, 3) := by decide +kernel
theorem dX8_swapped_106 : decode cX8_swapped 106 = .ok (.lload 11, 2) := by decide +kernel
theorem dX8_swapped_108 : decode cX8_swapped 108 = .ok (.lstore 4, 2) := by decide +kernel
theorem dX8_swapped_110 : decode cX8_swapped 110 = .ok (.aload_n 0, 1) := by decide +kernel
theorem dX8_swapped_111 : decode cX8_swapped 111 = .ok (.getfield 65, 3) := by decide +kernel
theorem dX8_swapped_114 : decode cX8_swapped 114 = .ok (.lstore 6, 2) := by decide +kernel
theorem dX8_swapped_116 : decode cX8_swapped 116 = .ok (.iload 10, 2) := by decide +kernel
theorem dX8_swapped_118 : decode cX8_swapped 118 = .ok (.istore 8, 2) := by decide +kernel
theorem dX8_swapped_120 : decode cX8_swapped 120 = .ok (.aload_n 0, 1) := by decide +kernel
theorem dX8_swapped_121 : decode cX8_swapped 121 = .ok (.getfield 108, 3) := by decide +kernel
theorem dX8_swapped_124 : decode cX8_swapped 124 = .ok (.lconst 0, 1) := by decide +kernel
theorem dX8_swapped_125 : decode cX8_swapped 125 = .ok (.lcmp, 1) := by decide +kernel
theorem dX8_swapped_126 : decode cX8_swapped 126 = .ok (.ifCond .le 7, 3) := by decide +kernel
theorem dX8_swapped_129 : decode cX8_swapped 129 = .ok (.iconst 1, 1) := by decide +kernel
theorem dX8_swapped_130 : decode cX8_swapped 130 = .ok (.goto 4, 3) := by decide +kernel
theorem dX8_swapped_133 : decode cX8_swapped 133 = .ok (.iconst 0, 1) := by decide +kernel
theorem dX8_swapped_134 : decode cX8_swapped 134 = .ok (.istore 9, 2) := by decide +kernel
theorem dX8_swapped_136 : decode cX8_swapped 136 = .ok (.iinc 10 1, 3) := by decide +kernel
theorem dX8_swapped_139 : decode cX8_swapped 139 = .ok (.goto (-90), 3) := by decide +kernel
theorem dX8_swapped_142 : decode cX8_swapped 142 = .ok (.iload 8, 2) := by decide +kernel
theorem dX8_swapped_144 : decode cX8_swapped 144 = .ok (.iconst (-1), 1) := by decide +kernel
theorem dX8_swapped_145 : decode cX8_swapped 145 = .ok (.if_icmp .ne 5, 3) := by decide +kernel
theorem dX8_swapped_148 : decode cX8_swapped 148 = .ok (.iload_n 2, 1) := by decide +kernel
theorem dX8_swapped_149 : decode cX8_swapped 149 = .ok (.ireturn, 1) := by decide +kernel
theorem dX8_swapped_150 : decode cX8_swapped 150 = .ok (.iconst 0, 1) := by decide +kernel
theorem dX8_swapped_151 : decode cX8_swapped 151 = .ok (.istore 10, 2) := by decide +kernel
theorem dX8_swapped_153 : decode cX8_swapped 153 = .ok (.iload 10, 2) := by decide +kernel
theorem dX8_swapped_155 : decode cX8_swapped 155 = .ok (.iload_n 3, 1) := by decide +kernel
theorem dX8_swapped_156 : decode cX8_swapped 156 = .ok (.if_icmp .ge 21, 3) := by decide +kernel
theorem dX8_swapped_159 : decode cX8_swapped 159 = .ok (.aload_n 0, 1) := by decide +kernel
theorem dX8_swapped_160 : decode cX8_swapped 160 = .ok (.getfield 69, 3) := by decide +kernel
theorem dX8_swapped_163 : decode cX8_swapped 163 = .ok (.iload 10, 2) := by decide +kernel
theorem dX8_swapped_165 : decode cX8_swapped 165 = .ok (.iaload, 1) := by decide +kernel
theorem dX8_swapped_166 : decode cX8_swapped 166 = .ok (.iload 8, 2) := by decide +kernel
theorem dX8_swapped_168 : decode cX8_swapped 168 = .ok (.if_icmp .ge 9, 3) := by decide +kernel
theorem dX8_swapped_171 : decode cX8_swapped 171 = .ok (.iinc 10 1, 3) := by decide +kernel
theorem dX8_swapped_174 : decode cX8_swapped 174 = .ok (.goto (-21), 3) := by decide +kernel
theorem dX8_swapped_177 : decode cX8_swapped 177 = .ok (.iload 10, 2) := by decide +kernel
theorem dX8_swapped_179 : decode cX8_swapped 179 = .ok (.ifCond .ne 25, 3) := by decide +kernel
theorem dX8_swapped_182 : decode cX8_swapped 182 = .ok (.aload_n 0, 1) := by decide +kernel
theorem dX8_swapped_183 : decode cX8_swapped 183 = .ok (.iconst 0, 1) := by decide +kernel
theorem dX8_swapped_184 : decode cX8_swapped 184 = .ok (.invokevirtual 257, 3) := by decide +kernel
theorem dX8_swapped_187 : decode cX8_swapped 187 = .ok (.iload 9, 2) := by decide +kernel
theorem dX8_swapped_189 : decode cX8_swapped 189 = .ok (.if_icmp .ne 7, 3) := by decide +kernel
theorem dX8_swapped_192 : decode cX8_swapped 192 = .ok (.iconst 0, 1) := by decide +kernel
theorem dX8_swapped_193 : decode cX8_swapped 193 = .ok (.goto 6, 3) := by decide +kernel
theorem dX8_swapped_196 : decode cX8_swapped 196 = .ok (.iload_n 3, 1) := by decide +kernel
theorem dX8_swapped_197 : decode cX8_swapped 197 = .ok (.iconst 1, 1) := by decide +kernel
theorem dX8_swapped_198 : decode cX8_swapped 198 = .ok (.isub, 1) := by decide +kernel
theorem dX8_swapped_199 : decode cX8_swapped 199 = .ok (.istore 11, 2) := by decide +kernel
theorem dX8_swapped_201 : decode cX8_swapped 201 = .ok (.goto 55, 3) := by decide +kernel
theorem dX8_swapped_204 : decode cX8_swapped 204 = .ok (.iload 10, 2) := by decide +kernel
theorem dX8_swapped_206 : decode cX8_swapped 206 = .ok (.iload_n 3, 1) := by decide +kernel
theorem dX8_swapped_207 : decode cX8_swapped 207 = .ok (.if_icmp .ne 27, 3) := by decide +kernel
theorem dX8_swapped_210 : decode cX8_swapped 210 = .ok (.aload_n 0, 1) := by decide +kernel
theorem dX8_swapped_211 : decode cX8_swapped 211 = .ok (.iload_n 3, 1) := by decide +kernel
theorem dX8_swapped_212 : decode cX8_swapped 212 = .ok (.iconst 1, 1) := by decide +kernel
theorem dX8_swapped_213 : decode cX8_swapped 213 = .ok (.isub, 1) := by decide +kernel
theorem dX8_swapped_214 : decode cX8_swapped 214 = .ok (.invokevirtual 257, 3) := by decide +kernel
theorem dX8_swapped_217 : decode cX8_swapped 217 = .ok (.iload 9, 2) := by decide +kernel
theorem dX8_swapped_219 : decode cX8_swapped 219 = .ok (.if_icmp .ne 9, 3) := by decide +kernel
theorem dX8_swapped_222 : decode cX8_swapped 222 = .ok (.iload_n 3, 1) := by decide +kernel
theorem dX8_swapped_223 : decode cX8_swapped 223 = .ok (.iconst 1, 1) := by decide +kernel
theorem dX8_swapped_224 : decode cX8_swapped 224 = .ok (.isub, 1) := by decide +kernel
theorem dX8_swapped_225 : decode cX8_swapped 225 = .ok (.goto 4, 3) := by decide +kernel
theorem dX8_swapped_228 : decode cX8_swapped 228 = .ok (.iconst 0, 1) := by decide +kernel
theorem dX8_swapped_229 : decode cX8_swapped 229 = .ok (.istore 11, 2) := by decide +kernel
theorem dX8_swapped_231 : decode cX8_swapped 231 = .ok (.goto 25, 3) := by decide +kernel
theorem dX8_swapped_234 : decode cX8_swapped 234 = .ok (.aload_n 0, 1) := by decide +kernel
theorem dX8_swapped_235 : decode cX8_swapped 235 = .ok (.iload 10, 2) := by decide +kernel
theorem dX8_swapped_237 : decode cX8_swapped 237 = .ok (.invokevirtual 257, 3) := by decide +kernel
theorem dX8_swapped_240 : decode cX8_swapped 240 = .ok (.iload 9, 2) := by decide +kernel
theorem dX8_swapped_242 : decode cX8_swapped 242 = .ok (.if_icmp .ne 8, 3) := by decide +kernel
theorem dX8_swapped_245 : decode cX8_swapped 245 = .ok (.iload 10, 2) := by decide +kernel
theorem dX8_swapped_247 : decode cX8_swapped 247 = .ok (.goto 7, 3) := by decide +kernel
theorem dX8_swapped_250 : decode cX8_swapped 250 = .ok (.iload 10, 2) := by decide +kernel
theorem dX8_swapped_252 : decode cX8_swapped 252 = .ok (.iconst 1, 1) := by decide +kernel
theorem dX8_swapped_253 : decode cX8_swapped 253 = .ok (.isub, 1) := by decide +kernel
theorem dX8_swapped_254 : decode cX8_swapped 254 = .ok (.istore 11, 2) := by decide +kernel
theorem dX8_swapped_256 : decode cX8_swapped 256 = .ok (.iload_n 2, 1) := by decide +kernel
theorem dX8_swapped_257 : decode cX8_swapped 257 = .ok (.iconst 1, 1) := by decide +kernel
theorem dX8_swapped_258 : decode cX8_swapped 258 = .ok (.aload_n 0, 1) := by decide +kernel
theorem dX8_swapped_259 : decode cX8_swapped 259 = .ok (.getfield 69, 3) := by decide +kernel
theorem dX8_swapped_262 : decode cX8_swapped 262 = .ok (.iload 11, 2) := by decide +kernel
theorem dX8_swapped_264 : decode cX8_swapped 264 = .ok (.iaload, 1) := by decide +kernel
theorem dX8_swapped_265 : decode cX8_swapped 265 = .ok (.ishl, 1) := by decide +kernel
theorem dX8_swapped_266 : decode cX8_swapped 266 = .ok (.iconst (-1), 1) := by decide +kernel
theorem dX8_swapped_267 : decode cX8_swapped 267 = .ok (.ixor, 1) := by decide +kernel
theorem dX8_swapped_268 : decode cX8_swapped 268 = .ok (.iand, 1) := by decide +kernel
theorem dX8_swapped_269 : decode cX8_swapped 269 = .ok (.iconst 1, 1) := by decide +kernel
theorem dX8_swapped_270 : decode cX8_swapped 270 = .ok (.iload 8, 2) := by decide +kernel
theorem dX8_swapped_272 : decode cX8_swapped 272 = .ok (.ishl, 1) := by decide +kernel
theorem dX8_swapped_273 : decode cX8_swapped 273 = .ok (.ior, 1) := by decide +kernel
theorem dX8_swapped_274 : decode cX8_swapped 274 = .ok (.ireturn, 1) := by decide +kernel
theorem dX8_swap_0 : decode cX8_swap 0 = .ok (.aload_n 0, 1) := by decide +kernel
theorem dX8_swap_1 : decode cX8_swap 1 = .ok (.iload_n 1, 1) := by decide +kernel
theorem dX8_swap_2 : decode cX8_swap 2 = .ok (.iload_n 2, 1) := by decide +kernel
theorem dX8_swap_3 : decode cX8_swap 3 = .ok (.invokevirtual 195, 3) := by decide +kernel
theorem dX8_swap_6 : decode cX8_swap 6 = .ok (.ifCond .eq 12, 3) := by decide +kernel
theorem dX8_swap_9 : decode cX8_swap 9 = .ok (.aload_n 0, 1) := by decide +kernel
theorem dX8_swap_10 : decode cX8_swap 10 = .ok (.iload_n 1, 1) := by decide +kernel
theorem dX8_swap_11 : decode cX8_swap 11 = .ok (.iload_n 2, 1) := by decide +kernel
theorem dX8_swap_12 : decode cX8_swap 12 = .ok (.invokevirtual 260, 3) := by decide +kernel
theorem dX8_swap_15 : decode cX8_swap 15 = .ok (.goto 4, 3) := by decide +kernel
theorem dX8_swap_18 : decode cX8_swap 18 = .ok (.iconst (-1), 1) := by decide +kernel
theorem dX8_swap_19 : decode cX8_swap 19 = .ok (.ireturn, 1) := by decide +kernel
theorem dX8_swaps_0 : decode cX8_swaps 0 = .ok (.aload_n 0, 1) := by decide +kernel
theorem dX8_swaps_1 : decode cX8_swaps 1 = .ok (.iload_n 1, 1) := by decide +kernel
theorem dX8_swaps_2 : decode cX8_swaps 2 = .ok (.iload_n 2, 1) := by decide +kernel
theorem dX8_swaps_3 : decode cX8_swaps 3 = .ok (.invokevirtual 195, 3) := by decide +kernel
theorem dX8_swaps_6 : decode cX8_swaps 6 = .ok (.ifCond .ne 5, 3) := by decide +kernel
theorem dX8_swaps_9 : decode cX8_swaps 9 = .ok (.iconst (-1), 1) := by decide +kernel
theorem dX8_swaps_10 : decode cX8_swaps 10 = .ok (.ireturn, 1) := by decide +kernel
theorem dX8_swaps_11 : decode cX8_swaps 11 = .ok (.iconst 0, 1) := by decide +kernel
theorem dX8_swaps_12 : decode cX8_swaps 12 = .ok (.istore_n 3, 1) := by decide +kernel
theorem dX8_swaps_13 : decode cX8_swaps 13 = .ok (.iload_n 2, 1) := by decide +kernel
theorem dX8_swaps_14 : decode cX8_swaps 14 = .ok (.istore 4, 2) := by decide +kernel
theorem dX8_swaps_16 : decode cX8_swaps 16 = .ok (.aload_n 0, 1) := by decide +kernel
theorem dX8_swaps_17 : decode cX8_swaps 17 = .ok (.iload_n 1, 1) := by decide +kernel
theorem dX8_swaps_18 : decode cX8_swaps 18 = .ok (.iload 4, 2) := by decide +kernel
theorem dX8_swaps_20 : decode cX8_swaps 20 = .ok (.invokevirtual 260, 3) := by decide +kernel
theorem dX8_swaps_23 : decode cX8_swaps 23 = .ok (.istore 5, 2) := by decide +kernel
theorem dX8_swaps_25 : decode cX8_swaps 25 = .ok (.iload 5, 2) := by decide +kernel
theorem dX8_swaps_27 : decode cX8_swaps 27 = .ok (.iload 4, 2) := by decide +kernel
theorem dX8_swaps_29 : decode cX8_swaps 29 = .ok (.if_icmp .eq 22, 3) := by decide +kernel
theorem dX8_swaps_32 : decode cX8_swaps 32 = .ok (.iload 5, 2) := by decide +kernel
theorem dX8_swaps_34 : decode cX8_swaps 34 = .ok (.istore 4, 2) := by decide +kernel
theorem dX8_swaps_36 : decode cX8_swaps 36 = .ok (.aload_n 0, 1) := by decide +kernel
theorem dX8_swaps_37 : decode cX8_swaps 37 = .ok (.iload_n 1, 1) := by decide +kernel
theorem dX8_swaps_38 : decode cX8_swaps 38 = .ok (.iload 4, 2) := by decide +kernel
theorem dX8_swaps_40 : decode cX8_swaps 40 = .ok (.invokevirtual 260, 3) := by decide +kernel
theorem dX8_swaps_43 : decode cX8_swaps 43 = .ok (.istore 5, 2) := by decide +kernel
theorem dX8_swaps_45 : decode cX8_swaps 45 = .ok (.iinc 3 1, 3) := by decide +kernel
theorem dX8_swaps_48 : decode cX8_swaps 48 = .ok (.goto (-23), 3) := by decide +kernel
theorem dX8_swaps_51 : decode cX8_swaps 51 = .ok (.iload_n 3, 1) := by decide +kernel
theorem dX8_swaps_52 : decode cX8_swaps 52 = .ok (.ireturn, 1) := by decide +kernel
theorem dX8_against_0 : decode cX8_against 0 = .ok (.aload_n 0, 1) := by decide +kernel
theorem dX8_against_1 : decode cX8_against 1 = .ok (.iload_n 1, 1) := by decide +kernel
theorem dX8_against_2 : decode cX8_against 2 = .ok (.invokevirtual 185, 3) := by decide +kernel
theorem dX8_against_5 : decode cX8_against 5 = .ok (.ifCond .eq 11, 3) := by decide +kernel
theorem dX8_against_8 : decode cX8_against 8 = .ok (.aload_n 0, 1) := by decide +kernel
theorem dX8_against_9 : decode cX8_against 9 = .ok (.iload_n 2, 1) := by decide +kernel
theorem dX8_against_10 : decode cX8_against 10 = .ok (.invokevirtual 185, 3) := by decide +kernel
theorem dX8_against_13 : decode cX8_against 13 = .ok (.ifCond .ne 6, 3) := by decide +kernel
theorem dX8_against_16 : decode cX8_against 16 = .ok (.bipush (-2), 2) := by decide +kernel
theorem dX8_against_18 : decode cX8_against 18 = .ok (.ireturn, 1) := by decide +kernel
theorem dX8_against_19 : decode cX8_against 19 = .ok (.aload_n 0, 1) := by decide +kernel
theorem dX8_against_20 : decode cX8_against 20 = .ok (.iload_n 1, 1) := by decide +kernel
theorem dX8_against_21 : decode cX8_against 21 = .ok (.invokevirtual 241, 3) := by decide +kernel
theorem dX8_against_24 : decode cX8_against 24 = .ok (.aload_n 0, 1) := by decide +kernel
theorem dX8_against_25 : decode cX8_against 25 = .ok (.getfield 232, 3) := by decide +kernel
theorem dX8_against_28 : decode cX8_against 28 = .ok (.lstore_n 3, 1) := by decide +kernel
theorem dX8_against_29 : decode cX8_against 29 = .ok (.aload_n 0, 1) := by decide +kernel
theorem dX8_against_30 : decode cX8_against 30 = .ok (.getfield 235, 3) := by decide +kernel
theorem dX8_against_33 : decode cX8_against 33 = .ok (.lstore 5, 2) := by decide +kernel
theorem dX8_against_35 : decode cX8_against 35 = .ok (.aload_n 0, 1) := by decide +kernel
theorem dX8_against_36 : decode cX8_against 36 = .ok (.iload_n 2, 1) := by decide +kernel
theorem dX8_against_37 : decode cX8_against 37 = .ok (.invokevirtual 241, 3) := by decide +kernel
theorem dX8_against_40 : decode cX8_against 40 = .ok (.lload_n 3, 1) := by decide +kernel
theorem dX8_against_41 : decode cX8_against 41 = .ok (.lload 5, 2) := by decide +kernel
theorem dX8_against_43 : decode cX8_against 43 = .ok (.aload_n 0, 1) := by decide +kernel
theorem dX8_against_44 : decode cX8_against 44 = .ok (.getfield 232, 3) := by decide +kernel
theorem dX8_against_47 : decode cX8_against 47 = .ok (.aload_n 0, 1) := by decide +kernel
theorem dX8_against_48 : decode cX8_against 48 = .ok (.getfield 235, 3) := by decide +kernel
theorem dX8_against_51 : decode cX8_against 51 = .ok (.invokestatic 201, 3) := by decide +kernel
theorem dX8_against_54 : decode cX8_against 54 = .ok (.ireturn, 1) := by decide +kernel
theorem dX8_same_0 : decode cX8_same 0 = .ok (.aload_n 0, 1) := by decide +kernel
theorem dX8_same_1 : decode cX8_same 1 = .ok (.iload_n 1, 1) := by decide +kernel
theorem dX8_same_2 : decode cX8_same 2 = .ok (.invokevirtual 185, 3) := by decide +kernel
theorem dX8_same_5 : decode cX8_same 5 = .ok (.ifCond .eq 31, 3) := by decide +kernel
theorem dX8_same_8 : decode cX8_same 8 = .ok (.aload_n 0, 1) := by decide +kernel
theorem dX8_same_9 : decode cX8_same 9 = .ok (.iload_n 2, 1) := by decide +kernel
theorem dX8_same_10 : decode cX8_same 10 = .ok (.invokevirtual 185, 3) := by decide +kernel
theorem dX8_same_13 : decode cX8_same 13 = .ok (.ifCond .eq 23, 3) := by decide +kernel
theorem dX8_same_16 : decode cX8_same 16 = .ok (.aload_n 0, 1) := by decide +kernel
theorem dX8_same_17 : decode cX8_same 17 = .ok (.getfield 22, 3) := by decide +kernel
theorem dX8_same_20 : decode cX8_same 20 = .ok (.iload_n 1, 1) := by decide +kernel
theorem dX8_same_21 : decode cX8_same 21 = .ok (.iaload, 1) := by decide +kernel
theorem dX8_same_22 : decode cX8_same 22 = .ok (.iconst 4, 1) := by decide +kernel
theorem dX8_same_23 : decode cX8_same 23 = .ok (.if_icmp .eq 13, 3) := by decide +kernel
theorem dX8_same_26 : decode cX8_same 26 = .ok (.aload_n 0, 1) := by decide +kernel
theorem dX8_same_27 : decode cX8_same 27 = .ok (.getfield 22, 3) := by decide +kernel
theorem dX8_same_30 : decode cX8_same 30 = .ok (.iload_n 2, 1) := by decide +kernel
theorem dX8_same_31 : decode cX8_same 31 = .ok (.iaload, 1) := by decide +kernel
theorem dX8_same_32 : decode cX8_same 32 = .ok (.iconst 4, 1) := by decide +kernel
theorem dX8_same_33 : decode cX8_same 33 = .ok (.if_icmp .ne 5, 3) := by decide +kernel
theorem dX8_same_36 : decode cX8_same 36 = .ok (.iconst (-1), 1) := by decide +kernel
theorem dX8_same_37 : decode cX8_same 37 = .ok (.ireturn, 1) := by decide +kernel
theorem dX8_same_38 : decode cX8_same 38 = .ok (.iconst 1, 1) := by decide +kernel
theorem dX8_same_39 : decode cX8_same 39 = .ok (.istore_n 3, 1) := by decide +kernel
theorem dX8_same_40 : decode cX8_same 40 = .ok (.iconst 0, 1) := by decide +kernel
theorem dX8_same_41 : decode cX8_same 41 = .ok (.istore 4, 2) := by decide +kernel
theorem dX8_same_43 : decode cX8_same 43 = .ok (.iload 4, 2) := by decide +kernel
theorem dX8_same_45 : decode cX8_same 45 = .ok (.iconst 3, 1) := by decide +kernel
theorem dX8_same_46 : decode cX8_same 46 = .ok (.if_icmp .ge 75, 3) := by decide +kernel
theorem dX8_same_49 : decode cX8_same 49 = .ok (.iload_n 3, 1) := by decide +kernel
theorem dX8_same_50 : decode cX8_same 50 = .ok (.ifCond .eq 63, 3) := by decide +kernel
theorem dX8_same_53 : decode cX8_same 53 = .ok (.aload_n 0, 1) := by decide +kernel
theorem dX8_same_54 : decode cX8_same 54 = .ok (.getfield 46, 3) := by decide +kernel
theorem dX8_same_57 : decode cX8_same 57 = .ok (.bipush 36, 2) := by decide +kernel
theorem dX8_same_59 : decode cX8_same 59 = .ok (.iload_n 1, 1) := by decide +kernel
theorem dX8_same_60 : decode cX8_same 60 = .ok (.imul, 1) := by decide +kernel
theorem dX8_same_61 : decode cX8_same 61 = .ok (.iload 4, 2) := by decide +kernel
theorem dX8_same_63 : decode cX8_same 63 = .ok (.iadd, 1) := by decide +kernel
theorem dX8_same_64 : decode cX8_same 64 = .ok (.laload, 1) := by decide +kernel
theorem dX8_same_65 : decode cX8_same 65 = .ok (.aload_n 0, 1) := by decide +kernel
theorem dX8_same_66 : decode cX8_same 66 = .ok (.getfield 46, 3) := by decide +kernel
theorem dX8_same_69 : decode cX8_same 69 = .ok (.bipush 36, 2) := by decide +kernel
theorem dX8_same_71 : decode cX8_same 71 = .ok (.iload_n 2, 1) := by decide +kernel
theorem dX8_same_72 : decode cX8_same 72 = .ok (.imul, 1) := by decide +kernel
theorem dX8_same_73 : decode cX8_same 73 = .ok (.iload 4, 2) := by decide +kernel
theorem dX8_same_75 : decode cX8_same 75 = .ok (.iadd, 1) := by decide +kernel
theorem dX8_same_76 : decode cX8_same 76 = .ok (.laload, 1) := by decide +kernel
theorem dX8_same_77 : decode cX8_same 77 = .ok (.lcmp, 1) := by decide +kernel
theorem dX8_same_78 : decode cX8_same 78 = .ok (.ifCond .ne 35, 3) := by decide +kernel
theorem dX8_same_81 : decode cX8_same 81 = .ok (.aload_n 0, 1) := by decide +kernel
theorem dX8_same_82 : decode cX8_same 82 = .ok (.getfield 50, 3) := by decide +kernel
theorem dX8_same_85 : decode cX8_same 85 = .ok (.bipush 36, 2) := by decide +kernel
theorem dX8_same_87 : decode cX8_same 87 = .ok (.iload_n 1, 1) := by decide +kernel
theorem dX8_same_88 : decode cX8_same 88 = .ok (.imul, 1) := by decide +kernel
theorem dX8_same_89 : decode cX8_same 89 = .ok (.iload 4, 2) := by decide +kernel
theorem dX8_same_91 : decode cX8_same 91 = .ok (.iadd, 1) := by decide +kernel
theorem dX8_same_92 : decode cX8_same 92 = .ok (.laload, 1) := by decide +kernel
theorem dX8_same_93 : decode cX8_same 93 = .ok (.aload_n 0, 1) := by decide +kernel
theorem dX8_same_94 : decode cX8_same 94 = .ok (.getfield 50, 3) := by decide +kernel
theorem dX8_same_97 : decode cX8_same 97 = .ok (.bipush 36, 2) := by decide +kernel
theorem dX8_same_99 : decode cX8_same 99 = .ok (.iload_n 2, 1) := by decide +kernel
theorem dX8_same_100 : decode cX8_same 100 = .ok (.imul, 1) := by decide +kernel
theorem dX8_same_101 : decode cX8_same 101 = .ok (.iload 4, 2) := by decide +kernel
theorem dX8_same_103 : decode cX8_same 103 = .ok (.iadd, 1) := by decide +kernel
theorem dX8_same_104 : decode cX8_same 104 = .ok (.laload, 1) := by decide +kernel
theorem dX8_same_105 : decode cX8_same 105 = .ok (.lcmp, 1) := by decide +kernel
theorem dX8_same_106 : decode cX8_same 106 = .ok (.ifCond .ne 7, 3) := by decide +kernel
theorem dX8_same_109 : decode cX8_same 109 = .ok (.iconst 1, 1) := by decide +kernel
theorem dX8_same_110 : decode cX8_same 110 = .ok (.goto 4, 3) := by decide +kernel
theorem dX8_same_113 : decode cX8_same 113 = .ok (.iconst 0, 1) := by decide +kernel
theorem dX8_same_114 : decode cX8_same 114 = .ok (.istore_n 3, 1) := by decide +kernel
theorem dX8_same_115 : decode cX8_same 115 = .ok (.iinc 4 1, 3) := by decide +kernel
theorem dX8_same_118 : decode cX8_same 118 = .ok (.goto (-75), 3) := by decide +kernel
theorem dX8_same_121 : decode cX8_same 121 = .ok (.iload_n 3, 1) := by decide +kernel
theorem dX8_same_122 : decode cX8_same 122 = .ok (.ifCond .eq 7, 3) := by decide +kernel
theorem dX8_same_125 : decode cX8_same 125 = .ok (.iconst 1, 1) := by decide +kernel
theorem dX8_same_126 : decode cX8_same 126 = .ok (.goto 4, 3) := by decide +kernel
theorem dX8_same_129 : decode cX8_same 129 = .ok (.iconst 0, 1) := by decide +kernel
theorem dX8_same_130 : decode cX8_same 130 = .ok (.ireturn, 1) := by decide +kernel
theorem dX8_ran_0 : decode cX8_ran 0 = .ok (.aload_n 0, 1) := by decide +kernel
theorem dX8_ran_1 : decode cX8_ran 1 = .ok (.getfield 222, 3) := by decide +kernel
theorem dX8_ran_4 : decode cX8_ran 4 = .ok (.bipush 50, 2) := by decide +kernel
theorem dX8_ran_6 : decode cX8_ran 6 = .ok (.if_icmp .ge 13, 3) := by decide +kernel
theorem dX8_ran_9 : decode cX8_ran 9 = .ok (.aload_n 0, 1) := by decide +kernel
theorem dX8_ran_10 : decode cX8_ran 10 = .ok (.getfield 62, 3) := by decide +kernel
theorem dX8_ran_13 : decode cX8_ran 13 = .ok (.aload_n 0, 1) := by decide +kernel
theorem dX8_ran_14 : decode cX8_ran 14 = .ok (.getfield 222, 3) := by decide +kernel
theorem dX8_ran_17 : decode cX8_ran 17 = .ok (.iload_n 1, 1) := by decide +kernel
theorem dX8_ran_18 : decode cX8_ran 18 = .ok (.iastore, 1) := by decide +kernel
theorem dX8_ran_19 : decode cX8_ran 19 = .ok (.aload_n 0, 1) := by decide +kernel
theorem dX8_ran_20 : decode cX8_ran 20 = .ok (.dup, 1) := by decide +kernel
theorem dX8_ran_21 : decode cX8_ran 21 = .ok (.getfield 222, 3) := by decide +kernel
theorem dX8_ran_24 : decode cX8_ran 24 = .ok (.iconst 1, 1) := by decide +kernel
theorem dX8_ran_25 : decode cX8_ran 25 = .ok (.iadd, 1) := by decide +kernel
theorem dX8_ran_26 : decode cX8_ran 26 = .ok (.putfield 222, 3) := by decide +kernel
theorem dX8_ran_29 : decode cX8_ran 29 = .ok (.return_, 1) := by decide +kernel
theorem dX8_isLine_0 : decode cX8_isLine 0 = .ok (.aload_n 0, 1) := by decide +kernel
theorem dX8_isLine_1 : decode cX8_isLine 1 = .ok (.getfield 22, 3) := by decide +kernel
theorem dX8_isLine_4 : decode cX8_isLine 4 = .ok (.iload_n 1, 1) := by decide +kernel
theorem dX8_isLine_5 : decode cX8_isLine 5 = .ok (.iaload, 1) := by decide +kernel
theorem dX8_isLine_6 : decode cX8_isLine 6 = .ok (.iconst 1, 1) := by decide +kernel
theorem dX8_isLine_7 : decode cX8_isLine 7 = .ok (.if_icmp .eq 23, 3) := by decide +kernel
theorem dX8_isLine_10 : decode cX8_isLine 10 = .ok (.aload_n 0, 1) := by decide +kernel
theorem dX8_isLine_11 : decode cX8_isLine 11 = .ok (.getfield 22, 3) := by decide +kernel
theorem dX8_isLine_14 : decode cX8_isLine 14 = .ok (.iload_n 1, 1) := by decide +kernel
theorem dX8_isLine_15 : decode cX8_isLine 15 = .ok (.iaload, 1) := by decide +kernel
theorem dX8_isLine_16 : decode cX8_isLine 16 = .ok (.iconst 2, 1) := by decide +kernel
theorem dX8_isLine_17 : decode cX8_isLine 17 = .ok (.if_icmp .eq 13, 3) := by decide +kernel
theorem dX8_isLine_20 : decode cX8_isLine 20 = .ok (.aload_n 0, 1) := by decide +kernel
theorem dX8_isLine_21 : decode cX8_isLine 21 = .ok (.getfield 22, 3) := by decide +kernel
theorem dX8_isLine_24 : decode cX8_isLine 24 = .ok (.iload_n 1, 1) := by decide +kernel
theorem dX8_isLine_25 : decode cX8_isLine 25 = .ok (.iaload, 1) := by decide +kernel
theorem dX8_isLine_26 : decode cX8_isLine 26 = .ok (.iconst 4, 1) := by decide +kernel
theorem dX8_isLine_27 : decode cX8_isLine 27 = .ok (.if_icmp .ne 7, 3) := by decide +kernel
theorem dX8_isLine_30 : decode cX8_isLine 30 = .ok (.iconst 1, 1) := by decide +kernel
theorem dX8_isLine_31 : decode cX8_isLine 31 = .ok (.goto 4, 3) := by decide +kernel
theorem dX8_isLine_34 : decode cX8_isLine 34 = .ok (.iconst 0, 1) := by decide +kernel
theorem dX8_isLine_35 : decode cX8_isLine 35 = .ok (.ireturn, 1) := by decide +kernel
theorem dX8_plainFit_0 : decode cX8_plainFit 0 = .ok (.aload_n 0, 1) := by decide +kernel
theorem dX8_plainFit_1 : decode cX8_plainFit 1 = .ok (.bipush 10, 2) := by decide +kernel
theorem dX8_plainFit_3 : decode cX8_plainFit 3 = .ok (.invokevirtual 264, 3) := by decide +kernel
theorem dX8_plainFit_6 : decode cX8_plainFit 6 = .ok (.iload_n 2, 1) := by decide +kernel
theorem dX8_plainFit_7 : decode cX8_plainFit 7 = .ok (.aload_n 0, 1) := by decide +kernel
theorem dX8_plainFit_8 : decode cX8_plainFit 8 = .ok (.getfield 28, 3) := by decide +kernel
theorem dX8_plainFit_11 : decode cX8_plainFit 11 = .ok (.iload_n 1, 1) := by decide +kernel
theorem dX8_plainFit_12 : decode cX8_plainFit 12 = .ok (.iaload, 1) := by decide +kernel
theorem dX8_plainFit_13 : decode cX8_plainFit 13 = .ok (.iadd, 1) := by decide +kernel
theorem dX8_plainFit_14 : decode cX8_plainFit 14 = .ok (.ireturn, 1) := by decide +kernel
theorem dX8_fit0_0 : decode cX8_fit0 0 = .ok (.aload_n 0, 1) := by decide +kernel
theorem dX8_fit0_1 : decode cX8_fit0 1 = .ok (.iload_n 1, 1) := by decide +kernel
theorem dX8_fit0_2 : decode cX8_fit0 2 = .ok (.invokevirtual 267, 3) := by decide +kernel
theorem dX8_fit0_5 : decode cX8_fit0 5 = .ok (.ifCond .ne 10, 3) := by decide +kernel
theorem dX8_fit0_8 : decode cX8_fit0 8 = .ok (.aload_n 0, 1) := by decide +kernel
theorem dX8_fit0_9 : decode cX8_fit0 9 = .ok (.iload_n 1, 1) := by decide +kernel
theorem dX8_fit0_10 : decode cX8_fit0 10 = .ok (.iload_n 2, 1) := by decide +kernel
theorem dX8_fit0_11 : decode cX8_fit0 11 = .ok (.invokevirtual 270, 3) := by decide +kernel
theorem dX8_fit0_14 : decode cX8_fit0 14 = .ok (.ireturn, 1) := by decide +kernel
theorem dX8_fit0_15 : decode cX8_fit0 15 = .ok (.aload_n 0, 1) := by decide +kernel
theorem dX8_fit0_16 : decode cX8_fit0 16 = .ok (.getfield 22, 3) := by decide +kernel
theorem dX8_fit0_19 : decode cX8_fit0 19 = .ok (.iload_n 1, 1) := by decide +kernel
theorem dX8_fit0_20 : decode cX8_fit0 20 = .ok (.iaload, 1) := by decide +kernel
theorem dX8_fit0_21 : decode cX8_fit0 21 = .ok (.iconst 4, 1) := by decide +kernel
theorem dX8_fit0_22 : decode cX8_fit0 22 = .ok (.if_icmp .ne 9, 3) := by decide +kernel
theorem dX8_fit0_25 : decode cX8_fit0 25 = .ok (.aload_n 0, 1) := by decide +kernel
theorem dX8_fit0_26 : decode cX8_fit0 26 = .ok (.bipush 50, 2) := by decide +kernel
theorem dX8_fit0_28 : decode cX8_fit0 28 = .ok (.invokevirtual 264, 3) := by decide +kernel
theorem dX8_fit0_31 : decode cX8_fit0 31 = .ok (.aload_n 0, 1) := by decide +kernel
theorem dX8_fit0_32 : decode cX8_fit0 32 = .ok (.bipush 20, 2) := by decide +kernel
theorem dX8_fit0_34 : decode cX8_fit0 34 = .ok (.invokevirtual 264, 3) := by decide +kernel
theorem dX8_fit0_37 : decode cX8_fit0 37 = .ok (.aload_n 0, 1) := by decide +kernel
theorem dX8_fit0_38 : decode cX8_fit0 38 = .ok (.iload_n 1, 1) := by decide +kernel
theorem dX8_fit0_39 : decode cX8_fit0 39 = .ok (.aload_n 0, 1) := by decide +kernel
theorem dX8_fit0_40 : decode cX8_fit0 40 = .ok (.getfield 22, 3) := by decide +kernel
theorem dX8_fit0_43 : decode cX8_fit0 43 = .ok (.iload_n 1, 1) := by decide +kernel
theorem dX8_fit0_44 : decode cX8_fit0 44 = .ok (.iaload, 1) := by decide +kernel
theorem dX8_fit0_45 : decode cX8_fit0 45 = .ok (.iconst 4, 1) := by decide +kernel
theorem dX8_fit0_46 : decode cX8_fit0 46 = .ok (.if_icmp .ne 9, 3) := by decide +kernel
theorem dX8_fit0_49 : decode cX8_fit0 49 = .ok (.iload_n 2, 1) := by decide +kernel
theorem dX8_fit0_50 : decode cX8_fit0 50 = .ok (.iconst 2, 1) := by decide +kernel
theorem dX8_fit0_51 : decode cX8_fit0 51 = .ok (.imul, 1) := by decide +kernel
theorem dX8_fit0_52 : decode cX8_fit0 52 = .ok (.goto 4, 3) := by decide +kernel
theorem dX8_fit0_55 : decode cX8_fit0 55 = .ok (.iload_n 2, 1) := by decide +kernel
theorem dX8_fit0_56 : decode cX8_fit0 56 = .ok (.invokevirtual 270, 3) := by decide +kernel
theorem dX8_fit0_59 : decode cX8_fit0 59 = .ok (.iconst 1, 1) := by decide +kernel
theorem dX8_fit0_60 : decode cX8_fit0 60 = .ok (.iadd, 1) := by decide +kernel
theorem dX8_fit0_61 : decode cX8_fit0 61 = .ok (.ireturn, 1) := by decide +kernel
theorem dX8_plainMiss_0 : decode cX8_plainMiss 0 = .ok (.aload_n 0, 1) := by decide +kernel
theorem dX8_plainMiss_1 : decode cX8_plainMiss 1 = .ok (.bipush 11, 2) := by decide +kernel
theorem dX8_plainMiss_3 : decode cX8_plainMiss 3 = .ok (.invokevirtual 264, 3) := by decide +kernel
theorem dX8_plainMiss_6 : decode cX8_plainMiss 6 = .ok (.aload_n 0, 1) := by decide +kernel
theorem dX8_plainMiss_7 : decode cX8_plainMiss 7 = .ok (.iload_n 1, 1) := by decide +kernel
theorem dX8_plainMiss_8 : decode cX8_plainMiss 8 = .ok (.iload_n 2, 1) := by decide +kernel
theorem dX8_plainMiss_9 : decode cX8_plainMiss 9 = .ok (.invokevirtual 273, 3) := by decide +kernel
theorem dX8_plainMiss_12 : decode cX8_plainMiss 12 = .ok (.iconst 2, 1) := by decide +kernel
theorem dX8_plainMiss_13 : decode cX8_plainMiss 13 = .ok (.imul, 1) := by decide +kernel
theorem dX8_plainMiss_14 : decode cX8_plainMiss 14 = .ok (.ireturn, 1) := by decide +kernel
theorem dX8_miss0_0 : decode cX8_miss0 0 = .ok (.aload_n 0, 1) := by decide +kernel
theorem dX8_miss0_1 : decode cX8_miss0 1 = .ok (.getfield 22, 3) := by decide +kernel
theorem dX8_miss0_4 : decode cX8_miss0 4 = .ok (.iload_n 1, 1) := by decide +kernel
theorem dX8_miss0_5 : decode cX8_miss0 5 = .ok (.iaload, 1) := by decide +kernel
theorem dX8_miss0_6 : decode cX8_miss0 6 = .ok (.iconst 2, 1) := by decide +kernel
theorem dX8_miss0_7 : decode cX8_miss0 7 = .ok (.if_icmp .ne 23, 3) := by decide +kernel
theorem dX8_miss0_10 : decode cX8_miss0 10 = .ok (.aload_n 0, 1) := by decide +kernel
theorem dX8_miss0_11 : decode cX8_miss0 11 = .ok (.bipush 30, 2) := by decide +kernel
theorem dX8_miss0_13 : decode cX8_miss0 13 = .ok (.invokevirtual 264, 3) := by decide +kernel
theorem dX8_miss0_16 : decode cX8_miss0 16 = .ok (.aload_n 0, 1) := by decide +kernel
theorem dX8_miss0_17 : decode cX8_miss0 17 = .ok (.iload_n 1, 1) := by decide +kernel
theorem dX8_miss0_18 : decode cX8_miss0 18 = .ok (.iload_n 2, 1) := by decide +kernel
theorem dX8_miss0_19 : decode cX8_miss0 19 = .ok (.aload_n 0, 1) := by decide +kernel
theorem dX8_miss0_20 : decode cX8_miss0 20 = .ok (.getfield 28, 3) := by decide +kernel
theorem dX8_miss0_23 : decode cX8_miss0 23 = .ok (.iload_n 1, 1) := by decide +kernel
theorem dX8_miss0_24 : decode cX8_miss0 24 = .ok (.iaload, 1) := by decide +kernel
theorem dX8_miss0_25 : decode cX8_miss0 25 = .ok (.isub, 1) := by decide +kernel
theorem dX8_miss0_26 : decode cX8_miss0 26 = .ok (.invokevirtual 276, 3) := by decide +kernel
theorem dX8_miss0_29 : decode cX8_miss0 29 = .ok (.ireturn, 1) := by decide +kernel
theorem dX8_miss0_30 : decode cX8_miss0 30 = .ok (.aload_n 0, 1) := by decide +kernel
theorem dX8_miss0_31 : decode cX8_miss0 31 = .ok (.getfield 22, 3) := by decide +kernel
theorem dX8_miss0_34 : decode cX8_miss0 34 = .ok (.iload_n 1, 1) := by decide +kernel
theorem dX8_miss0_35 : decode cX8_miss0 35 = .ok (.iaload, 1) := by decide +kernel
theorem dX8_miss0_36 : decode cX8_miss0 36 = .ok (.iconst 4, 1) := by decide +kernel
theorem dX8_miss0_37 : decode cX8_miss0 37 = .ok (.if_icmp .ne 25, 3) := by decide +kernel
theorem dX8_miss0_40 : decode cX8_miss0 40 = .ok (.aload_n 0, 1) := by decide +kernel
theorem dX8_miss0_41 : decode cX8_miss0 41 = .ok (.bipush 51, 2) := by decide +kernel
theorem dX8_miss0_43 : decode cX8_miss0 43 = .ok (.invokevirtual 264, 3) := by decide +kernel
theorem dX8_miss0_46 : decode cX8_miss0 46 = .ok (.aload_n 0, 1) := by decide +kernel
theorem dX8_miss0_47 : decode cX8_miss0 47 = .ok (.iload_n 1, 1) := by decide +kernel
theorem dX8_miss0_48 : decode cX8_miss0 48 = .ok (.iload_n 2, 1) := by decide +kernel
theorem dX8_miss0_49 : decode cX8_miss0 49 = .ok (.invokevirtual 276, 3) := by decide +kernel
theorem dX8_miss0_52 : decode cX8_miss0 52 = .ok (.istore_n 3, 1) := by decide +kernel
theorem dX8_miss0_53 : decode cX8_miss0 53 = .ok (.iload_n 3, 1) := by decide +kernel
theorem dX8_miss0_54 : decode cX8_miss0 54 = .ok (.aload_n 0, 1) := by decide +kernel
theorem dX8_miss0_55 : decode cX8_miss0 55 = .ok (.iload_n 1, 1) := by decide +kernel
theorem dX8_miss0_56 : decode cX8_miss0 56 = .ok (.iload_n 2, 1) := by decide +kernel
theorem dX8_miss0_57 : decode cX8_miss0 57 = .ok (.invokevirtual 273, 3) := by decide +kernel
theorem dX8_miss0_60 : decode cX8_miss0 60 = .ok (.isub, 1) := by decide +kernel
theorem dX8_miss0_61 : decode cX8_miss0 61 = .ok (.ireturn, 1) := by decide +kernel
theorem dX8_miss0_62 : decode cX8_miss0 62 = .ok (.aload_n 0, 1) := by decide +kernel
theorem dX8_miss0_63 : decode cX8_miss0 63 = .ok (.iload_n 1, 1) := by decide +kernel
theorem dX8_miss0_64 : decode cX8_miss0 64 = .ok (.iload_n 2, 1) := by decide +kernel
theorem dX8_miss0_65 : decode cX8_miss0 65 = .ok (.invokevirtual 276, 3) := by decide +kernel
theorem dX8_miss0_68 : decode cX8_miss0 68 = .ok (.ireturn, 1) := by decide +kernel
theorem dX8_bend0_0 : decode cX8_bend0 0 = .ok (.aload_n 0, 1) := by decide +kernel
theorem dX8_bend0_1 : decode cX8_bend0 1 = .ok (.getfield 22, 3) := by decide +kernel
theorem dX8_bend0_4 : decode cX8_bend0 4 = .ok (.iload_n 1, 1) := by decide +kernel
theorem dX8_bend0_5 : decode cX8_bend0 5 = .ok (.iaload, 1) := by decide +kernel
theorem dX8_bend0_6 : decode cX8_bend0 6 = .ok (.iconst 3, 1) := by decide +kernel
theorem dX8_bend0_7 : decode cX8_bend0 7 = .ok (.if_icmp .ne 26, 3) := by decide +kernel
theorem dX8_bend0_10 : decode cX8_bend0 10 = .ok (.aload_n 0, 1) := by decide +kernel
theorem dX8_bend0_11 : decode cX8_bend0 11 = .ok (.bipush 40, 2) := by decide +kernel
theorem dX8_bend0_13 : decode cX8_bend0 13 = .ok (.invokevirtual 264, 3) := by decide +kernel
theorem dX8_bend0_16 : decode cX8_bend0 16 = .ok (.aload_n 0, 1) := by decide +kernel
theorem dX8_bend0_17 : decode cX8_bend0 17 = .ok (.bipush 12, 2) := by decide +kernel
theorem dX8_bend0_19 : decode cX8_bend0 19 = .ok (.invokevirtual 264, 3) := by decide +kernel
theorem dX8_bend0_22 : decode cX8_bend0 22 = .ok (.iload_n 2, 1) := by decide +kernel
theorem dX8_bend0_23 : decode cX8_bend0 23 = .ok (.iload_n 1, 1) := by decide +kernel
theorem dX8_bend0_24 : decode cX8_bend0 24 = .ok (.isub, 1) := by decide +kernel
theorem dX8_bend0_25 : decode cX8_bend0 25 = .ok (.aload_n 0, 1) := by decide +kernel
theorem dX8_bend0_26 : decode cX8_bend0 26 = .ok (.iload_n 1, 1) := by decide +kernel
theorem dX8_bend0_27 : decode cX8_bend0 27 = .ok (.iload_n 2, 1) := by decide +kernel
theorem dX8_bend0_28 : decode cX8_bend0 28 = .ok (.invokevirtual 270, 3) := by decide +kernel
theorem dX8_bend0_31 : decode cX8_bend0 31 = .ok (.iadd, 1) := by decide +kernel
theorem dX8_bend0_32 : decode cX8_bend0 32 = .ok (.ireturn, 1) := by decide +kernel
theorem dX8_bend0_33 : decode cX8_bend0 33 = .ok (.aload_n 0, 1) := by decide +kernel
theorem dX8_bend0_34 : decode cX8_bend0 34 = .ok (.iload_n 1, 1) := by decide +kernel
theorem dX8_bend0_35 : decode cX8_bend0 35 = .ok (.invokevirtual 267, 3) := by decide +kernel
theorem dX8_bend0_38 : decode cX8_bend0 38 = .ok (.ifCond .eq 9, 3) := by decide +kernel
theorem dX8_bend0_41 : decode cX8_bend0 41 = .ok (.aload_n 0, 1) := by decide +kernel
theorem dX8_bend0_42 : decode cX8_bend0 42 = .ok (.bipush 21, 2) := by decide +kernel
theorem dX8_bend0_44 : decode cX8_bend0 44 = .ok (.invokevirtual 264, 3) := by decide +kernel
theorem dX8_bend0_47 : decode cX8_bend0 47 = .ok (.aload_n 0, 1) := by decide +kernel
theorem dX8_bend0_48 : decode cX8_bend0 48 = .ok (.bipush 12, 2) := by decide +kernel
theorem dX8_bend0_50 : decode cX8_bend0 50 = .ok (.invokevirtual 264, 3) := by decide +kernel
theorem dX8_bend0_53 : decode cX8_bend0 53 = .ok (.aload_n 0, 1) := by decide +kernel
theorem dX8_bend0_54 : decode cX8_bend0 54 = .ok (.iload_n 1, 1) := by decide +kernel
theorem dX8_bend0_55 : decode cX8_bend0 55 = .ok (.invokevirtual 267, 3) := by decide +kernel
theorem dX8_bend0_58 : decode cX8_bend0 58 = .ok (.ifCond .eq 11, 3) := by decide +kernel
theorem dX8_bend0_61 : decode cX8_bend0 61 = .ok (.iload_n 2, 1) := by decide +kernel
theorem dX8_bend0_62 : decode cX8_bend0 62 = .ok (.iload_n 1, 1) := by decide +kernel
theorem dX8_bend0_63 : decode cX8_bend0 63 = .ok (.isub, 1) := by decide +kernel
theorem dX8_bend0_64 : decode cX8_bend0 64 = .ok (.iconst 3, 1) := by decide +kernel
theorem dX8_bend0_65 : decode cX8_bend0 65 = .ok (.imul, 1) := by decide +kernel
theorem dX8_bend0_66 : decode cX8_bend0 66 = .ok (.goto 6, 3) := by decide +kernel
theorem dX8_bend0_69 : decode cX8_bend0 69 = .ok (.iload_n 2, 1) := by decide +kernel
theorem dX8_bend0_70 : decode cX8_bend0 70 = .ok (.iload_n 1, 1) := by decide +kernel
theorem dX8_bend0_71 : decode cX8_bend0 71 = .ok (.isub, 1) := by decide +kernel
theorem dX8_bend0_72 : decode cX8_bend0 72 = .ok (.ireturn, 1) := by decide +kernel
theorem dX8_plainTell_0 : decode cX8_plainTell 0 = .ok (.aload_n 0, 1) := by decide +kernel
theorem dX8_plainTell_1 : decode cX8_plainTell 1 = .ok (.bipush 13, 2) := by decide +kernel
theorem dX8_plainTell_3 : decode cX8_plainTell 3 = .ok (.invokevirtual 264, 3) := by decide +kernel
theorem dX8_plainTell_6 : decode cX8_plainTell 6 = .ok (.aload_n 0, 1) := by decide +kernel
theorem dX8_plainTell_7 : decode cX8_plainTell 7 = .ok (.iload_n 1, 1) := by decide +kernel
theorem dX8_plainTell_8 : decode cX8_plainTell 8 = .ok (.iload_n 2, 1) := by decide +kernel
theorem dX8_plainTell_9 : decode cX8_plainTell 9 = .ok (.invokevirtual 279, 3) := by decide +kernel
theorem dX8_plainTell_12 : decode cX8_plainTell 12 = .ok (.istore_n 3, 1) := by decide +kernel
theorem dX8_plainTell_13 : decode cX8_plainTell 13 = .ok (.iload_n 3, 1) := by decide +kernel
theorem dX8_plainTell_14 : decode cX8_plainTell 14 = .ok (.aload_n 0, 1) := by decide +kernel
theorem dX8_plainTell_15 : decode cX8_plainTell 15 = .ok (.iload_n 1, 1) := by decide +kernel
theorem dX8_plainTell_16 : decode cX8_plainTell 16 = .ok (.iload_n 2, 1) := by decide +kernel
theorem dX8_plainTell_17 : decode cX8_plainTell 17 = .ok (.invokevirtual 282, 3) := by decide +kernel
theorem dX8_plainTell_20 : decode cX8_plainTell 20 = .ok (.ixor, 1) := by decide +kernel
theorem dX8_plainTell_21 : decode cX8_plainTell 21 = .ok (.ireturn, 1) := by decide +kernel
theorem dX8_tell0_0 : decode cX8_tell0 0 = .ok (.aload_n 0, 1) := by decide +kernel
theorem dX8_tell0_1 : decode cX8_tell0 1 = .ok (.getfield 22, 3) := by decide +kernel
theorem dX8_tell0_4 : decode cX8_tell0 4 = .ok (.iload_n 1, 1) := by decide +kernel
theorem dX8_tell0_5 : decode cX8_tell0 5 = .ok (.iaload, 1) := by decide +kernel
theorem dX8_tell0_6 : decode cX8_tell0 6 = .ok (.iconst 2, 1) := by decide +kernel
theorem dX8_tell0_7 : decode cX8_tell0 7 = .ok (.if_icmp .ne 25, 3) := by decide +kernel
theorem dX8_tell0_10 : decode cX8_tell0 10 = .ok (.aload_n 0, 1) := by decide +kernel
theorem dX8_tell0_11 : decode cX8_tell0 11 = .ok (.bipush 31, 2) := by decide +kernel
theorem dX8_tell0_13 : decode cX8_tell0 13 = .ok (.invokevirtual 264, 3) := by decide +kernel
theorem dX8_tell0_16 : decode cX8_tell0 16 = .ok (.aload_n 0, 1) := by decide +kernel
theorem dX8_tell0_17 : decode cX8_tell0 17 = .ok (.iload_n 1, 1) := by decide +kernel
theorem dX8_tell0_18 : decode cX8_tell0 18 = .ok (.iload_n 2, 1) := by decide +kernel
theorem dX8_tell0_19 : decode cX8_tell0 19 = .ok (.invokevirtual 282, 3) := by decide +kernel
theorem dX8_tell0_22 : decode cX8_tell0 22 = .ok (.istore_n 3, 1) := by decide +kernel
theorem dX8_tell0_23 : decode cX8_tell0 23 = .ok (.iload_n 3, 1) := by decide +kernel
theorem dX8_tell0_24 : decode cX8_tell0 24 = .ok (.aload_n 0, 1) := by decide +kernel
theorem dX8_tell0_25 : decode cX8_tell0 25 = .ok (.iload_n 1, 1) := by decide +kernel
theorem dX8_tell0_26 : decode cX8_tell0 26 = .ok (.iload_n 2, 1) := by decide +kernel
theorem dX8_tell0_27 : decode cX8_tell0 27 = .ok (.invokevirtual 285, 3) := by decide +kernel
theorem dX8_tell0_30 : decode cX8_tell0 30 = .ok (.iadd, 1) := by decide +kernel
theorem dX8_tell0_31 : decode cX8_tell0 31 = .ok (.ireturn, 1) := by decide +kernel
theorem dX8_tell0_32 : decode cX8_tell0 32 = .ok (.aload_n 0, 1) := by decide +kernel
theorem dX8_tell0_33 : decode cX8_tell0 33 = .ok (.iload_n 1, 1) := by decide +kernel
theorem dX8_tell0_34 : decode cX8_tell0 34 = .ok (.iload_n 2, 1) := by decide +kernel
theorem dX8_tell0_35 : decode cX8_tell0 35 = .ok (.invokevirtual 285, 3) := by decide +kernel
theorem dX8_tell0_38 : decode cX8_tell0 38 = .ok (.ireturn, 1) := by decide +kernel
theorem dX8_act_0 : decode cX8_act 0 = .ok (.aload_n 0, 1) := by decide +kernel
theorem dX8_act_1 : decode cX8_act 1 = .ok (.iload_n 1, 1) := by decide +kernel
theorem dX8_act_2 : decode cX8_act 2 = .ok (.invokevirtual 185, 3) := by decide +kernel
theorem dX8_act_5 : decode cX8_act 5 = .ok (.ifCond .eq 12, 3) := by decide +kernel
theorem dX8_act_8 : decode cX8_act 8 = .ok (.iload_n 2, 1) := by decide +kernel
theorem dX8_act_9 : decode cX8_act 9 = .ok (.iconst 0, 1) := by decide +kernel
theorem dX8_act_10 : decode cX8_act 10 = .ok (.iconst 3, 1) := by decide +kernel
theorem dX8_act_11 : decode cX8_act 11 = .ok (.invokestatic 100, 3) := by decide +kernel
theorem dX8_act_14 : decode cX8_act 14 = .ok (.ifCond .ne 9, 3) := by decide +kernel
theorem dX8_act_17 : decode cX8_act 17 = .ok (.aload_n 0, 1) := by decide +kernel
theorem dX8_act_18 : decode cX8_act 18 = .ok (.iconst 1, 1) := by decide +kernel
theorem dX8_act_19 : decode cX8_act 19 = .ok (.invokevirtual 118, 3) := by decide +kernel
theorem dX8_act_22 : decode cX8_act 22 = .ok (.ireturn, 1) := by decide +kernel
theorem dX8_act_23 : decode cX8_act 23 = .ok (.aload_n 0, 1) := by decide +kernel
theorem dX8_act_24 : decode cX8_act 24 = .ok (.iconst 0, 1) := by decide +kernel
theorem dX8_act_25 : decode cX8_act 25 = .ok (.putfield 222, 3) := by decide +kernel
theorem dX8_act_28 : decode cX8_act 28 = .ok (.aload_n 0, 1) := by decide +kernel
theorem dX8_act_29 : decode cX8_act 29 = .ok (.iload_n 2, 1) := by decide +kernel
theorem dX8_act_30 : decode cX8_act 30 = .ok (.ifCond .ne 12, 3) := by decide +kernel
theorem dX8_act_33 : decode cX8_act 33 = .ok (.aload_n 0, 1) := by decide +kernel
theorem dX8_act_34 : decode cX8_act 34 = .ok (.iload_n 1, 1) := by decide +kernel
theorem dX8_act_35 : decode cX8_act 35 = .ok (.iload_n 3, 1) := by decide +kernel
theorem dX8_act_36 : decode cX8_act 36 = .ok (.invokevirtual 273, 3) := by decide +kernel
theorem dX8_act_39 : decode cX8_act 39 = .ok (.goto 37, 3) := by decide +kernel
theorem dX8_act_42 : decode cX8_act 42 = .ok (.iload_n 2, 1) := by decide +kernel
theorem dX8_act_43 : decode cX8_act 43 = .ok (.iconst 1, 1) := by decide +kernel
theorem dX8_act_44 : decode cX8_act 44 = .ok (.if_icmp .ne 12, 3) := by decide +kernel
theorem dX8_act_47 : decode cX8_act 47 = .ok (.aload_n 0, 1) := by decide +kernel
theorem dX8_act_48 : decode cX8_act 48 = .ok (.iload_n 1, 1) := by decide +kernel
theorem dX8_act_49 : decode cX8_act 49 = .ok (.iload_n 3, 1) := by decide +kernel
theorem dX8_act_50 : decode cX8_act 50 = .ok (.invokevirtual 279, 3) := by decide +kernel
theorem dX8_act_53 : decode cX8_act 53 = .ok (.goto 23, 3) := by decide +kernel
theorem dX8_act_56 : decode cX8_act 56 = .ok (.iload_n 2, 1) := by decide +kernel
theorem dX8_act_57 : decode cX8_act 57 = .ok (.iconst 2, 1) := by decide +kernel
theorem dX8_act_58 : decode cX8_act 58 = .ok (.if_icmp .ne 12, 3) := by decide +kernel
theorem dX8_act_61 : decode cX8_act 61 = .ok (.aload_n 0, 1) := by decide +kernel
theorem dX8_act_62 : decode cX8_act 62 = .ok (.iload_n 1, 1) := by decide +kernel
theorem dX8_act_63 : decode cX8_act 63 = .ok (.iload_n 3, 1) := by decide +kernel
theorem dX8_act_64 : decode cX8_act 64 = .ok (.invokevirtual 282, 3) := by decide +kernel
theorem dX8_act_67 : decode cX8_act 67 = .ok (.goto 9, 3) := by decide +kernel
theorem dX8_act_70 : decode cX8_act 70 = .ok (.aload_n 0, 1) := by decide +kernel
theorem dX8_act_71 : decode cX8_act 71 = .ok (.iload_n 1, 1) := by decide +kernel
theorem dX8_act_72 : decode cX8_act 72 = .ok (.iload_n 3, 1) := by decide +kernel
theorem dX8_act_73 : decode cX8_act 73 = .ok (.invokevirtual 288, 3) := by decide +kernel
theorem dX8_act_76 : decode cX8_act 76 = .ok (.invokevirtual 130, 3) := by decide +kernel
theorem dX8_act_79 : decode cX8_act 79 = .ok (.ireturn, 1) := by decide +kernel
theorem dX8_trace_0 : decode cX8_trace 0 = .ok (.iload_n 1, 1) := by decide +kernel
theorem dX8_trace_1 : decode cX8_trace 1 = .ok (.iconst 0, 1) := by decide +kernel
theorem dX8_trace_2 : decode cX8_trace 2 = .ok (.aload_n 0, 1) := by decide +kernel
theorem dX8_trace_3 : decode cX8_trace 3 = .ok (.getfield 222, 3) := by decide +kernel
theorem dX8_trace_6 : decode cX8_trace 6 = .ok (.bipush 50, 2) := by decide +kernel
theorem dX8_trace_8 : decode cX8_trace 8 = .ok (.if_icmp .ge 10, 3) := by decide +kernel
theorem dX8_trace_11 : decode cX8_trace 11 = .ok (.aload_n 0, 1) := by decide +kernel
theorem dX8_trace_12 : decode cX8_trace 12 = .ok (.getfield 222, 3) := by decide +kernel
theorem dX8_trace_15 : decode cX8_trace 15 = .ok (.goto 5, 3) := by decide +kernel
theorem dX8_trace_18 : decode cX8_trace 18 = .ok (.bipush 50, 2) := by decide +kernel
theorem dX8_trace_20 : decode cX8_trace 20 = .ok (.iconst 1, 1) := by decide +kernel
theorem dX8_trace_21 : decode cX8_trace 21 = .ok (.isub, 1) := by decide +kernel
theorem dX8_trace_22 : decode cX8_trace 22 = .ok (.invokestatic 100, 3) := by decide +kernel
theorem dX8_trace_25 : decode cX8_trace 25 = .ok (.ifCond .eq 12, 3) := by decide +kernel
theorem dX8_trace_28 : decode cX8_trace 28 = .ok (.aload_n 0, 1) := by decide +kernel
theorem dX8_trace_29 : decode cX8_trace 29 = .ok (.getfield 62, 3) := by decide +kernel
theorem dX8_trace_32 : decode cX8_trace 32 = .ok (.iload_n 1, 1) := by decide +kernel
theorem dX8_trace_33 : decode cX8_trace 33 = .ok (.iaload, 1) := by decide +kernel
theorem dX8_trace_34 : decode cX8_trace 34 = .ok (.goto 4, 3) := by decide +kernel
theorem dX8_trace_37 : decode cX8_trace 37 = .ok (.iconst (-1), 1) := by decide +kernel
theorem dX8_trace_38 : decode cX8_trace 38 = .ok (.ireturn, 1) := by decide +kernel
theorem dX8_sheet_0 : decode cX8_sheet 0 = .ok (.iload_n 1, 1) := by decide +kernel
theorem dX8_sheet_1 : decode cX8_sheet 1 = .ok (.iconst 0, 1) := by decide +kernel
theorem dX8_sheet_2 : decode cX8_sheet 2 = .ok (.iconst 3, 1) := by decide +kernel
theorem dX8_sheet_3 : decode cX8_sheet 3 = .ok (.invokestatic 100, 3) := by decide +kernel
theorem dX8_sheet_6 : decode cX8_sheet 6 = .ok (.ifCond .eq 27, 3) := by decide +kernel
theorem dX8_sheet_9 : decode cX8_sheet 9 = .ok (.iload_n 2, 1) := by decide +kernel
theorem dX8_sheet_10 : decode cX8_sheet 10 = .ok (.iconst (-1), 1) := by decide +kernel
theorem dX8_sheet_11 : decode cX8_sheet 11 = .ok (.iconst 2, 1) := by decide +kernel
theorem dX8_sheet_12 : decode cX8_sheet 12 = .ok (.invokestatic 100, 3) := by decide +kernel
theorem dX8_sheet_15 : decode cX8_sheet 15 = .ok (.ifCond .eq 18, 3) := by decide +kernel
theorem dX8_sheet_18 : decode cX8_sheet 18 = .ok (.iload_n 2, 1) := by decide +kernel
theorem dX8_sheet_19 : decode cX8_sheet 19 = .ok (.iconst (-1), 1) := by decide +kernel
theorem dX8_sheet_20 : decode cX8_sheet 20 = .ok (.if_icmp .eq 19, 3) := by decide +kernel
theorem dX8_sheet_23 : decode cX8_sheet 23 = .ok (.iload_n 3, 1) := by decide +kernel
theorem dX8_sheet_24 : decode cX8_sheet 24 = .ok (.iconst 0, 1) := by decide +kernel
theorem dX8_sheet_25 : decode cX8_sheet 25 = .ok (.bipush 40, 2) := by decide +kernel
theorem dX8_sheet_27 : decode cX8_sheet 27 = .ok (.invokestatic 100, 3) := by decide +kernel
theorem dX8_sheet_30 : decode cX8_sheet 30 = .ok (.ifCond .ne 9, 3) := by decide +kernel
theorem dX8_sheet_33 : decode cX8_sheet 33 = .ok (.aload_n 0, 1) := by decide +kernel
theorem dX8_sheet_34 : decode cX8_sheet 34 = .ok (.iconst 1, 1) := by decide +kernel
theorem dX8_sheet_35 : decode cX8_sheet 35 = .ok (.invokevirtual 118, 3) := by decide +kernel
theorem dX8_sheet_38 : decode cX8_sheet 38 = .ok (.ireturn, 1) := by decide +kernel
theorem dX8_sheet_39 : decode cX8_sheet 39 = .ok (.aload_n 0, 1) := by decide +kernel
theorem dX8_sheet_40 : decode cX8_sheet 40 = .ok (.getfield 53, 3) := by decide +kernel
theorem dX8_sheet_43 : decode cX8_sheet 43 = .ok (.iload_n 1, 1) := by decide +kernel
theorem dX8_sheet_44 : decode cX8_sheet 44 = .ok (.iload_n 2, 1) := by decide +kernel
theorem dX8_sheet_45 : decode cX8_sheet 45 = .ok (.iastore, 1) := by decide +kernel
theorem dX8_sheet_46 : decode cX8_sheet 46 = .ok (.aload_n 0, 1) := by decide +kernel
theorem dX8_sheet_47 : decode cX8_sheet 47 = .ok (.getfield 56, 3) := by decide +kernel
theorem dX8_sheet_50 : decode cX8_sheet 50 = .ok (.iload_n 1, 1) := by decide +kernel
theorem dX8_sheet_51 : decode cX8_sheet 51 = .ok (.iload_n 2, 1) := by decide +kernel
theorem dX8_sheet_52 : decode cX8_sheet 52 = .ok (.iconst (-1), 1) := by decide +kernel
theorem dX8_sheet_53 : decode cX8_sheet 53 = .ok (.if_icmp .ne 7, 3) := by decide +kernel
theorem dX8_sheet_56 : decode cX8_sheet 56 = .ok (.iconst 0, 1) := by decide +kernel
theorem dX8_sheet_57 : decode cX8_sheet 57 = .ok (.goto 4, 3) := by decide +kernel
theorem dX8_sheet_60 : decode cX8_sheet 60 = .ok (.iload_n 3, 1) := by decide +kernel
theorem dX8_sheet_61 : decode cX8_sheet 61 = .ok (.iastore, 1) := by decide +kernel
theorem dX8_sheet_62 : decode cX8_sheet 62 = .ok (.iconst 0, 1) := by decide +kernel
theorem dX8_sheet_63 : decode cX8_sheet 63 = .ok (.istore 4, 2) := by decide +kernel
theorem dX8_sheet_65 : decode cX8_sheet 65 = .ok (.iload 4, 2) := by decide +kernel
theorem dX8_sheet_67 : decode cX8_sheet 67 = .ok (.bipush 40, 2) := by decide +kernel
theorem dX8_sheet_69 : decode cX8_sheet 69 = .ok (.if_icmp .ge 22, 3) := by decide +kernel
theorem dX8_sheet_72 : decode cX8_sheet 72 = .ok (.aload_n 0, 1) := by decide +kernel
theorem dX8_sheet_73 : decode cX8_sheet 73 = .ok (.getfield 59, 3) := by decide +kernel
theorem dX8_sheet_76 : decode cX8_sheet 76 = .ok (.bipush 40, 2) := by decide +kernel
theorem dX8_sheet_78 : decode cX8_sheet 78 = .ok (.iload_n 1, 1) := by decide +kernel
theorem dX8_sheet_79 : decode cX8_sheet 79 = .ok (.imul, 1) := by decide +kernel
theorem dX8_sheet_80 : decode cX8_sheet 80 = .ok (.iload 4, 2) := by decide +kernel
theorem dX8_sheet_82 : decode cX8_sheet 82 = .ok (.iadd, 1) := by decide +kernel
theorem dX8_sheet_83 : decode cX8_sheet 83 = .ok (.iconst 0, 1) := by decide +kernel
theorem dX8_sheet_84 : decode cX8_sheet 84 = .ok (.iastore, 1) := by decide +kernel
theorem dX8_sheet_85 : decode cX8_sheet 85 = .ok (.iinc 4 1, 3) := by decide +kernel
theorem dX8_sheet_88 : decode cX8_sheet 88 = .ok (.goto (-23), 3) := by decide +kernel
theorem dX8_sheet_91 : decode cX8_sheet 91 = .ok (.aload_n 0, 1) := by decide +kernel
theorem dX8_sheet_92 : decode cX8_sheet 92 = .ok (.iconst 1, 1) := by decide +kernel
theorem dX8_sheet_93 : decode cX8_sheet 93 = .ok (.invokevirtual 130, 3) := by decide +kernel
theorem dX8_sheet_96 : decode cX8_sheet 96 = .ok (.ireturn, 1) := by decide +kernel
theorem dX8_cell_0 : decode cX8_cell 0 = .ok (.iload_n 1, 1) := by decide +kernel
theorem dX8_cell_1 : decode cX8_cell 1 = .ok (.iconst 0, 1) := by decide +kernel
theorem dX8_cell_2 : decode cX8_cell 2 = .ok (.iconst 3, 1) := by decide +kernel
theorem dX8_cell_3 : decode cX8_cell 3 = .ok (.invokestatic 100, 3) := by decide +kernel
theorem dX8_cell_6 : decode cX8_cell 6 = .ok (.ifCond .eq 14, 3) := by decide +kernel
theorem dX8_cell_9 : decode cX8_cell 9 = .ok (.iload_n 3, 1) := by decide +kernel
theorem dX8_cell_10 : decode cX8_cell 10 = .ok (.bipush (-100), 2) := by decide +kernel
theorem dX8_cell_12 : decode cX8_cell 12 = .ok (.bipush 100, 2) := by decide +kernel
theorem dX8_cell_14 : decode cX8_cell 14 = .ok (.invokestatic 100, 3) := by decide +kernel
theorem dX8_cell_17 : decode cX8_cell 17 = .ok (.ifCond .ne 9, 3) := by decide +kernel
theorem dX8_cell_20 : decode cX8_cell 20 = .ok (.aload_n 0, 1) := by decide +kernel
theorem dX8_cell_21 : decode cX8_cell 21 = .ok (.iconst 1, 1) := by decide +kernel
theorem dX8_cell_22 : decode cX8_cell 22 = .ok (.invokevirtual 118, 3) := by decide +kernel
theorem dX8_cell_25 : decode cX8_cell 25 = .ok (.ireturn, 1) := by decide +kernel
theorem dX8_cell_26 : decode cX8_cell 26 = .ok (.aload_n 0, 1) := by decide +kernel
theorem dX8_cell_27 : decode cX8_cell 27 = .ok (.getfield 53, 3) := by decide +kernel
theorem dX8_cell_30 : decode cX8_cell 30 = .ok (.iload_n 1, 1) := by decide +kernel
theorem dX8_cell_31 : decode cX8_cell 31 = .ok (.iaload, 1) := by decide +kernel
theorem dX8_cell_32 : decode cX8_cell 32 = .ok (.iconst (-1), 1) := by decide +kernel
theorem dX8_cell_33 : decode cX8_cell 33 = .ok (.if_icmp .ne 10, 3) := by decide +kernel
theorem dX8_cell_36 : decode cX8_cell 36 = .ok (.aload_n 0, 1) := by decide +kernel
theorem dX8_cell_37 : decode cX8_cell 37 = .ok (.bipush 10, 2) := by decide +kernel
theorem dX8_cell_39 : decode cX8_cell 39 = .ok (.invokevirtual 118, 3) := by decide +kernel
theorem dX8_cell_42 : decode cX8_cell 42 = .ok (.ireturn, 1) := by decide +kernel
theorem dX8_cell_43 : decode cX8_cell 43 = .ok (.iload_n 2, 1) := by decide +kernel
theorem dX8_cell_44 : decode cX8_cell 44 = .ok (.iconst 0, 1) := by decide +kernel
theorem dX8_cell_45 : decode cX8_cell 45 = .ok (.aload_n 0, 1) := by decide +kernel
theorem dX8_cell_46 : decode cX8_cell 46 = .ok (.getfield 56, 3) := by decide +kernel
theorem dX8_cell_49 : decode cX8_cell 49 = .ok (.iload_n 1, 1) := by decide +kernel
theorem dX8_cell_50 : decode cX8_cell 50 = .ok (.iaload, 1) := by decide +kernel
theorem dX8_cell_51 : decode cX8_cell 51 = .ok (.iconst 1, 1) := by decide +kernel
theorem dX8_cell_52 : decode cX8_cell 52 = .ok (.isub, 1) := by decide +kernel
theorem dX8_cell_53 : decode cX8_cell 53 = .ok (.invokestatic 100, 3) := by decide +kernel
theorem dX8_cell_56 : decode cX8_cell 56 = .ok (.ifCond .ne 10, 3) := by decide +kernel
theorem dX8_cell_59 : decode cX8_cell 59 = .ok (.aload_n 0, 1) := by decide +kernel
theorem dX8_cell_60 : decode cX8_cell 60 = .ok (.bipush 12, 2) := by decide +kernel
theorem dX8_cell_62 : decode cX8_cell 62 = .ok (.invokevirtual 118, 3) := by decide +kernel
theorem dX8_cell_65 : decode cX8_cell 65 = .ok (.ireturn, 1) := by decide +kernel
theorem dX8_cell_66 : decode cX8_cell 66 = .ok (.aload_n 0, 1) := by decide +kernel
theorem dX8_cell_67 : decode cX8_cell 67 = .ok (.getfield 59, 3) := by decide +kernel
theorem dX8_cell_70 : decode cX8_cell 70 = .ok (.bipush 40, 2) := by decide +kernel
theorem dX8_cell_72 : decode cX8_cell 72 = .ok (.iload_n 1, 1) := by decide +kernel
theorem dX8_cell_73 : decode cX8_cell 73 = .ok (.imul, 1) := by decide +kernel
theorem dX8_cell_74 : decode cX8_cell 74 = .ok (.iload_n 2, 1) := by decide +kernel
theorem dX8_cell_75 : decode cX8_cell 75 = .ok (.iadd, 1) := by decide +kernel
theorem dX8_cell_76 : decode cX8_cell 76 = .ok (.iload_n 3, 1) := by decide +kernel
theorem dX8_cell_77 : decode cX8_cell 77 = .ok (.iastore, 1) := by decide +kernel
theorem dX8_cell_78 : decode cX8_cell 78 = .ok (.aload_n 0, 1) := by decide +kernel
theorem dX8_cell_79 : decode cX8_cell 79 = .ok (.iconst 1, 1) := by decide +kernel
theorem dX8_cell_80 : decode cX8_cell 80 = .ok (.invokevirtual 130, 3) := by decide +kernel
theorem dX8_cell_83 : decode cX8_cell 83 = .ok (.ireturn, 1) := by decide +kernel
theorem dX8_points_0 : decode cX8_points 0 = .ok (.iload_n 1, 1) := by decide +kernel
theorem dX8_points_1 : decode cX8_points 1 = .ok (.iconst 0, 1) := by decide +kernel
theorem dX8_points_2 : decode cX8_points 2 = .ok (.iconst 5, 1) := by decide +kernel
theorem dX8_points_3 : decode cX8_points 3 = .ok (.invokestatic 100, 3) := by decide +kernel
theorem dX8_points_6 : decode cX8_points 6 = .ok (.ifCond .eq 21, 3) := by decide +kernel
theorem dX8_points_9 : decode cX8_points 9 = .ok (.iload_n 2, 1) := by decide +kernel
theorem dX8_points_10 : decode cX8_points 10 = .ok (.iconst 0, 1) := by decide +kernel
theorem dX8_points_11 : decode cX8_points 11 = .ok (.iconst 3, 1) := by decide +kernel
theorem dX8_points_12 : decode cX8_points 12 = .ok (.invokestatic 100, 3) := by decide +kernel
theorem dX8_points_15 : decode cX8_points 15 = .ok (.ifCond .eq 12, 3) := by decide +kernel
theorem dX8_points_18 : decode cX8_points 18 = .ok (.iload_n 3, 1) := by decide +kernel
theorem dX8_points_19 : decode cX8_points 19 = .ok (.iconst 0, 1) := by decide +kernel
theorem dX8_points_20 : decode cX8_points 20 = .ok (.iconst 2, 1) := by decide +kernel
theorem dX8_points_21 : decode cX8_points 21 = .ok (.invokestatic 100, 3) := by decide +kernel
theorem dX8_points_24 : decode cX8_points 24 = .ok (.ifCond .ne 9, 3) := by decide +kernel
theorem dX8_points_27 : decode cX8_points 27 = .ok (.aload_n 0, 1) := by decide +kernel
theorem dX8_points_28 : decode cX8_points 28 = .ok (.iconst 1, 1) := by decide +kernel
theorem dX8_points_29 : decode cX8_points 29 = .ok (.invokevirtual 118, 3) := by decide +kernel
theorem dX8_points_32 : decode cX8_points 32 = .ok (.ireturn, 1) := by decide +kernel
theorem dX8_points_33 : decode cX8_points 33 = .ok (.aload_n 0, 1) := by decide +kernel
theorem dX8_points_34 : decode cX8_points 34 = .ok (.getfield 7, 3) := by decide +kernel
theorem dX8_points_37 : decode cX8_points 37 = .ok (.iload_n 1, 1) := by decide +kernel
theorem dX8_points_38 : decode cX8_points 38 = .ok (.iaload, 1) := by decide +kernel
theorem dX8_points_39 : decode cX8_points 39 = .ok (.bipush 12, 2) := by decide +kernel
theorem dX8_points_41 : decode cX8_points 41 = .ok (.if_icmp .ne 9, 3) := by decide +kernel
theorem dX8_points_44 : decode cX8_points 44 = .ok (.aload_n 0, 1) := by decide +kernel
theorem dX8_points_45 : decode cX8_points 45 = .ok (.iconst 2, 1) := by decide +kernel
theorem dX8_points_46 : decode cX8_points 46 = .ok (.invokevirtual 118, 3) := by decide +kernel
theorem dX8_points_49 : decode cX8_points 49 = .ok (.ireturn, 1) := by decide +kernel
theorem dX8_points_50 : decode cX8_points 50 = .ok (.aload_n 0, 1) := by decide +kernel
theorem dX8_points_51 : decode cX8_points 51 = .ok (.getfield 53, 3) := by decide +kernel
theorem dX8_points_54 : decode cX8_points 54 = .ok (.iload_n 2, 1) := by decide +kernel
theorem dX8_points_55 : decode cX8_points 55 = .ok (.iaload, 1) := by decide +kernel
theorem dX8_points_56 : decode cX8_points 56 = .ok (.iconst (-1), 1) := by decide +kernel
theorem dX8_points_57 : decode cX8_points 57 = .ok (.if_icmp .ne 10, 3) := by decide +kernel
theorem dX8_points_60 : decode cX8_points 60 = .ok (.aload_n 0, 1) := by decide +kernel
theorem dX8_points_61 : decode cX8_points 61 = .ok (.bipush 10, 2) := by decide +kernel
theorem dX8_points_63 : decode cX8_points 63 = .ok (.invokevirtual 118, 3) := by decide +kernel
theorem dX8_points_66 : decode cX8_points 66 = .ok (.ireturn, 1) := by decide +kernel
theorem dX8_points_67 : decode cX8_points 67 = .ok (.aload_n 0, 1) := by decide +kernel
theorem dX8_points_68 : decode cX8_points 68 = .ok (.getfield 53, 3) := by decide +kernel
theorem dX8_points_71 : decode cX8_points 71 = .ok (.iload_n 2, 1) := by decide +kernel
theorem dX8_points_72 : decode cX8_points 72 = .ok (.iaload, 1) := by decide +kernel
theorem dX8_points_73 : decode cX8_points 73 = .ok (.iload_n 3, 1) := by decide +kernel
theorem dX8_points_74 : decode cX8_points 74 = .ok (.if_icmp .eq 10, 3) := by decide +kernel
theorem dX8_points_77 : decode cX8_points 77 = .ok (.aload_n 0, 1) := by decide +kernel
theorem dX8_points_78 : decode cX8_points 78 = .ok (.bipush 11, 2) := by decide +kernel
theorem dX8_points_80 : decode cX8_points 80 = .ok (.invokevirtual 118, 3) := by decide +kernel
theorem dX8_points_83 : decode cX8_points 83 = .ok (.ireturn, 1) := by decide +kernel
theorem dX8_points_84 : decode cX8_points 84 = .ok (.iload 4, 2) := by decide +kernel
theorem dX8_points_86 : decode cX8_points 86 = .ok (.ifCond .lt 16, 3) := by decide +kernel
theorem dX8_points_89 : decode cX8_points 89 = .ok (.iload 4, 2) := by decide +kernel
theorem dX8_points_91 : decode cX8_points 91 = .ok (.aload_n 0, 1) := by decide +kernel
theorem dX8_points_92 : decode cX8_points 92 = .ok (.getfield 56, 3) := by decide +kernel
theorem dX8_points_95 : decode cX8_points 95 = .ok (.iload_n 2, 1) := by decide +kernel
theorem dX8_points_96 : decode cX8_points 96 = .ok (.iaload, 1) := by decide +kernel
theorem dX8_points_97 : decode cX8_points 97 = .ok (.iconst 3, 1) := by decide +kernel
theorem dX8_points_98 : decode cX8_points 98 = .ok (.isub, 1) := by decide +kernel
theorem dX8_points_99 : decode cX8_points 99 = .ok (.if_icmp .le 10, 3) := by decide +kernel
theorem dX8_points_102 : decode cX8_points 102 = .ok (.aload_n 0, 1) := by decide +kernel
theorem dX8_points_103 : decode cX8_points 103 = .ok (.bipush 12, 2) := by decide +kernel
theorem dX8_points_105 : decode cX8_points 105 = .ok (.invokevirtual 118, 3) := by decide +kernel
theorem dX8_points_108 : decode cX8_points 108 = .ok (.ireturn, 1) := by decide +kernel
theorem dX8_points_109 : decode cX8_points 109 = .ok (.bipush 40, 2) := by decide +kernel
theorem dX8_points_111 : decode cX8_points 111 = .ok (.iload_n 2, 1) := by decide +kernel
theorem dX8_points_112 : decode cX8_points 112 = .ok (.imul, 1) := by decide +kernel
theorem dX8_points_113 : decode cX8_points 113 = .ok (.iload 4, 2) := by decide +kernel
theorem dX8_points_115 : decode cX8_points 115 = .ok (.iadd, 1) := by decide +kernel
theorem dX8_points_116 : decode cX8_points 116 = .ok (.istore 5, 2) := by decide +kernel
theorem dX8_points_118 : decode cX8_points 118 = .ok (.aload_n 0, 1) := by decide +kernel
theorem dX8_points_119 : decode cX8_points 119 = .ok (.getfield 59, 3) := by decide +kernel
theorem dX8_points_122 : decode cX8_points 122 = .ok (.iload 5, 2) := by decide +kernel
theorem dX8_points_124 : decode cX8_points 124 = .ok (.iaload, 1) := by decide +kernel
theorem dX8_points_125 : decode cX8_points 125 = .ok (.aload_n 0, 1) := by decide +kernel
theorem dX8_points_126 : decode cX8_points 126 = .ok (.getfield 59, 3) := by decide +kernel
theorem dX8_points_129 : decode cX8_points 129 = .ok (.iload 5, 2) := by decide +kernel
theorem dX8_points_131 : decode cX8_points 131 = .ok (.iconst 1, 1) := by decide +kernel
theorem dX8_points_132 : decode cX8_points 132 = .ok (.iadd, 1) := by decide +kernel
theorem dX8_points_133 : decode cX8_points 133 = .ok (.iaload, 1) := by decide +kernel
theorem dX8_points_134 : decode cX8_points 134 = .ok (.aload_n 0, 1) := by decide +kernel
theorem dX8_points_135 : decode cX8_points 135 = .ok (.getfield 59, 3) := by decide +kernel
theorem dX8_points_138 : decode cX8_points 138 = .ok (.iload 5, 2) := by decide +kernel
theorem dX8_points_140 : decode cX8_points 140 = .ok (.iconst 2, 1) := by decide +kernel
theorem dX8_points_141 : decode cX8_points 141 = .ok (.iadd, 1) := by decide +kernel
theorem dX8_points_142 : decode cX8_points 142 = .ok (.iaload, 1) := by decide +kernel
theorem dX8_points_143 : decode cX8_points 143 = .ok (.invokestatic 115, 3) := by decide +kernel
theorem dX8_points_146 : decode cX8_points 146 = .ok (.ifCond .eq 22, 3) := by decide +kernel
theorem dX8_points_149 : decode cX8_points 149 = .ok (.aload_n 0, 1) := by decide +kernel
theorem dX8_points_150 : decode cX8_points 150 = .ok (.iload_n 1, 1) := by decide +kernel
theorem dX8_points_151 : decode cX8_points 151 = .ok (.aload_n 0, 1) := by decide +kernel
theorem dX8_points_152 : decode cX8_points 152 = .ok (.getfield 59, 3) := by decide +kernel
theorem dX8_points_155 : decode cX8_points 155 = .ok (.iload 5, 2) := by decide +kernel
theorem dX8_points_157 : decode cX8_points 157 = .ok (.iaload, 1) := by decide +kernel
theorem dX8_points_158 : decode cX8_points 158 = .ok (.invokevirtual 122, 3) := by decide +kernel
theorem dX8_points_161 : decode cX8_points 161 = .ok (.ifCond .ne 7, 3) := by decide +kernel
theorem dX8_points_164 : decode cX8_points 164 = .ok (.iconst 1, 1) := by decide +kernel
theorem dX8_points_165 : decode cX8_points 165 = .ok (.goto 4, 3) := by decide +kernel
theorem dX8_points_168 : decode cX8_points 168 = .ok (.iconst 0, 1) := by decide +kernel
theorem dX8_points_169 : decode cX8_points 169 = .ok (.istore 6, 2) := by decide +kernel
theorem dX8_points_171 : decode cX8_points 171 = .ok (.iload 6, 2) := by decide +kernel
theorem dX8_points_173 : decode cX8_points 173 = .ok (.ifCond .eq 36, 3) := by decide +kernel
theorem dX8_points_176 : decode cX8_points 176 = .ok (.aload_n 0, 1) := by decide +kernel
theorem dX8_points_177 : decode cX8_points 177 = .ok (.iload_n 1, 1) := by decide +kernel
theorem dX8_points_178 : decode cX8_points 178 = .ok (.aload_n 0, 1) := by decide +kernel
theorem dX8_points_179 : decode cX8_points 179 = .ok (.getfield 59, 3) := by decide +kernel
theorem dX8_points_182 : decode cX8_points 182 = .ok (.iload 5, 2) := by decide +kernel
theorem dX8_points_184 : decode cX8_points 184 = .ok (.iaload, 1) := by decide +kernel
theorem dX8_points_185 : decode cX8_points 185 = .ok (.aload_n 0, 1) := by decide +kernel
theorem dX8_points_186 : decode cX8_points 186 = .ok (.getfield 59, 3) := by decide +kernel
theorem dX8_points_189 : decode cX8_points 189 = .ok (.iload 5, 2) := by decide +kernel
theorem dX8_points_191 : decode cX8_points 191 = .ok (.iconst 1, 1) := by decide +kernel
theorem dX8_points_192 : decode cX8_points 192 = .ok (.iadd, 1) := by decide +kernel
theorem dX8_points_193 : decode cX8_points 193 = .ok (.iaload, 1) := by decide +kernel
theorem dX8_points_194 : decode cX8_points 194 = .ok (.aload_n 0, 1) := by decide +kernel
theorem dX8_points_195 : decode cX8_points 195 = .ok (.getfield 59, 3) := by decide +kernel
theorem dX8_points_198 : decode cX8_points 198 = .ok (.iload 5, 2) := by decide +kernel
theorem dX8_points_200 : decode cX8_points 200 = .ok (.iconst 2, 1) := by decide +kernel
theorem dX8_points_201 : decode cX8_points 201 = .ok (.iadd, 1) := by decide +kernel
theorem dX8_points_202 : decode cX8_points 202 = .ok (.iaload, 1) := by decide +kernel
theorem dX8_points_203 : decode cX8_points 203 = .ok (.invokevirtual 126, 3) := by decide +kernel
theorem dX8_points_206 : decode cX8_points 206 = .ok (.goto 8, 3) := by decide +kernel
theorem dX8_points_209 : decode cX8_points 209 = .ok (.aload_n 0, 1) := by decide +kernel
theorem dX8_points_210 : decode cX8_points 210 = .ok (.iconst 3, 1) := by decide +kernel
theorem dX8_points_211 : decode cX8_points 211 = .ok (.invokevirtual 118, 3) := by decide +kernel
theorem dX8_points_214 : decode cX8_points 214 = .ok (.ireturn, 1) := by decide +kernel
theorem dX8_modulo_0 : decode cX8_modulo 0 = .ok (.iload_n 0, 1) := by decide +kernel
theorem dX8_modulo_1 : decode cX8_modulo 1 = .ok (.iload_n 1, 1) := by decide +kernel
theorem dX8_modulo_2 : decode cX8_modulo 2 = .ok (.irem, 1) := by decide +kernel
theorem dX8_modulo_3 : decode cX8_modulo 3 = .ok (.iload_n 1, 1) := by decide +kernel
theorem dX8_modulo_4 : decode cX8_modulo 4 = .ok (.iadd, 1) := by decide +kernel
theorem dX8_modulo_5 : decode cX8_modulo 5 = .ok (.iload_n 1, 1) := by decide +kernel
theorem dX8_modulo_6 : decode cX8_modulo 6 = .ok (.irem, 1) := by decide +kernel
theorem dX8_modulo_7 : decode cX8_modulo 7 = .ok (.ireturn, 1) := by decide +kernel
theorem dX8_fitTaken_0 : decode cX8_fitTaken 0 = .ok (.aload_n 0, 1) := by decide +kernel
theorem dX8_fitTaken_1 : decode cX8_fitTaken 1 = .ok (.iload_n 1, 1) := by decide +kernel
theorem dX8_fitTaken_2 : decode cX8_fitTaken 2 = .ok (.invokevirtual 185, 3) := by decide +kernel
theorem dX8_fitTaken_5 : decode cX8_fitTaken 5 = .ok (.ifCond .ne 10, 3) := by decide +kernel
theorem dX8_fitTaken_8 : decode cX8_fitTaken 8 = .ok (.aload_n 0, 1) := by decide +kernel
theorem dX8_fitTaken_9 : decode cX8_fitTaken 9 = .ok (.bipush 10, 2) := by decide +kernel
theorem dX8_fitTaken_11 : decode cX8_fitTaken 11 = .ok (.invokevirtual 118, 3) := by decide +kernel
theorem dX8_fitTaken_14 : decode cX8_fitTaken 14 = .ok (.ireturn, 1) := by decide +kernel
theorem dX8_fitTaken_15 : decode cX8_fitTaken 15 = .ok (.iload_n 2, 1) := by decide +kernel
theorem dX8_fitTaken_16 : decode cX8_fitTaken 16 = .ok (.ifCond .eq 26, 3) := by decide +kernel
theorem dX8_fitTaken_19 : decode cX8_fitTaken 19 = .ok (.iload_n 2, 1) := by decide +kernel
theorem dX8_fitTaken_20 : decode cX8_fitTaken 20 = .ok (.aload_n 0, 1) := by decide +kernel
theorem dX8_fitTaken_21 : decode cX8_fitTaken 21 = .ok (.getfield 22, 3) := by decide +kernel
theorem dX8_fitTaken_24 : decode cX8_fitTaken 24 = .ok (.iload_n 1, 1) := by decide +kernel
theorem dX8_fitTaken_25 : decode cX8_fitTaken 25 = .ok (.iaload, 1) := by decide +kernel
theorem dX8_fitTaken_26 : decode cX8_fitTaken 26 = .ok (.if_icmp .eq 16, 3) := by decide +kernel
theorem dX8_fitTaken_29 : decode cX8_fitTaken 29 = .ok (.iload_n 2, 1) := by decide +kernel
theorem dX8_fitTaken_30 : decode cX8_fitTaken 30 = .ok (.iconst 1, 1) := by decide +kernel
theorem dX8_fitTaken_31 : decode cX8_fitTaken 31 = .ok (.if_icmp .ne 24, 3) := by decide +kernel
theorem dX8_fitTaken_34 : decode cX8_fitTaken 34 = .ok (.aload_n 0, 1) := by decide +kernel
theorem dX8_fitTaken_35 : decode cX8_fitTaken 35 = .ok (.iload_n 1, 1) := by decide +kernel
theorem dX8_fitTaken_36 : decode cX8_fitTaken 36 = .ok (.invokevirtual 267, 3) := by decide +kernel
theorem dX8_fitTaken_39 : decode cX8_fitTaken 39 = .ok (.ifCond .eq 16, 3) := by decide +kernel
theorem dX8_fitTaken_42 : decode cX8_fitTaken 42 = .ok (.aload_n 0, 1) := by decide +kernel
theorem dX8_fitTaken_43 : decode cX8_fitTaken 43 = .ok (.aload_n 0, 1) := by decide +kernel
theorem dX8_fitTaken_44 : decode cX8_fitTaken 44 = .ok (.getfield 22, 3) := by decide +kernel
theorem dX8_fitTaken_47 : decode cX8_fitTaken 47 = .ok (.iload_n 1, 1) := by decide +kernel
theorem dX8_fitTaken_48 : decode cX8_fitTaken 48 = .ok (.iaload, 1) := by decide +kernel
theorem dX8_fitTaken_49 : decode cX8_fitTaken 49 = .ok (.invokevirtual 130, 3) := by decide +kernel
theorem dX8_fitTaken_52 : decode cX8_fitTaken 52 = .ok (.goto 9, 3) := by decide +kernel
theorem dX8_fitTaken_55 : decode cX8_fitTaken 55 = .ok (.aload_n 0, 1) := by decide +kernel
theorem dX8_fitTaken_56 : decode cX8_fitTaken 56 = .ok (.bipush 11, 2) := by decide +kernel
theorem dX8_fitTaken_58 : decode cX8_fitTaken 58 = .ok (.invokevirtual 118, 3) := by decide +kernel
theorem dX8_fitTaken_61 : decode cX8_fitTaken 61 = .ok (.ireturn, 1) := by decide +kernel
theorem dX8_copied_0 : decode cX8_copied 0 = .ok (.iconst 0, 1) := by decide +kernel
theorem dX8_copied_1 : decode cX8_copied 1 = .ok (.istore_n 3, 1) := by decide +kernel
theorem dX8_copied_2 : decode cX8_copied 2 = .ok (.iconst 1, 1) := by decide +kernel
theorem dX8_copied_3 : decode cX8_copied 3 = .ok (.istore 4, 2) := by decide +kernel
theorem dX8_copied_5 : decode cX8_copied 5 = .ok (.iload 4, 2) := by decide +kernel
theorem dX8_copied_7 : decode cX8_copied 7 = .ok (.iload_n 2, 1) := by decide +kernel
theorem dX8_copied_8 : decode cX8_copied 8 = .ok (.if_icmp .gt 24, 3) := by decide +kernel
theorem dX8_copied_11 : decode cX8_copied 11 = .ok (.iload_n 3, 1) := by decide +kernel
theorem dX8_copied_12 : decode cX8_copied 12 = .ok (.aload_n 0, 1) := by decide +kernel
theorem dX8_copied_13 : decode cX8_copied 13 = .ok (.getfield 59, 3) := by decide +kernel
theorem dX8_copied_16 : decode cX8_copied 16 = .ok (.bipush 40, 2) := by decide +kernel
theorem dX8_copied_18 : decode cX8_copied 18 = .ok (.iload_n 1, 1) := by decide +kernel
theorem dX8_copied_19 : decode cX8_copied 19 = .ok (.imul, 1) := by decide +kernel
theorem dX8_copied_20 : decode cX8_copied 20 = .ok (.iload 4, 2) := by decide +kernel
theorem dX8_copied_22 : decode cX8_copied 22 = .ok (.iadd, 1) := by decide +kernel
theorem dX8_copied_23 : decode cX8_copied 23 = .ok (.iaload, 1) := by decide +kernel
theorem dX8_copied_24 : decode cX8_copied 24 = .ok (.iadd, 1) := by decide +kernel
theorem dX8_copied_25 : decode cX8_copied 25 = .ok (.istore_n 3, 1) := by decide +kernel
theorem dX8_copied_26 : decode cX8_copied 26 = .ok (.iinc 4 1, 3) := by decide +kernel
theorem dX8_copied_29 : decode cX8_copied 29 = .ok (.goto (-24), 3) := by decide +kernel
theorem dX8_copied_32 : decode cX8_copied 32 = .ok (.iload_n 3, 1) := by decide +kernel
theorem dX8_copied_33 : decode cX8_copied 33 = .ok (.ireturn, 1) := by decide +kernel
theorem dX8_forge_0 : decode cX8_forge 0 = .ok (.iload_n 1, 1) := by decide +kernel
theorem dX8_forge_1 : decode cX8_forge 1 = .ok (.iconst 0, 1) := by decide +kernel
theorem dX8_forge_2 : decode cX8_forge 2 = .ok (.bipush 6, 2) := by decide +kernel
theorem dX8_forge_4 : decode cX8_forge 4 = .ok (.invokestatic 100, 3) := by decide +kernel
theorem dX8_forge_7 : decode cX8_forge 7 = .ok (.ifCond .eq 25, 3) := by decide +kernel
theorem dX8_forge_10 : decode cX8_forge 10 = .ok (.iload_n 2, 1) := by decide +kernel
theorem dX8_forge_11 : decode cX8_forge 11 = .ok (.bipush (-100), 2) := by decide +kernel
theorem dX8_forge_13 : decode cX8_forge 13 = .ok (.bipush 100, 2) := by decide +kernel
theorem dX8_forge_15 : decode cX8_forge 15 = .ok (.invokestatic 100, 3) := by decide +kernel
theorem dX8_forge_18 : decode cX8_forge 18 = .ok (.ifCond .eq 14, 3) := by decide +kernel
theorem dX8_forge_21 : decode cX8_forge 21 = .ok (.iload_n 3, 1) := by decide +kernel
theorem dX8_forge_22 : decode cX8_forge 22 = .ok (.bipush (-100), 2) := by decide +kernel
theorem dX8_forge_24 : decode cX8_forge 24 = .ok (.bipush 100, 2) := by decide +kernel
theorem dX8_forge_26 : decode cX8_forge 26 = .ok (.invokestatic 100, 3) := by decide +kernel
theorem dX8_forge_29 : decode cX8_forge 29 = .ok (.ifCond .ne 9, 3) := by decide +kernel
theorem dX8_forge_32 : decode cX8_forge 32 = .ok (.aload_n 0, 1) := by decide +kernel
theorem dX8_forge_33 : decode cX8_forge 33 = .ok (.iconst 1, 1) := by decide +kernel
theorem dX8_forge_34 : decode cX8_forge 34 = .ok (.invokevirtual 118, 3) := by decide +kernel
theorem dX8_forge_37 : decode cX8_forge 37 = .ok (.ireturn, 1) := by decide +kernel
theorem dX8_forge_38 : decode cX8_forge 38 = .ok (.iload_n 3, 1) := by decide +kernel
theorem dX8_forge_39 : decode cX8_forge 39 = .ok (.bipush 10, 2) := by decide +kernel
theorem dX8_forge_41 : decode cX8_forge 41 = .ok (.invokestatic 291, 3) := by decide +kernel
theorem dX8_forge_44 : decode cX8_forge 44 = .ok (.istore 4, 2) := by decide +kernel
theorem dX8_forge_46 : decode cX8_forge 46 = .ok (.iload_n 3, 1) := by decide +kernel
theorem dX8_forge_47 : decode cX8_forge 47 = .ok (.iconst 4, 1) := by decide +kernel
theorem dX8_forge_48 : decode cX8_forge 48 = .ok (.invokestatic 291, 3) := by decide +kernel
theorem dX8_forge_51 : decode cX8_forge 51 = .ok (.istore 5, 2) := by decide +kernel
theorem dX8_forge_53 : decode cX8_forge 53 = .ok (.iload_n 1, 1) := by decide +kernel
theorem dX8_forge_54 : decode cX8_forge 54 = .ok (.tableswitch 304 0 5 #[38, 50, 69, 152, 234, 281], 38) := by decide +kernel
theorem dX8_forge_92 : decode cX8_forge 92 = .ok (.aload_n 0, 1) := by decide +kernel
theorem dX8_forge_93 : decode cX8_forge 93 = .ok (.iload 4, 2) := by decide +kernel
theorem dX8_forge_95 : decode cX8_forge 95 = .ok (.iload_n 2, 1) := by decide +kernel
theorem dX8_forge_96 : decode cX8_forge 96 = .ok (.iconst 5, 1) := by decide +kernel
theorem dX8_forge_97 : decode cX8_forge 97 = .ok (.invokestatic 291, 3) := by decide +kernel
theorem dX8_forge_100 : decode cX8_forge 100 = .ok (.invokevirtual 294, 3) := by decide +kernel
theorem dX8_forge_103 : decode cX8_forge 103 = .ok (.ireturn, 1) := by decide +kernel
theorem dX8_forge_104 : decode cX8_forge 104 = .ok (.iload_n 2, 1) := by decide +kernel
theorem dX8_forge_105 : decode cX8_forge 105 = .ok (.ifCond .ge 12, 3) := by decide +kernel
theorem dX8_forge_108 : decode cX8_forge 108 = .ok (.aload_n 0, 1) := by decide +kernel
theorem dX8_forge_109 : decode cX8_forge 109 = .ok (.bipush 13, 2) := by decide +kernel
theorem dX8_forge_111 : decode cX8_forge 111 = .ok (.invokevirtual 118, 3) := by decide +kernel
theorem dX8_forge_114 : decode cX8_forge 114 = .ok (.goto 8, 3) := by decide +kernel
theorem dX8_forge_117 : decode cX8_forge 117 = .ok (.aload_n 0, 1) := by decide +kernel
theorem dX8_forge_118 : decode cX8_forge 118 = .ok (.iload_n 2, 1) := by decide +kernel
theorem dX8_forge_119 : decode cX8_forge 119 = .ok (.invokevirtual 130, 3) := by decide +kernel
theorem dX8_forge_122 : decode cX8_forge 122 = .ok (.ireturn, 1) := by decide +kernel
theorem dX8_forge_123 : decode cX8_forge 123 = .ok (.aload_n 0, 1) := by decide +kernel
theorem dX8_forge_124 : decode cX8_forge 124 = .ok (.getfield 53, 3) := by decide +kernel
theorem dX8_forge_127 : decode cX8_forge 127 = .ok (.iload 5, 2) := by decide +kernel
theorem dX8_forge_129 : decode cX8_forge 129 = .ok (.iaload, 1) := by decide +kernel
theorem dX8_forge_130 : decode cX8_forge 130 = .ok (.iconst (-1), 1) := by decide +kernel
theorem dX8_forge_131 : decode cX8_forge 131 = .ok (.if_icmp .ne 12, 3) := by decide +kernel
theorem dX8_forge_134 : decode cX8_forge 134 = .ok (.aload_n 0, 1) := by decide +kernel
theorem dX8_forge_135 : decode cX8_forge 135 = .ok (.bipush 10, 2) := by decide +kernel
theorem dX8_forge_137 : decode cX8_forge 137 = .ok (.invokevirtual 118, 3) := by decide +kernel
theorem dX8_forge_140 : decode cX8_forge 140 = .ok (.goto 65, 3) := by decide +kernel
theorem dX8_forge_143 : decode cX8_forge 143 = .ok (.aload_n 0, 1) := by decide +kernel
theorem dX8_forge_144 : decode cX8_forge 144 = .ok (.getfield 53, 3) := by decide +kernel
theorem dX8_forge_147 : decode cX8_forge 147 = .ok (.iload 5, 2) := by decide +kernel
theorem dX8_forge_149 : decode cX8_forge 149 = .ok (.iaload, 1) := by decide +kernel
theorem dX8_forge_150 : decode cX8_forge 150 = .ok (.iconst 1, 1) := by decide +kernel
theorem dX8_forge_151 : decode cX8_forge 151 = .ok (.if_icmp .eq 12, 3) := by decide +kernel
theorem dX8_forge_154 : decode cX8_forge 154 = .ok (.aload_n 0, 1) := by decide +kernel
theorem dX8_forge_155 : decode cX8_forge 155 = .ok (.bipush 11, 2) := by decide +kernel
theorem dX8_forge_157 : decode cX8_forge 157 = .ok (.invokevirtual 118, 3) := by decide +kernel
theorem dX8_forge_160 : decode cX8_forge 160 = .ok (.goto 45, 3) := by decide +kernel
theorem dX8_forge_163 : decode cX8_forge 163 = .ok (.iload_n 2, 1) := by decide +kernel
theorem dX8_forge_164 : decode cX8_forge 164 = .ok (.iconst 0, 1) := by decide +kernel
theorem dX8_forge_165 : decode cX8_forge 165 = .ok (.aload_n 0, 1) := by decide +kernel
theorem dX8_forge_166 : decode cX8_forge 166 = .ok (.getfield 56, 3) := by decide +kernel
theorem dX8_forge_169 : decode cX8_forge 169 = .ok (.iload 5, 2) := by decide +kernel
theorem dX8_forge_171 : decode cX8_forge 171 = .ok (.iaload, 1) := by decide +kernel
theorem dX8_forge_172 : decode cX8_forge 172 = .ok (.iconst 1, 1) := by decide +kernel
theorem dX8_forge_173 : decode cX8_forge 173 = .ok (.isub, 1) := by decide +kernel
theorem dX8_forge_174 : decode cX8_forge 174 = .ok (.invokestatic 100, 3) := by decide +kernel
theorem dX8_forge_177 : decode cX8_forge 177 = .ok (.ifCond .eq 22, 3) := by decide +kernel
theorem dX8_forge_180 : decode cX8_forge 180 = .ok (.aload_n 0, 1) := by decide +kernel
theorem dX8_forge_181 : decode cX8_forge 181 = .ok (.aload_n 0, 1) := by decide +kernel
theorem dX8_forge_182 : decode cX8_forge 182 = .ok (.getfield 59, 3) := by decide +kernel
theorem dX8_forge_185 : decode cX8_forge 185 = .ok (.bipush 40, 2) := by decide +kernel
theorem dX8_forge_187 : decode cX8_forge 187 = .ok (.iload 5, 2) := by decide +kernel
theorem dX8_forge_189 : decode cX8_forge 189 = .ok (.imul, 1) := by decide +kernel
theorem dX8_forge_190 : decode cX8_forge 190 = .ok (.iload_n 2, 1) := by decide +kernel
theorem dX8_forge_191 : decode cX8_forge 191 = .ok (.iadd, 1) := by decide +kernel
theorem dX8_forge_192 : decode cX8_forge 192 = .ok (.iaload, 1) := by decide +kernel
theorem dX8_forge_193 : decode cX8_forge 193 = .ok (.invokevirtual 130, 3) := by decide +kernel
theorem dX8_forge_196 : decode cX8_forge 196 = .ok (.goto 9, 3) := by decide +kernel
theorem dX8_forge_199 : decode cX8_forge 199 = .ok (.aload_n 0, 1) := by decide +kernel
theorem dX8_forge_200 : decode cX8_forge 200 = .ok (.bipush 12, 2) := by decide +kernel
theorem dX8_forge_202 : decode cX8_forge 202 = .ok (.invokevirtual 118, 3) := by decide +kernel
theorem dX8_forge_205 : decode cX8_forge 205 = .ok (.ireturn, 1) := by decide +kernel
theorem dX8_forge_206 : decode cX8_forge 206 = .ok (.aload_n 0, 1) := by decide +kernel
theorem dX8_forge_207 : decode cX8_forge 207 = .ok (.getfield 53, 3) := by decide +kernel
theorem dX8_forge_210 : decode cX8_forge 210 = .ok (.iload 5, 2) := by decide +kernel
theorem dX8_forge_212 : decode cX8_forge 212 = .ok (.iaload, 1) := by decide +kernel
theorem dX8_forge_213 : decode cX8_forge 213 = .ok (.iconst (-1), 1) := by decide +kernel
theorem dX8_forge_214 : decode cX8_forge 214 = .ok (.if_icmp .ne 12, 3) := by decide +kernel
theorem dX8_forge_217 : decode cX8_forge 217 = .ok (.aload_n 0, 1) := by decide +kernel
theorem dX8_forge_218 : decode cX8_forge 218 = .ok (.bipush 10, 2) := by decide +kernel
theorem dX8_forge_220 : decode cX8_forge 220 = .ok (.invokevirtual 118, 3) := by decide +kernel
theorem dX8_forge_223 : decode cX8_forge 223 = .ok (.goto 64, 3) := by decide +kernel
theorem dX8_forge_226 : decode cX8_forge 226 = .ok (.aload_n 0, 1) := by decide +kernel
theorem dX8_forge_227 : decode cX8_forge 227 = .ok (.getfield 53, 3) := by decide +kernel
theorem dX8_forge_230 : decode cX8_forge 230 = .ok (.iload 5, 2) := by decide +kernel
theorem dX8_forge_232 : decode cX8_forge 232 = .ok (.iaload, 1) := by decide +kernel
theorem dX8_forge_233 : decode cX8_forge 233 = .ok (.ifCond .eq 12, 3) := by decide +kernel
theorem dX8_forge_236 : decode cX8_forge 236 = .ok (.aload_n 0, 1) := by decide +kernel
theorem dX8_forge_237 : decode cX8_forge 237 = .ok (.bipush 11, 2) := by decide +kernel
theorem dX8_forge_239 : decode cX8_forge 239 = .ok (.invokevirtual 118, 3) := by decide +kernel
theorem dX8_forge_242 : decode cX8_forge 242 = .ok (.goto 45, 3) := by decide +kernel
theorem dX8_forge_245 : decode cX8_forge 245 = .ok (.iload_n 2, 1) := by decide +kernel
theorem dX8_forge_246 : decode cX8_forge 246 = .ok (.iconst 0, 1) := by decide +kernel
theorem dX8_forge_247 : decode cX8_forge 247 = .ok (.iconst 3, 1) := by decide +kernel
theorem dX8_forge_248 : decode cX8_forge 248 = .ok (.invokestatic 100, 3) := by decide +kernel
theorem dX8_forge_251 : decode cX8_forge 251 = .ok (.ifCond .eq 30, 3) := by decide +kernel
theorem dX8_forge_254 : decode cX8_forge 254 = .ok (.iconst 1, 1) := by decide +kernel
theorem dX8_forge_255 : decode cX8_forge 255 = .ok (.iload_n 2, 1) := by decide +kernel
theorem dX8_forge_256 : decode cX8_forge 256 = .ok (.iadd, 1) := by decide +kernel
theorem dX8_forge_257 : decode cX8_forge 257 = .ok (.aload_n 0, 1) := by decide +kernel
theorem dX8_forge_258 : decode cX8_forge 258 = .ok (.getfield 56, 3) := by decide +kernel
theorem dX8_forge_261 : decode cX8_forge 261 = .ok (.iload 5, 2) := by decide +kernel
theorem dX8_forge_263 : decode cX8_forge 263 = .ok (.iaload, 1) := by decide +kernel
theorem dX8_forge_264 : decode cX8_forge 264 = .ok (.if_icmp .gt 17, 3) := by decide +kernel
theorem dX8_forge_267 : decode cX8_forge 267 = .ok (.aload_n 0, 1) := by decide +kernel
theorem dX8_forge_268 : decode cX8_forge 268 = .ok (.aload_n 0, 1) := by decide +kernel
theorem dX8_forge_269 : decode cX8_forge 269 = .ok (.iload 5, 2) := by decide +kernel
theorem dX8_forge_271 : decode cX8_forge 271 = .ok (.iload_n 2, 1) := by decide +kernel
theorem dX8_forge_272 : decode cX8_forge 272 = .ok (.invokevirtual 297, 3) := by decide +kernel
theorem dX8_forge_275 : decode cX8_forge 275 = .ok (.invokevirtual 130, 3) := by decide +kernel
theorem dX8_forge_278 : decode cX8_forge 278 = .ok (.goto 9, 3) := by decide +kernel
theorem dX8_forge_281 : decode cX8_forge 281 = .ok (.aload_n 0, 1) := by decide +kernel
theorem dX8_forge_282 : decode cX8_forge 282 = .ok (.bipush 12, 2) := by decide +kernel
theorem dX8_forge_284 : decode cX8_forge 284 = .ok (.invokevirtual 118, 3) := by decide +kernel
theorem dX8_forge_287 : decode cX8_forge 287 = .ok (.ireturn, 1) := by decide +kernel
theorem dX8_forge_288 : decode cX8_forge 288 = .ok (.aload_n 0, 1) := by decide +kernel
theorem dX8_forge_289 : decode cX8_forge 289 = .ok (.iload 4, 2) := by decide +kernel
theorem dX8_forge_291 : decode cX8_forge 291 = .ok (.invokevirtual 185, 3) := by decide +kernel
theorem dX8_forge_294 : decode cX8_forge 294 = .ok (.ifCond .ne 11, 3) := by decide +kernel
theorem dX8_forge_297 : decode cX8_forge 297 = .ok (.aload_n 0, 1) := by decide +kernel
theorem dX8_forge_298 : decode cX8_forge 298 = .ok (.iconst 0, 1) := by decide +kernel
theorem dX8_forge_299 : decode cX8_forge 299 = .ok (.invokevirtual 130, 3) := by decide +kernel
theorem dX8_forge_302 : decode cX8_forge 302 = .ok (.goto 32, 3) := by decide +kernel
theorem dX8_forge_305 : decode cX8_forge 305 = .ok (.aload_n 0, 1) := by decide +kernel
theorem dX8_forge_306 : decode cX8_forge 306 = .ok (.iload 4, 2) := by decide +kernel
theorem dX8_forge_308 : decode cX8_forge 308 = .ok (.invokevirtual 267, 3) := by decide +kernel
theorem dX8_forge_311 : decode cX8_forge 311 = .ok (.ifCond .eq 17, 3) := by decide +kernel
theorem dX8_forge_314 : decode cX8_forge 314 = .ok (.aload_n 0, 1) := by decide +kernel
theorem dX8_forge_315 : decode cX8_forge 315 = .ok (.aload_n 0, 1) := by decide +kernel
theorem dX8_forge_316 : decode cX8_forge 316 = .ok (.getfield 22, 3) := by decide +kernel
theorem dX8_forge_319 : decode cX8_forge 319 = .ok (.iload 4, 2) := by decide +kernel
theorem dX8_forge_321 : decode cX8_forge 321 = .ok (.iaload, 1) := by decide +kernel
theorem dX8_forge_322 : decode cX8_forge 322 = .ok (.invokevirtual 130, 3) := by decide +kernel
theorem dX8_forge_325 : decode cX8_forge 325 = .ok (.goto 9, 3) := by decide +kernel
theorem dX8_forge_328 : decode cX8_forge 328 = .ok (.aload_n 0, 1) := by decide +kernel
theorem dX8_forge_329 : decode cX8_forge 329 = .ok (.bipush 14, 2) := by decide +kernel
theorem dX8_forge_331 : decode cX8_forge 331 = .ok (.invokevirtual 118, 3) := by decide +kernel
theorem dX8_forge_334 : decode cX8_forge 334 = .ok (.ireturn, 1) := by decide +kernel
theorem dX8_forge_335 : decode cX8_forge 335 = .ok (.iload_n 2, 1) := by decide +kernel
theorem dX8_forge_336 : decode cX8_forge 336 = .ok (.ifCond .ne 12, 3) := by decide +kernel
theorem dX8_forge_339 : decode cX8_forge 339 = .ok (.aload_n 0, 1) := by decide +kernel
theorem dX8_forge_340 : decode cX8_forge 340 = .ok (.bipush 15, 2) := by decide +kernel
theorem dX8_forge_342 : decode cX8_forge 342 = .ok (.invokevirtual 118, 3) := by decide +kernel
theorem dX8_forge_345 : decode cX8_forge 345 = .ok (.goto 12, 3) := by decide +kernel
theorem dX8_forge_348 : decode cX8_forge 348 = .ok (.aload_n 0, 1) := by decide +kernel
theorem dX8_forge_349 : decode cX8_forge 349 = .ok (.sipush 1000, 3) := by decide +kernel
theorem dX8_forge_352 : decode cX8_forge 352 = .ok (.iload_n 2, 1) := by decide +kernel
theorem dX8_forge_353 : decode cX8_forge 353 = .ok (.idiv, 1) := by decide +kernel
theorem dX8_forge_354 : decode cX8_forge 354 = .ok (.invokevirtual 130, 3) := by decide +kernel
theorem dX8_forge_357 : decode cX8_forge 357 = .ok (.ireturn, 1) := by decide +kernel
theorem dX8_forge_358 : decode cX8_forge 358 = .ok (.iload_n 2, 1) := by decide +kernel
theorem dX8_forge_359 : decode cX8_forge 359 = .ok (.iconst 1, 1) := by decide +kernel
theorem dX8_forge_360 : decode cX8_forge 360 = .ok (.iand, 1) := by decide +kernel
theorem dX8_forge_361 : decode cX8_forge 361 = .ok (.ifCond .ne 12, 3) := by decide +kernel
theorem dX8_forge_364 : decode cX8_forge 364 = .ok (.aload_n 0, 1) := by decide +kernel
theorem dX8_forge_365 : decode cX8_forge 365 = .ok (.bipush 10, 2) := by decide +kernel
theorem dX8_forge_367 : decode cX8_forge 367 = .ok (.invokevirtual 118, 3) := by decide +kernel
theorem dX8_forge_370 : decode cX8_forge 370 = .ok (.goto 8, 3) := by decide +kernel
theorem dX8_forge_373 : decode cX8_forge 373 = .ok (.aload_n 0, 1) := by decide +kernel
theorem dX8_forge_374 : decode cX8_forge 374 = .ok (.iconst 1, 1) := by decide +kernel
theorem dX8_forge_375 : decode cX8_forge 375 = .ok (.invokevirtual 130, 3) := by decide +kernel
theorem dX8_forge_378 : decode cX8_forge 378 = .ok (.ireturn, 1) := by decide +kernel
theorem dX8_status_0 : decode cX8_status 0 = .ok (.aload_n 0, 1) := by decide +kernel
theorem dX8_status_1 : decode cX8_status 1 = .ok (.getfield 93, 3) := by decide +kernel
theorem dX8_status_4 : decode cX8_status 4 = .ok (.ireturn, 1) := by decide +kernel
