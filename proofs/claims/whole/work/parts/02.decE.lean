theorem dX2_init_0 : decode cX2_init 0 = .ok (.aload_n 0, 1) := by decide +kernel
theorem dX2_init_1 : decode cX2_init 1 = .ok (.invokespecial 3, 3) := by decide +kernel
theorem dX2_init_4 : decode cX2_init 4 = .ok (.aload_n 0, 1) := by decide +kernel
theorem dX2_init_5 : decode cX2_init 5 = .ok (.bipush 12, 2) := by decide +kernel
theorem dX2_init_7 : decode cX2_init 7 = .ok (.newarray .long, 2) := by decide +kernel
theorem dX2_init_9 : decode cX2_init 9 = .ok (.putfield 9, 3) := by decide +kernel
theorem dX2_init_12 : decode cX2_init 12 = .ok (.aload_n 0, 1) := by decide +kernel
theorem dX2_init_13 : decode cX2_init 13 = .ok (.bipush 12, 2) := by decide +kernel
theorem dX2_init_15 : decode cX2_init 15 = .ok (.newarray .long, 2) := by decide +kernel
theorem dX2_init_17 : decode cX2_init 17 = .ok (.putfield 15, 3) := by decide +kernel
theorem dX2_init_20 : decode cX2_init 20 = .ok (.aload_n 0, 1) := by decide +kernel
theorem dX2_init_21 : decode cX2_init 21 = .ok (.bipush 12, 2) := by decide +kernel
theorem dX2_init_23 : decode cX2_init 23 = .ok (.newarray .long, 2) := by decide +kernel
theorem dX2_init_25 : decode cX2_init 25 = .ok (.putfield 18, 3) := by decide +kernel
theorem dX2_init_28 : decode cX2_init 28 = .ok (.aload_n 0, 1) := by decide +kernel
theorem dX2_init_29 : decode cX2_init 29 = .ok (.iconst 4, 1) := by decide +kernel
theorem dX2_init_30 : decode cX2_init 30 = .ok (.newarray .int, 2) := by decide +kernel
theorem dX2_init_32 : decode cX2_init 32 = .ok (.putfield 21, 3) := by decide +kernel
theorem dX2_init_35 : decode cX2_init 35 = .ok (.aload_n 0, 1) := by decide +kernel
theorem dX2_init_36 : decode cX2_init 36 = .ok (.iconst 4, 1) := by decide +kernel
theorem dX2_init_37 : decode cX2_init 37 = .ok (.newarray .long, 2) := by decide +kernel
theorem dX2_init_39 : decode cX2_init 39 = .ok (.putfield 25, 3) := by decide +kernel
theorem dX2_init_42 : decode cX2_init 42 = .ok (.aload_n 0, 1) := by decide +kernel
theorem dX2_init_43 : decode cX2_init 43 = .ok (.iconst 3, 1) := by decide +kernel
theorem dX2_init_44 : decode cX2_init 44 = .ok (.newarray .long, 2) := by decide +kernel
theorem dX2_init_46 : decode cX2_init 46 = .ok (.putfield 28, 3) := by decide +kernel
theorem dX2_init_49 : decode cX2_init 49 = .ok (.aload_n 0, 1) := by decide +kernel
theorem dX2_init_50 : decode cX2_init 50 = .ok (.iconst 3, 1) := by decide +kernel
theorem dX2_init_51 : decode cX2_init 51 = .ok (.newarray .long, 2) := by decide +kernel
theorem dX2_init_53 : decode cX2_init 53 = .ok (.putfield 31, 3) := by decide +kernel
theorem dX2_init_56 : decode cX2_init 56 = .ok (.aload_n 0, 1) := by decide +kernel
theorem dX2_init_57 : decode cX2_init 57 = .ok (.new 34, 3) := by decide +kernel
theorem dX2_init_60 : decode cX2_init 60 = .ok (.dup, 1) := by decide +kernel
theorem dX2_init_61 : decode cX2_init 61 = .ok (.invokespecial 36, 3) := by decide +kernel
theorem dX2_init_64 : decode cX2_init 64 = .ok (.putfield 37, 3) := by decide +kernel
theorem dX2_init_67 : decode cX2_init 67 = .ok (.aload_n 0, 1) := by decide +kernel
theorem dX2_init_68 : decode cX2_init 68 = .ok (.iconst 0, 1) := by decide +kernel
theorem dX2_init_69 : decode cX2_init 69 = .ok (.putfield 41, 3) := by decide +kernel
theorem dX2_init_72 : decode cX2_init 72 = .ok (.aload_n 0, 1) := by decide +kernel
theorem dX2_init_73 : decode cX2_init 73 = .ok (.iconst 1, 1) := by decide +kernel
theorem dX2_init_74 : decode cX2_init 74 = .ok (.putfield 45, 3) := by decide +kernel
theorem dX2_init_77 : decode cX2_init 77 = .ok (.aload_n 0, 1) := by decide +kernel
theorem dX2_init_78 : decode cX2_init 78 = .ok (.iconst 0, 1) := by decide +kernel
theorem dX2_init_79 : decode cX2_init 79 = .ok (.putfield 48, 3) := by decide +kernel
theorem dX2_init_82 : decode cX2_init 82 = .ok (.return_, 1) := by decide +kernel
theorem dX2_levelRow_0 : decode cX2_levelRow 0 = .ok (.aload_n 0, 1) := by decide +kernel
theorem dX2_levelRow_1 : decode cX2_levelRow 1 = .ok (.aload_n 1, 1) := by decide +kernel
theorem dX2_levelRow_2 : decode cX2_levelRow 2 = .ok (.iload_n 2, 1) := by decide +kernel
theorem dX2_levelRow_3 : decode cX2_levelRow 3 = .ok (.iload_n 3, 1) := by decide +kernel
theorem dX2_levelRow_4 : decode cX2_levelRow 4 = .ok (.invokevirtual 52, 3) := by decide +kernel
theorem dX2_levelRow_7 : decode cX2_levelRow 7 = .ok (.aload_n 0, 1) := by decide +kernel
theorem dX2_levelRow_8 : decode cX2_levelRow 8 = .ok (.getfield 41, 3) := by decide +kernel
theorem dX2_levelRow_11 : decode cX2_levelRow 11 = .ok (.aload_n 0, 1) := by decide +kernel
theorem dX2_levelRow_12 : decode cX2_levelRow 12 = .ok (.getfield 45, 3) := by decide +kernel
theorem dX2_levelRow_15 : decode cX2_levelRow 15 = .ok (.iconst 1, 1) := by decide +kernel
theorem dX2_levelRow_16 : decode cX2_levelRow 16 = .ok (.iadd, 1) := by decide +kernel
theorem dX2_levelRow_17 : decode cX2_levelRow 17 = .ok (.invokestatic 56, 3) := by decide +kernel
theorem dX2_levelRow_20 : decode cX2_levelRow 20 = .ok (.istore 4, 2) := by decide +kernel
theorem dX2_levelRow_22 : decode cX2_levelRow 22 = .ok (.iconst 0, 1) := by decide +kernel
theorem dX2_levelRow_23 : decode cX2_levelRow 23 = .ok (.istore 5, 2) := by decide +kernel
theorem dX2_levelRow_25 : decode cX2_levelRow 25 = .ok (.iload 5, 2) := by decide +kernel
theorem dX2_levelRow_27 : decode cX2_levelRow 27 = .ok (.iload 4, 2) := by decide +kernel
theorem dX2_levelRow_29 : decode cX2_levelRow 29 = .ok (.if_icmp .ge 24, 3) := by decide +kernel
theorem dX2_levelRow_32 : decode cX2_levelRow 32 = .ok (.iload 5, 2) := by decide +kernel
theorem dX2_levelRow_34 : decode cX2_levelRow 34 = .ok (.iconst 4, 1) := by decide +kernel
theorem dX2_levelRow_35 : decode cX2_levelRow 35 = .ok (.if_icmp .ge 18, 3) := by decide +kernel
theorem dX2_levelRow_38 : decode cX2_levelRow 38 = .ok (.aload_n 0, 1) := by decide +kernel
theorem dX2_levelRow_39 : decode cX2_levelRow 39 = .ok (.getfield 21, 3) := by decide +kernel
theorem dX2_levelRow_42 : decode cX2_levelRow 42 = .ok (.iload 5, 2) := by decide +kernel
theorem dX2_levelRow_44 : decode cX2_levelRow 44 = .ok (.iload 5, 2) := by decide +kernel
theorem dX2_levelRow_46 : decode cX2_levelRow 46 = .ok (.iastore, 1) := by decide +kernel
theorem dX2_levelRow_47 : decode cX2_levelRow 47 = .ok (.iinc 5 1, 3) := by decide +kernel
theorem dX2_levelRow_50 : decode cX2_levelRow 50 = .ok (.goto (-25), 3) := by decide +kernel
theorem dX2_levelRow_53 : decode cX2_levelRow 53 = .ok (.aload_n 0, 1) := by decide +kernel
theorem dX2_levelRow_54 : decode cX2_levelRow 54 = .ok (.getfield 41, 3) := by decide +kernel
theorem dX2_levelRow_57 : decode cX2_levelRow 57 = .ok (.aload_n 0, 1) := by decide +kernel
theorem dX2_levelRow_58 : decode cX2_levelRow 58 = .ok (.getfield 45, 3) := by decide +kernel
theorem dX2_levelRow_61 : decode cX2_levelRow 61 = .ok (.if_icmp .le 15, 3) := by decide +kernel
theorem dX2_levelRow_64 : decode cX2_levelRow 64 = .ok (.aload_n 0, 1) := by decide +kernel
theorem dX2_levelRow_65 : decode cX2_levelRow 65 = .ok (.invokevirtual 62, 3) := by decide +kernel
theorem dX2_levelRow_68 : decode cX2_levelRow 68 = .ok (.aload_n 0, 1) := by decide +kernel
theorem dX2_levelRow_69 : decode cX2_levelRow 69 = .ok (.invokevirtual 65, 3) := by decide +kernel
theorem dX2_levelRow_72 : decode cX2_levelRow 72 = .ok (.pop, 1) := by decide +kernel
theorem dX2_levelRow_73 : decode cX2_levelRow 73 = .ok (.goto 7, 3) := by decide +kernel
theorem dX2_levelRow_76 : decode cX2_levelRow 76 = .ok (.aload_n 0, 1) := by decide +kernel
theorem dX2_levelRow_77 : decode cX2_levelRow 77 = .ok (.invokevirtual 69, 3) := by decide +kernel
theorem dX2_levelRow_80 : decode cX2_levelRow 80 = .ok (.return_, 1) := by decide +kernel
theorem dX2_takeTurns_0 : decode cX2_takeTurns 0 = .ok (.aload_n 0, 1) := by decide +kernel
theorem dX2_takeTurns_1 : decode cX2_takeTurns 1 = .ok (.aload_n 1, 1) := by decide +kernel
theorem dX2_takeTurns_2 : decode cX2_takeTurns 2 = .ok (.iconst 0, 1) := by decide +kernel
theorem dX2_takeTurns_3 : decode cX2_takeTurns 3 = .ok (.aload_n 1, 1) := by decide +kernel
theorem dX2_takeTurns_4 : decode cX2_takeTurns 4 = .ok (.getfield 72, 3) := by decide +kernel
theorem dX2_takeTurns_7 : decode cX2_takeTurns 7 = .ok (.getfield 78, 3) := by decide +kernel
theorem dX2_takeTurns_10 : decode cX2_takeTurns 10 = .ok (.invokevirtual 52, 3) := by decide +kernel
theorem dX2_takeTurns_13 : decode cX2_takeTurns 13 = .ok (.iconst 0, 1) := by decide +kernel
theorem dX2_takeTurns_14 : decode cX2_takeTurns 14 = .ok (.istore_n 3, 1) := by decide +kernel
theorem dX2_takeTurns_15 : decode cX2_takeTurns 15 = .ok (.iconst 0, 1) := by decide +kernel
theorem dX2_takeTurns_16 : decode cX2_takeTurns 16 = .ok (.istore 4, 2) := by decide +kernel
theorem dX2_takeTurns_18 : decode cX2_takeTurns 18 = .ok (.iload 4, 2) := by decide +kernel
theorem dX2_takeTurns_20 : decode cX2_takeTurns 20 = .ok (.aload_n 0, 1) := by decide +kernel
theorem dX2_takeTurns_21 : decode cX2_takeTurns 21 = .ok (.getfield 41, 3) := by decide +kernel
theorem dX2_takeTurns_24 : decode cX2_takeTurns 24 = .ok (.if_icmp .ge 35, 3) := by decide +kernel
theorem dX2_takeTurns_27 : decode cX2_takeTurns 27 = .ok (.iload_n 3, 1) := by decide +kernel
theorem dX2_takeTurns_28 : decode cX2_takeTurns 28 = .ok (.iconst 4, 1) := by decide +kernel
theorem dX2_takeTurns_29 : decode cX2_takeTurns 29 = .ok (.if_icmp .ge 30, 3) := by decide +kernel
theorem dX2_takeTurns_32 : decode cX2_takeTurns 32 = .ok (.iload_n 2, 1) := by decide +kernel
theorem dX2_takeTurns_33 : decode cX2_takeTurns 33 = .ok (.iload 4, 2) := by decide +kernel
theorem dX2_takeTurns_35 : decode cX2_takeTurns 35 = .ok (.ishr, 1) := by decide +kernel
theorem dX2_takeTurns_36 : decode cX2_takeTurns 36 = .ok (.iconst 1, 1) := by decide +kernel
theorem dX2_takeTurns_37 : decode cX2_takeTurns 37 = .ok (.iand, 1) := by decide +kernel
theorem dX2_takeTurns_38 : decode cX2_takeTurns 38 = .ok (.iconst 1, 1) := by decide +kernel
theorem dX2_takeTurns_39 : decode cX2_takeTurns 39 = .ok (.if_icmp .ne 14, 3) := by decide +kernel
theorem dX2_takeTurns_42 : decode cX2_takeTurns 42 = .ok (.aload_n 0, 1) := by decide +kernel
theorem dX2_takeTurns_43 : decode cX2_takeTurns 43 = .ok (.getfield 21, 3) := by decide +kernel
theorem dX2_takeTurns_46 : decode cX2_takeTurns 46 = .ok (.iload_n 3, 1) := by decide +kernel
theorem dX2_takeTurns_47 : decode cX2_takeTurns 47 = .ok (.iload 4, 2) := by decide +kernel
theorem dX2_takeTurns_49 : decode cX2_takeTurns 49 = .ok (.iastore, 1) := by decide +kernel
theorem dX2_takeTurns_50 : decode cX2_takeTurns 50 = .ok (.iinc 3 1, 3) := by decide +kernel
theorem dX2_takeTurns_53 : decode cX2_takeTurns 53 = .ok (.iinc 4 1, 3) := by decide +kernel
theorem dX2_takeTurns_56 : decode cX2_takeTurns 56 = .ok (.goto (-38), 3) := by decide +kernel
theorem dX2_takeTurns_59 : decode cX2_takeTurns 59 = .ok (.aload_n 0, 1) := by decide +kernel
theorem dX2_takeTurns_60 : decode cX2_takeTurns 60 = .ok (.invokevirtual 62, 3) := by decide +kernel
theorem dX2_takeTurns_63 : decode cX2_takeTurns 63 = .ok (.return_, 1) := by decide +kernel
theorem dX2_turnBits_0 : decode cX2_turnBits 0 = .ok (.iconst 0, 1) := by decide +kernel
theorem dX2_turnBits_1 : decode cX2_turnBits 1 = .ok (.istore_n 1, 1) := by decide +kernel
theorem dX2_turnBits_2 : decode cX2_turnBits 2 = .ok (.iconst 0, 1) := by decide +kernel
theorem dX2_turnBits_3 : decode cX2_turnBits 3 = .ok (.istore_n 2, 1) := by decide +kernel
theorem dX2_turnBits_4 : decode cX2_turnBits 4 = .ok (.iload_n 2, 1) := by decide +kernel
theorem dX2_turnBits_5 : decode cX2_turnBits 5 = .ok (.aload_n 0, 1) := by decide +kernel
theorem dX2_turnBits_6 : decode cX2_turnBits 6 = .ok (.getfield 45, 3) := by decide +kernel
theorem dX2_turnBits_9 : decode cX2_turnBits 9 = .ok (.if_icmp .gt 25, 3) := by decide +kernel
theorem dX2_turnBits_12 : decode cX2_turnBits 12 = .ok (.iload_n 2, 1) := by decide +kernel
theorem dX2_turnBits_13 : decode cX2_turnBits 13 = .ok (.iconst 4, 1) := by decide +kernel
theorem dX2_turnBits_14 : decode cX2_turnBits 14 = .ok (.if_icmp .ge 20, 3) := by decide +kernel
theorem dX2_turnBits_17 : decode cX2_turnBits 17 = .ok (.iload_n 1, 1) := by decide +kernel
theorem dX2_turnBits_18 : decode cX2_turnBits 18 = .ok (.iconst 1, 1) := by decide +kernel
theorem dX2_turnBits_19 : decode cX2_turnBits 19 = .ok (.aload_n 0, 1) := by decide +kernel
theorem dX2_turnBits_20 : decode cX2_turnBits 20 = .ok (.getfield 21, 3) := by decide +kernel
theorem dX2_turnBits_23 : decode cX2_turnBits 23 = .ok (.iload_n 2, 1) := by decide +kernel
theorem dX2_turnBits_24 : decode cX2_turnBits 24 = .ok (.iaload, 1) := by decide +kernel
theorem dX2_turnBits_25 : decode cX2_turnBits 25 = .ok (.ishl, 1) := by decide +kernel
theorem dX2_turnBits_26 : decode cX2_turnBits 26 = .ok (.ior, 1) := by decide +kernel
theorem dX2_turnBits_27 : decode cX2_turnBits 27 = .ok (.istore_n 1, 1) := by decide +kernel
theorem dX2_turnBits_28 : decode cX2_turnBits 28 = .ok (.iinc 2 1, 3) := by decide +kernel
theorem dX2_turnBits_31 : decode cX2_turnBits 31 = .ok (.goto (-27), 3) := by decide +kernel
theorem dX2_turnBits_34 : decode cX2_turnBits 34 = .ok (.iload_n 1, 1) := by decide +kernel
theorem dX2_turnBits_35 : decode cX2_turnBits 35 = .ok (.ireturn, 1) := by decide +kernel
theorem dX2_lowAbove_0 : decode cX2_lowAbove 0 = .ok (.aload_n 0, 1) := by decide +kernel
theorem dX2_lowAbove_1 : decode cX2_lowAbove 1 = .ok (.aload_n 0, 1) := by decide +kernel
theorem dX2_lowAbove_2 : decode cX2_lowAbove 2 = .ok (.getfield 21, 3) := by decide +kernel
theorem dX2_lowAbove_5 : decode cX2_lowAbove 5 = .ok (.iconst 0, 1) := by decide +kernel
theorem dX2_lowAbove_6 : decode cX2_lowAbove 6 = .ok (.iaload, 1) := by decide +kernel
theorem dX2_lowAbove_7 : decode cX2_lowAbove 7 = .ok (.invokevirtual 81, 3) := by decide +kernel
theorem dX2_lowAbove_10 : decode cX2_lowAbove 10 = .ok (.invokestatic 85, 3) := by decide +kernel
theorem dX2_lowAbove_13 : decode cX2_lowAbove 13 = .ok (.lreturn, 1) := by decide +kernel
theorem dX2_levelIsAtMost_0 : decode cX2_levelIsAtMost 0 = .ok (.aload_n 0, 1) := by decide +kernel
theorem dX2_levelIsAtMost_1 : decode cX2_levelIsAtMost 1 = .ok (.getfield 41, 3) := by decide +kernel
theorem dX2_levelIsAtMost_4 : decode cX2_levelIsAtMost 4 = .ok (.aload_n 0, 1) := by decide +kernel
theorem dX2_levelIsAtMost_5 : decode cX2_levelIsAtMost 5 = .ok (.getfield 45, 3) := by decide +kernel
theorem dX2_levelIsAtMost_8 : decode cX2_levelIsAtMost 8 = .ok (.if_icmp .le 24, 3) := by decide +kernel
theorem dX2_levelIsAtMost_11 : decode cX2_levelIsAtMost 11 = .ok (.aload_n 0, 1) := by decide +kernel
theorem dX2_levelIsAtMost_12 : decode cX2_levelIsAtMost 12 = .ok (.invokevirtual 89, 3) := by decide +kernel
theorem dX2_levelIsAtMost_15 : decode cX2_levelIsAtMost 15 = .ok (.iload_n 2, 1) := by decide +kernel
theorem dX2_levelIsAtMost_16 : decode cX2_levelIsAtMost 16 = .ok (.i2l, 1) := by decide +kernel
theorem dX2_levelIsAtMost_17 : decode cX2_levelIsAtMost 17 = .ok (.lmul, 1) := by decide +kernel
theorem dX2_levelIsAtMost_18 : decode cX2_levelIsAtMost 18 = .ok (.iload_n 1, 1) := by decide +kernel
theorem dX2_levelIsAtMost_19 : decode cX2_levelIsAtMost 19 = .ok (.i2l, 1) := by decide +kernel
theorem dX2_levelIsAtMost_20 : decode cX2_levelIsAtMost 20 = .ok (.aload_n 0, 1) := by decide +kernel
theorem dX2_levelIsAtMost_21 : decode cX2_levelIsAtMost 21 = .ok (.getfield 37, 3) := by decide +kernel
theorem dX2_levelIsAtMost_24 : decode cX2_levelIsAtMost 24 = .ok (.getfield 93, 3) := by decide +kernel
theorem dX2_levelIsAtMost_27 : decode cX2_levelIsAtMost 27 = .ok (.lmul, 1) := by decide +kernel
theorem dX2_levelIsAtMost_28 : decode cX2_levelIsAtMost 28 = .ok (.lcmp, 1) := by decide +kernel
theorem dX2_levelIsAtMost_29 : decode cX2_levelIsAtMost 29 = .ok (.ifCond .gt 7, 3) := by decide +kernel
theorem dX2_levelIsAtMost_32 : decode cX2_levelIsAtMost 32 = .ok (.iconst 1, 1) := by decide +kernel
theorem dX2_levelIsAtMost_33 : decode cX2_levelIsAtMost 33 = .ok (.goto 4, 3) := by decide +kernel
theorem dX2_levelIsAtMost_36 : decode cX2_levelIsAtMost 36 = .ok (.iconst 0, 1) := by decide +kernel
theorem dX2_levelIsAtMost_37 : decode cX2_levelIsAtMost 37 = .ok (.ireturn, 1) := by decide +kernel
theorem dX2_hand_0 : decode cX2_hand 0 = .ok (.aload_n 0, 1) := by decide +kernel
theorem dX2_hand_1 : decode cX2_hand 1 = .ok (.getfield 48, 3) := by decide +kernel
theorem dX2_hand_4 : decode cX2_hand 4 = .ok (.ifCond .eq 32, 3) := by decide +kernel
theorem dX2_hand_7 : decode cX2_hand 7 = .ok (.aload_n 1, 1) := by decide +kernel
theorem dX2_hand_8 : decode cX2_hand 8 = .ok (.aload_n 0, 1) := by decide +kernel
theorem dX2_hand_9 : decode cX2_hand 9 = .ok (.getfield 37, 3) := by decide +kernel
theorem dX2_hand_12 : decode cX2_hand 12 = .ok (.getfield 97, 3) := by decide +kernel
theorem dX2_hand_15 : decode cX2_hand 15 = .ok (.lconst 0, 1) := by decide +kernel
theorem dX2_hand_16 : decode cX2_hand 16 = .ok (.aload_n 0, 1) := by decide +kernel
theorem dX2_hand_17 : decode cX2_hand 17 = .ok (.getfield 37, 3) := by decide +kernel
theorem dX2_hand_20 : decode cX2_hand 20 = .ok (.getfield 100, 3) := by decide +kernel
theorem dX2_hand_23 : decode cX2_hand 23 = .ok (.aload_n 0, 1) := by decide +kernel
theorem dX2_hand_24 : decode cX2_hand 24 = .ok (.getfield 37, 3) := by decide +kernel
theorem dX2_hand_27 : decode cX2_hand 27 = .ok (.getfield 93, 3) := by decide +kernel
theorem dX2_hand_30 : decode cX2_hand 30 = .ok (.invokevirtual 103, 3) := by decide +kernel
theorem dX2_hand_33 : decode cX2_hand 33 = .ok (.goto 35, 3) := by decide +kernel
theorem dX2_hand_36 : decode cX2_hand 36 = .ok (.aload_n 1, 1) := by decide +kernel
theorem dX2_hand_37 : decode cX2_hand 37 = .ok (.aload_n 0, 1) := by decide +kernel
theorem dX2_hand_38 : decode cX2_hand 38 = .ok (.getfield 37, 3) := by decide +kernel
theorem dX2_hand_41 : decode cX2_hand 41 = .ok (.getfield 97, 3) := by decide +kernel
theorem dX2_hand_44 : decode cX2_hand 44 = .ok (.aload_n 0, 1) := by decide +kernel
theorem dX2_hand_45 : decode cX2_hand 45 = .ok (.getfield 37, 3) := by decide +kernel
theorem dX2_hand_48 : decode cX2_hand 48 = .ok (.getfield 100, 3) := by decide +kernel
theorem dX2_hand_51 : decode cX2_hand 51 = .ok (.aload_n 0, 1) := by decide +kernel
theorem dX2_hand_52 : decode cX2_hand 52 = .ok (.getfield 37, 3) := by decide +kernel
theorem dX2_hand_55 : decode cX2_hand 55 = .ok (.getfield 107, 3) := by decide +kernel
theorem dX2_hand_58 : decode cX2_hand 58 = .ok (.aload_n 0, 1) := by decide +kernel
theorem dX2_hand_59 : decode cX2_hand 59 = .ok (.getfield 37, 3) := by decide +kernel
theorem dX2_hand_62 : decode cX2_hand 62 = .ok (.getfield 93, 3) := by decide +kernel
theorem dX2_hand_65 : decode cX2_hand 65 = .ok (.invokevirtual 103, 3) := by decide +kernel
theorem dX2_hand_68 : decode cX2_hand 68 = .ok (.return_, 1) := by decide +kernel
theorem dX2_settle_0 : decode cX2_settle 0 = .ok (.iconst 0, 1) := by decide +kernel
theorem dX2_settle_1 : decode cX2_settle 1 = .ok (.istore_n 1, 1) := by decide +kernel
theorem dX2_settle_2 : decode cX2_settle 2 = .ok (.iload_n 1, 1) := by decide +kernel
theorem dX2_settle_3 : decode cX2_settle 3 = .ok (.sipush 1000, 3) := by decide +kernel
theorem dX2_settle_6 : decode cX2_settle 6 = .ok (.if_icmp .ge 22, 3) := by decide +kernel
theorem dX2_settle_9 : decode cX2_settle 9 = .ok (.aload_n 0, 1) := by decide +kernel
theorem dX2_settle_10 : decode cX2_settle 10 = .ok (.invokevirtual 110, 3) := by decide +kernel
theorem dX2_settle_13 : decode cX2_settle 13 = .ok (.ifCond .ne 5, 3) := by decide +kernel
theorem dX2_settle_16 : decode cX2_settle 16 = .ok (.iload_n 1, 1) := by decide +kernel
theorem dX2_settle_17 : decode cX2_settle 17 = .ok (.ireturn, 1) := by decide +kernel
theorem dX2_settle_18 : decode cX2_settle 18 = .ok (.aload_n 0, 1) := by decide +kernel
theorem dX2_settle_19 : decode cX2_settle 19 = .ok (.invokevirtual 62, 3) := by decide +kernel
theorem dX2_settle_22 : decode cX2_settle 22 = .ok (.iinc 1 1, 3) := by decide +kernel
theorem dX2_settle_25 : decode cX2_settle 25 = .ok (.goto (-23), 3) := by decide +kernel
theorem dX2_settle_28 : decode cX2_settle 28 = .ok (.sipush 1000, 3) := by decide +kernel
theorem dX2_settle_31 : decode cX2_settle 31 = .ok (.ireturn, 1) := by decide +kernel
theorem dX2_exchange_0 : decode cX2_exchange 0 = .ok (.aload_n 0, 1) := by decide +kernel
theorem dX2_exchange_1 : decode cX2_exchange 1 = .ok (.invokevirtual 114, 3) := by decide +kernel
theorem dX2_exchange_4 : decode cX2_exchange 4 = .ok (.istore_n 1, 1) := by decide +kernel
theorem dX2_exchange_5 : decode cX2_exchange 5 = .ok (.aload_n 0, 1) := by decide +kernel
theorem dX2_exchange_6 : decode cX2_exchange 6 = .ok (.iload_n 1, 1) := by decide +kernel
theorem dX2_exchange_7 : decode cX2_exchange 7 = .ok (.invokevirtual 81, 3) := by decide +kernel
theorem dX2_exchange_10 : decode cX2_exchange 10 = .ok (.lstore_n 2, 1) := by decide +kernel
theorem dX2_exchange_11 : decode cX2_exchange 11 = .ok (.lload_n 2, 1) := by decide +kernel
theorem dX2_exchange_12 : decode cX2_exchange 12 = .ok (.invokestatic 85, 3) := by decide +kernel
theorem dX2_exchange_15 : decode cX2_exchange 15 = .ok (.aload_n 0, 1) := by decide +kernel
theorem dX2_exchange_16 : decode cX2_exchange 16 = .ok (.invokevirtual 89, 3) := by decide +kernel
theorem dX2_exchange_19 : decode cX2_exchange 19 = .ok (.lcmp, 1) := by decide +kernel
theorem dX2_exchange_20 : decode cX2_exchange 20 = .ok (.ifCond .gt 5, 3) := by decide +kernel
theorem dX2_exchange_23 : decode cX2_exchange 23 = .ok (.iconst 0, 1) := by decide +kernel
theorem dX2_exchange_24 : decode cX2_exchange 24 = .ok (.ireturn, 1) := by decide +kernel
theorem dX2_exchange_25 : decode cX2_exchange 25 = .ok (.aload_n 0, 1) := by decide +kernel
theorem dX2_exchange_26 : decode cX2_exchange 26 = .ok (.aload_n 0, 1) := by decide +kernel
theorem dX2_exchange_27 : decode cX2_exchange 27 = .ok (.getfield 21, 3) := by decide +kernel
theorem dX2_exchange_30 : decode cX2_exchange 30 = .ok (.iconst 0, 1) := by decide +kernel
theorem dX2_exchange_31 : decode cX2_exchange 31 = .ok (.iaload, 1) := by decide +kernel
theorem dX2_exchange_32 : decode cX2_exchange 32 = .ok (.invokevirtual 81, 3) := by decide +kernel
theorem dX2_exchange_35 : decode cX2_exchange 35 = .ok (.lconst 0, 1) := by decide +kernel
theorem dX2_exchange_36 : decode cX2_exchange 36 = .ok (.lcmp, 1) := by decide +kernel
theorem dX2_exchange_37 : decode cX2_exchange 37 = .ok (.ifCond .lt 7, 3) := by decide +kernel
theorem dX2_exchange_40 : decode cX2_exchange 40 = .ok (.iconst 1, 1) := by decide +kernel
theorem dX2_exchange_41 : decode cX2_exchange 41 = .ok (.goto 4, 3) := by decide +kernel
theorem dX2_exchange_44 : decode cX2_exchange 44 = .ok (.iconst 0, 1) := by decide +kernel
theorem dX2_exchange_45 : decode cX2_exchange 45 = .ok (.istore 4, 2) := by decide +kernel
theorem dX2_exchange_47 : decode cX2_exchange 47 = .ok (.iload 4, 2) := by decide +kernel
theorem dX2_exchange_49 : decode cX2_exchange 49 = .ok (.lload_n 2, 1) := by decide +kernel
theorem dX2_exchange_50 : decode cX2_exchange 50 = .ok (.lconst 0, 1) := by decide +kernel
theorem dX2_exchange_51 : decode cX2_exchange 51 = .ok (.lcmp, 1) := by decide +kernel
theorem dX2_exchange_52 : decode cX2_exchange 52 = .ok (.ifCond .le 7, 3) := by decide +kernel
theorem dX2_exchange_55 : decode cX2_exchange 55 = .ok (.iconst 1, 1) := by decide +kernel
theorem dX2_exchange_56 : decode cX2_exchange 56 = .ok (.goto 4, 3) := by decide +kernel
theorem dX2_exchange_59 : decode cX2_exchange 59 = .ok (.iconst 0, 1) := by decide +kernel
theorem dX2_exchange_60 : decode cX2_exchange 60 = .ok (.if_icmp .ne 7, 3) := by decide +kernel
theorem dX2_exchange_63 : decode cX2_exchange 63 = .ok (.iconst 0, 1) := by decide +kernel
theorem dX2_exchange_64 : decode cX2_exchange 64 = .ok (.goto 4, 3) := by decide +kernel
theorem dX2_exchange_67 : decode cX2_exchange 67 = .ok (.iconst 1, 1) := by decide +kernel
theorem dX2_exchange_68 : decode cX2_exchange 68 = .ok (.istore 5, 2) := by decide +kernel
theorem dX2_exchange_70 : decode cX2_exchange 70 = .ok (.iconst 0, 1) := by decide +kernel
theorem dX2_exchange_71 : decode cX2_exchange 71 = .ok (.istore 6, 2) := by decide +kernel
theorem dX2_exchange_73 : decode cX2_exchange 73 = .ok (.iload 6, 2) := by decide +kernel
theorem dX2_exchange_75 : decode cX2_exchange 75 = .ok (.aload_n 0, 1) := by decide +kernel
theorem dX2_exchange_76 : decode cX2_exchange 76 = .ok (.getfield 45, 3) := by decide +kernel
theorem dX2_exchange_79 : decode cX2_exchange 79 = .ok (.if_icmp .gt 26, 3) := by decide +kernel
theorem dX2_exchange_82 : decode cX2_exchange 82 = .ok (.iload 6, 2) := by decide +kernel
theorem dX2_exchange_84 : decode cX2_exchange 84 = .ok (.iconst 4, 1) := by decide +kernel
theorem dX2_exchange_85 : decode cX2_exchange 85 = .ok (.if_icmp .ge 20, 3) := by decide +kernel
theorem dX2_exchange_88 : decode cX2_exchange 88 = .ok (.aload_n 0, 1) := by decide +kernel
theorem dX2_exchange_89 : decode cX2_exchange 89 = .ok (.getfield 21, 3) := by decide +kernel
theorem dX2_exchange_92 : decode cX2_exchange 92 = .ok (.iload 6, 2) := by decide +kernel
theorem dX2_exchange_94 : decode cX2_exchange 94 = .ok (.iaload, 1) := by decide +kernel
theorem dX2_exchange_95 : decode cX2_exchange 95 = .ok (.iload_n 1, 1) := by decide +kernel
theorem dX2_exchange_96 : decode cX2_exchange 96 = .ok (.if_icmp .ge 9, 3) := by decide +kernel
theorem dX2_exchange_99 : decode cX2_exchange 99 = .ok (.iinc 6 1, 3) := by decide +kernel
theorem dX2_exchange_102 : decode cX2_exchange 102 = .ok (.goto (-29), 3) := by decide +kernel
theorem dX2_exchange_105 : decode cX2_exchange 105 = .ok (.iload 6, 2) := by decide +kernel
theorem dX2_exchange_107 : decode cX2_exchange 107 = .ok (.aload_n 0, 1) := by decide +kernel
theorem dX2_exchange_108 : decode cX2_exchange 108 = .ok (.getfield 45, 3) := by decide +kernel
theorem dX2_exchange_111 : decode cX2_exchange 111 = .ok (.if_icmp .gt 23, 3) := by decide +kernel
theorem dX2_exchange_114 : decode cX2_exchange 114 = .ok (.iload 6, 2) := by decide +kernel
theorem dX2_exchange_116 : decode cX2_exchange 116 = .ok (.iconst 2, 1) := by decide +kernel
theorem dX2_exchange_117 : decode cX2_exchange 117 = .ok (.irem, 1) := by decide +kernel
theorem dX2_exchange_118 : decode cX2_exchange 118 = .ok (.iload 5, 2) := by decide +kernel
theorem dX2_exchange_120 : decode cX2_exchange 120 = .ok (.if_icmp .ne 14, 3) := by decide +kernel
theorem dX2_exchange_123 : decode cX2_exchange 123 = .ok (.aload_n 0, 1) := by decide +kernel
theorem dX2_exchange_124 : decode cX2_exchange 124 = .ok (.getfield 21, 3) := by decide +kernel
theorem dX2_exchange_127 : decode cX2_exchange 127 = .ok (.iload 6, 2) := by decide +kernel
theorem dX2_exchange_129 : decode cX2_exchange 129 = .ok (.iload_n 1, 1) := by decide +kernel
theorem dX2_exchange_130 : decode cX2_exchange 130 = .ok (.iastore, 1) := by decide +kernel
theorem dX2_exchange_131 : decode cX2_exchange 131 = .ok (.goto 50, 3) := by decide +kernel
theorem dX2_exchange_134 : decode cX2_exchange 134 = .ok (.iload 6, 2) := by decide +kernel
theorem dX2_exchange_136 : decode cX2_exchange 136 = .ok (.ifCond .le 27, 3) := by decide +kernel
theorem dX2_exchange_139 : decode cX2_exchange 139 = .ok (.iload 6, 2) := by decide +kernel
theorem dX2_exchange_141 : decode cX2_exchange 141 = .ok (.iconst 1, 1) := by decide +kernel
theorem dX2_exchange_142 : decode cX2_exchange 142 = .ok (.isub, 1) := by decide +kernel
theorem dX2_exchange_143 : decode cX2_exchange 143 = .ok (.iconst 2, 1) := by decide +kernel
theorem dX2_exchange_144 : decode cX2_exchange 144 = .ok (.irem, 1) := by decide +kernel
theorem dX2_exchange_145 : decode cX2_exchange 145 = .ok (.iload 5, 2) := by decide +kernel
theorem dX2_exchange_147 : decode cX2_exchange 147 = .ok (.if_icmp .ne 16, 3) := by decide +kernel
theorem dX2_exchange_150 : decode cX2_exchange 150 = .ok (.aload_n 0, 1) := by decide +kernel
theorem dX2_exchange_151 : decode cX2_exchange 151 = .ok (.getfield 21, 3) := by decide +kernel
theorem dX2_exchange_154 : decode cX2_exchange 154 = .ok (.iload 6, 2) := by decide +kernel
theorem dX2_exchange_156 : decode cX2_exchange 156 = .ok (.iconst 1, 1) := by decide +kernel
theorem dX2_exchange_157 : decode cX2_exchange 157 = .ok (.isub, 1) := by decide +kernel
theorem dX2_exchange_158 : decode cX2_exchange 158 = .ok (.iload_n 1, 1) := by decide +kernel
theorem dX2_exchange_159 : decode cX2_exchange 159 = .ok (.iastore, 1) := by decide +kernel
theorem dX2_exchange_160 : decode cX2_exchange 160 = .ok (.goto 21, 3) := by decide +kernel
theorem dX2_exchange_163 : decode cX2_exchange 163 = .ok (.iload 6, 2) := by decide +kernel
theorem dX2_exchange_165 : decode cX2_exchange 165 = .ok (.ifCond .ne 11, 3) := by decide +kernel
theorem dX2_exchange_168 : decode cX2_exchange 168 = .ok (.aload_n 0, 1) := by decide +kernel
theorem dX2_exchange_169 : decode cX2_exchange 169 = .ok (.iload_n 1, 1) := by decide +kernel
theorem dX2_exchange_170 : decode cX2_exchange 170 = .ok (.invokevirtual 117, 3) := by decide +kernel
theorem dX2_exchange_173 : decode cX2_exchange 173 = .ok (.goto 8, 3) := by decide +kernel
theorem dX2_exchange_176 : decode cX2_exchange 176 = .ok (.aload_n 0, 1) := by decide +kernel
theorem dX2_exchange_177 : decode cX2_exchange 177 = .ok (.iload_n 1, 1) := by decide +kernel
theorem dX2_exchange_178 : decode cX2_exchange 178 = .ok (.invokevirtual 121, 3) := by decide +kernel
theorem dX2_exchange_181 : decode cX2_exchange 181 = .ok (.iconst 1, 1) := by decide +kernel
theorem dX2_exchange_182 : decode cX2_exchange 182 = .ok (.ireturn, 1) := by decide +kernel
theorem dX2_comeFirst_0 : decode cX2_comeFirst 0 = .ok (.aload_n 0, 1) := by decide +kernel
theorem dX2_comeFirst_1 : decode cX2_comeFirst 1 = .ok (.getfield 45, 3) := by decide +kernel
theorem dX2_comeFirst_4 : decode cX2_comeFirst 4 = .ok (.iconst 3, 1) := by decide +kernel
theorem dX2_comeFirst_5 : decode cX2_comeFirst 5 = .ok (.invokestatic 56, 3) := by decide +kernel
theorem dX2_comeFirst_8 : decode cX2_comeFirst 8 = .ok (.istore_n 2, 1) := by decide +kernel
theorem dX2_comeFirst_9 : decode cX2_comeFirst 9 = .ok (.iload_n 2, 1) := by decide +kernel
theorem dX2_comeFirst_10 : decode cX2_comeFirst 10 = .ok (.ifCond .le 23, 3) := by decide +kernel
theorem dX2_comeFirst_13 : decode cX2_comeFirst 13 = .ok (.aload_n 0, 1) := by decide +kernel
theorem dX2_comeFirst_14 : decode cX2_comeFirst 14 = .ok (.getfield 21, 3) := by decide +kernel
theorem dX2_comeFirst_17 : decode cX2_comeFirst 17 = .ok (.iload_n 2, 1) := by decide +kernel
theorem dX2_comeFirst_18 : decode cX2_comeFirst 18 = .ok (.aload_n 0, 1) := by decide +kernel
theorem dX2_comeFirst_19 : decode cX2_comeFirst 19 = .ok (.getfield 21, 3) := by decide +kernel
theorem dX2_comeFirst_22 : decode cX2_comeFirst 22 = .ok (.iload_n 2, 1) := by decide +kernel
theorem dX2_comeFirst_23 : decode cX2_comeFirst 23 = .ok (.iconst 1, 1) := by decide +kernel
theorem dX2_comeFirst_24 : decode cX2_comeFirst 24 = .ok (.isub, 1) := by decide +kernel
theorem dX2_comeFirst_25 : decode cX2_comeFirst 25 = .ok (.iaload, 1) := by decide +kernel
theorem dX2_comeFirst_26 : decode cX2_comeFirst 26 = .ok (.iastore, 1) := by decide +kernel
theorem dX2_comeFirst_27 : decode cX2_comeFirst 27 = .ok (.iinc 2 (-1), 3) := by decide +kernel
theorem dX2_comeFirst_30 : decode cX2_comeFirst 30 = .ok (.goto (-21), 3) := by decide +kernel
theorem dX2_comeFirst_33 : decode cX2_comeFirst 33 = .ok (.aload_n 0, 1) := by decide +kernel
theorem dX2_comeFirst_34 : decode cX2_comeFirst 34 = .ok (.getfield 21, 3) := by decide +kernel
theorem dX2_comeFirst_37 : decode cX2_comeFirst 37 = .ok (.iconst 0, 1) := by decide +kernel
theorem dX2_comeFirst_38 : decode cX2_comeFirst 38 = .ok (.iload_n 1, 1) := by decide +kernel
theorem dX2_comeFirst_39 : decode cX2_comeFirst 39 = .ok (.iastore, 1) := by decide +kernel
theorem dX2_comeFirst_40 : decode cX2_comeFirst 40 = .ok (.return_, 1) := by decide +kernel
theorem dX2_comeLast_0 : decode cX2_comeLast 0 = .ok (.aload_n 0, 1) := by decide +kernel
theorem dX2_comeLast_1 : decode cX2_comeLast 1 = .ok (.getfield 45, 3) := by decide +kernel
theorem dX2_comeLast_4 : decode cX2_comeLast 4 = .ok (.iconst 3, 1) := by decide +kernel
theorem dX2_comeLast_5 : decode cX2_comeLast 5 = .ok (.invokestatic 56, 3) := by decide +kernel
theorem dX2_comeLast_8 : decode cX2_comeLast 8 = .ok (.istore_n 2, 1) := by decide +kernel
theorem dX2_comeLast_9 : decode cX2_comeLast 9 = .ok (.iconst 0, 1) := by decide +kernel
theorem dX2_comeLast_10 : decode cX2_comeLast 10 = .ok (.istore_n 3, 1) := by decide +kernel
theorem dX2_comeLast_11 : decode cX2_comeLast 11 = .ok (.iload_n 3, 1) := by decide +kernel
theorem dX2_comeLast_12 : decode cX2_comeLast 12 = .ok (.iload_n 2, 1) := by decide +kernel
theorem dX2_comeLast_13 : decode cX2_comeLast 13 = .ok (.if_icmp .ge 23, 3) := by decide +kernel
theorem dX2_comeLast_16 : decode cX2_comeLast 16 = .ok (.aload_n 0, 1) := by decide +kernel
theorem dX2_comeLast_17 : decode cX2_comeLast 17 = .ok (.getfield 21, 3) := by decide +kernel
theorem dX2_comeLast_20 : decode cX2_comeLast 20 = .ok (.iload_n 3, 1) := by decide +kernel
theorem dX2_comeLast_21 : decode cX2_comeLast 21 = .ok (.aload_n 0, 1) := by decide +kernel
theorem dX2_comeLast_22 : decode cX2_comeLast 22 = .ok (.getfield 21, 3) := by decide +kernel
theorem dX2_comeLast_25 : decode cX2_comeLast 25 = .ok (.iload_n 3, 1) := by decide +kernel
theorem dX2_comeLast_26 : decode cX2_comeLast 26 = .ok (.iconst 1, 1) := by decide +kernel
theorem dX2_comeLast_27 : decode cX2_comeLast 27 = .ok (.iadd, 1) := by decide +kernel
theorem dX2_comeLast_28 : decode cX2_comeLast 28 = .ok (.iaload, 1) := by decide +kernel
theorem dX2_comeLast_29 : decode cX2_comeLast 29 = .ok (.iastore, 1) := by decide +kernel
theorem dX2_comeLast_30 : decode cX2_comeLast 30 = .ok (.iinc 3 1, 3) := by decide +kernel
theorem dX2_comeLast_33 : decode cX2_comeLast 33 = .ok (.goto (-22), 3) := by decide +kernel
theorem dX2_comeLast_36 : decode cX2_comeLast 36 = .ok (.aload_n 0, 1) := by decide +kernel
theorem dX2_comeLast_37 : decode cX2_comeLast 37 = .ok (.getfield 21, 3) := by decide +kernel
theorem dX2_comeLast_40 : decode cX2_comeLast 40 = .ok (.iload_n 2, 1) := by decide +kernel
theorem dX2_comeLast_41 : decode cX2_comeLast 41 = .ok (.iload_n 1, 1) := by decide +kernel
theorem dX2_comeLast_42 : decode cX2_comeLast 42 = .ok (.iastore, 1) := by decide +kernel
theorem dX2_comeLast_43 : decode cX2_comeLast 43 = .ok (.return_, 1) := by decide +kernel
theorem dX2_load_0 : decode cX2_load 0 = .ok (.aload_n 0, 1) := by decide +kernel
theorem dX2_load_1 : decode cX2_load 1 = .ok (.aload_n 1, 1) := by decide +kernel
theorem dX2_load_2 : decode cX2_load 2 = .ok (.invokevirtual 124, 3) := by decide +kernel
theorem dX2_load_5 : decode cX2_load 5 = .ok (.putfield 45, 3) := by decide +kernel
theorem dX2_load_8 : decode cX2_load 8 = .ok (.aload_n 0, 1) := by decide +kernel
theorem dX2_load_9 : decode cX2_load 9 = .ok (.aload_n 1, 1) := by decide +kernel
theorem dX2_load_10 : decode cX2_load 10 = .ok (.getfield 127, 3) := by decide +kernel
theorem dX2_load_13 : decode cX2_load 13 = .ok (.iconst 2, 1) := by decide +kernel
theorem dX2_load_14 : decode cX2_load 14 = .ok (.if_icmp .ne 7, 3) := by decide +kernel
theorem dX2_load_17 : decode cX2_load 17 = .ok (.iconst 1, 1) := by decide +kernel
theorem dX2_load_18 : decode cX2_load 18 = .ok (.goto 4, 3) := by decide +kernel
theorem dX2_load_21 : decode cX2_load 21 = .ok (.iconst 0, 1) := by decide +kernel
theorem dX2_load_22 : decode cX2_load 22 = .ok (.putfield 48, 3) := by decide +kernel
theorem dX2_load_25 : decode cX2_load 25 = .ok (.aload_n 0, 1) := by decide +kernel
theorem dX2_load_26 : decode cX2_load 26 = .ok (.iconst 0, 1) := by decide +kernel
theorem dX2_load_27 : decode cX2_load 27 = .ok (.putfield 41, 3) := by decide +kernel
theorem dX2_load_30 : decode cX2_load 30 = .ok (.iload_n 2, 1) := by decide +kernel
theorem dX2_load_31 : decode cX2_load 31 = .ok (.istore 4, 2) := by decide +kernel
theorem dX2_load_33 : decode cX2_load 33 = .ok (.iload 4, 2) := by decide +kernel
theorem dX2_load_35 : decode cX2_load 35 = .ok (.iload_n 3, 1) := by decide +kernel
theorem dX2_load_36 : decode cX2_load 36 = .ok (.if_icmp .ge 119, 3) := by decide +kernel
theorem dX2_load_39 : decode cX2_load 39 = .ok (.aload_n 1, 1) := by decide +kernel
theorem dX2_load_40 : decode cX2_load 40 = .ok (.getfield 72, 3) := by decide +kernel
theorem dX2_load_43 : decode cX2_load 43 = .ok (.iload 4, 2) := by decide +kernel
theorem dX2_load_45 : decode cX2_load 45 = .ok (.invokevirtual 130, 3) := by decide +kernel
theorem dX2_load_48 : decode cX2_load 48 = .ok (.ifCond .eq 107, 3) := by decide +kernel
theorem dX2_load_51 : decode cX2_load 51 = .ok (.aload_n 0, 1) := by decide +kernel
theorem dX2_load_52 : decode cX2_load 52 = .ok (.getfield 41, 3) := by decide +kernel
theorem dX2_load_55 : decode cX2_load 55 = .ok (.bipush 12, 2) := by decide +kernel
theorem dX2_load_57 : decode cX2_load 57 = .ok (.if_icmp .ge 98, 3) := by decide +kernel
theorem dX2_load_60 : decode cX2_load 60 = .ok (.aload_n 1, 1) := by decide +kernel
theorem dX2_load_61 : decode cX2_load 61 = .ok (.getfield 72, 3) := by decide +kernel
theorem dX2_load_64 : decode cX2_load 64 = .ok (.getfield 134, 3) := by decide +kernel
theorem dX2_load_67 : decode cX2_load 67 = .ok (.iload 4, 2) := by decide +kernel
theorem dX2_load_69 : decode cX2_load 69 = .ok (.iaload, 1) := by decide +kernel
theorem dX2_load_70 : decode cX2_load 70 = .ok (.i2l, 1) := by decide +kernel
theorem dX2_load_71 : decode cX2_load 71 = .ok (.lstore 5, 2) := by decide +kernel
theorem dX2_load_73 : decode cX2_load 73 = .ok (.aload_n 0, 1) := by decide +kernel
theorem dX2_load_74 : decode cX2_load 74 = .ok (.getfield 9, 3) := by decide +kernel
theorem dX2_load_77 : decode cX2_load 77 = .ok (.aload_n 0, 1) := by decide +kernel
theorem dX2_load_78 : decode cX2_load 78 = .ok (.getfield 41, 3) := by decide +kernel
theorem dX2_load_81 : decode cX2_load 81 = .ok (.aload_n 0, 1) := by decide +kernel
theorem dX2_load_82 : decode cX2_load 82 = .ok (.getfield 48, 3) := by decide +kernel
theorem dX2_load_85 : decode cX2_load 85 = .ok (.ifCond .eq 11, 3) := by decide +kernel
theorem dX2_load_88 : decode cX2_load 88 = .ok (.lload 5, 2) := by decide +kernel
theorem dX2_load_90 : decode cX2_load 90 = .ok (.lload 5, 2) := by decide +kernel
theorem dX2_load_92 : decode cX2_load 92 = .ok (.lmul, 1) := by decide +kernel
theorem dX2_load_93 : decode cX2_load 93 = .ok (.goto 5, 3) := by decide +kernel
theorem dX2_load_96 : decode cX2_load 96 = .ok (.lload 5, 2) := by decide +kernel
theorem dX2_load_98 : decode cX2_load 98 = .ok (.lastore, 1) := by decide +kernel
theorem dX2_load_99 : decode cX2_load 99 = .ok (.aload_n 0, 1) := by decide +kernel
theorem dX2_load_100 : decode cX2_load 100 = .ok (.getfield 15, 3) := by decide +kernel
theorem dX2_load_103 : decode cX2_load 103 = .ok (.aload_n 0, 1) := by decide +kernel
theorem dX2_load_104 : decode cX2_load 104 = .ok (.getfield 41, 3) := by decide +kernel
theorem dX2_load_107 : decode cX2_load 107 = .ok (.aload_n 1, 1) := by decide +kernel
theorem dX2_load_108 : decode cX2_load 108 = .ok (.getfield 72, 3) := by decide +kernel
theorem dX2_load_111 : decode cX2_load 111 = .ok (.getfield 137, 3) := by decide +kernel
theorem dX2_load_114 : decode cX2_load 114 = .ok (.iload 4, 2) := by decide +kernel
theorem dX2_load_116 : decode cX2_load 116 = .ok (.iaload, 1) := by decide +kernel
theorem dX2_load_117 : decode cX2_load 117 = .ok (.i2l, 1) := by decide +kernel
theorem dX2_load_118 : decode cX2_load 118 = .ok (.lastore, 1) := by decide +kernel
theorem dX2_load_119 : decode cX2_load 119 = .ok (.aload_n 0, 1) := by decide +kernel
theorem dX2_load_120 : decode cX2_load 120 = .ok (.getfield 18, 3) := by decide +kernel
theorem dX2_load_123 : decode cX2_load 123 = .ok (.aload_n 0, 1) := by decide +kernel
theorem dX2_load_124 : decode cX2_load 124 = .ok (.getfield 41, 3) := by decide +kernel
theorem dX2_load_127 : decode cX2_load 127 = .ok (.aload_n 1, 1) := by decide +kernel
theorem dX2_load_128 : decode cX2_load 128 = .ok (.getfield 72, 3) := by decide +kernel
theorem dX2_load_131 : decode cX2_load 131 = .ok (.getfield 139, 3) := by decide +kernel
theorem dX2_load_134 : decode cX2_load 134 = .ok (.iload 4, 2) := by decide +kernel
theorem dX2_load_136 : decode cX2_load 136 = .ok (.iaload, 1) := by decide +kernel
theorem dX2_load_137 : decode cX2_load 137 = .ok (.i2l, 1) := by decide +kernel
theorem dX2_load_138 : decode cX2_load 138 = .ok (.lastore, 1) := by decide +kernel
theorem dX2_load_139 : decode cX2_load 139 = .ok (.aload_n 0, 1) := by decide +kernel
theorem dX2_load_140 : decode cX2_load 140 = .ok (.dup, 1) := by decide +kernel
theorem dX2_load_141 : decode cX2_load 141 = .ok (.getfield 41, 3) := by decide +kernel
theorem dX2_load_144 : decode cX2_load 144 = .ok (.iconst 1, 1) := by decide +kernel
theorem dX2_load_145 : decode cX2_load 145 = .ok (.iadd, 1) := by decide +kernel
theorem dX2_load_146 : decode cX2_load 146 = .ok (.putfield 41, 3) := by decide +kernel
theorem dX2_load_149 : decode cX2_load 149 = .ok (.iinc 4 1, 3) := by decide +kernel
theorem dX2_load_152 : decode cX2_load 152 = .ok (.goto (-119), 3) := by decide +kernel
theorem dX2_load_155 : decode cX2_load 155 = .ok (.return_, 1) := by decide +kernel
theorem dX2_missAbove_0 : decode cX2_missAbove 0 = .ok (.aload_n 0, 1) := by decide +kernel
theorem dX2_missAbove_1 : decode cX2_missAbove 1 = .ok (.getfield 18, 3) := by decide +kernel
theorem dX2_missAbove_4 : decode cX2_missAbove 4 = .ok (.iload_n 1, 1) := by decide +kernel
theorem dX2_missAbove_5 : decode cX2_missAbove 5 = .ok (.laload, 1) := by decide +kernel
theorem dX2_missAbove_6 : decode cX2_missAbove 6 = .ok (.aload_n 0, 1) := by decide +kernel
theorem dX2_missAbove_7 : decode cX2_missAbove 7 = .ok (.getfield 15, 3) := by decide +kernel
theorem dX2_missAbove_10 : decode cX2_missAbove 10 = .ok (.iload_n 1, 1) := by decide +kernel
theorem dX2_missAbove_11 : decode cX2_missAbove 11 = .ok (.laload, 1) := by decide +kernel
theorem dX2_missAbove_12 : decode cX2_missAbove 12 = .ok (.aload_n 0, 1) := by decide +kernel
theorem dX2_missAbove_13 : decode cX2_missAbove 13 = .ok (.getfield 37, 3) := by decide +kernel
theorem dX2_missAbove_16 : decode cX2_missAbove 16 = .ok (.getfield 93, 3) := by decide +kernel
theorem dX2_missAbove_19 : decode cX2_missAbove 19 = .ok (.lmul, 1) := by decide +kernel
theorem dX2_missAbove_20 : decode cX2_missAbove 20 = .ok (.aload_n 0, 1) := by decide +kernel
theorem dX2_missAbove_21 : decode cX2_missAbove 21 = .ok (.getfield 37, 3) := by decide +kernel
theorem dX2_missAbove_24 : decode cX2_missAbove 24 = .ok (.aload_n 0, 1) := by decide +kernel
theorem dX2_missAbove_25 : decode cX2_missAbove 25 = .ok (.getfield 9, 3) := by decide +kernel
theorem dX2_missAbove_28 : decode cX2_missAbove 28 = .ok (.iload_n 1, 1) := by decide +kernel
theorem dX2_missAbove_29 : decode cX2_missAbove 29 = .ok (.laload, 1) := by decide +kernel
theorem dX2_missAbove_30 : decode cX2_missAbove 30 = .ok (.invokevirtual 141, 3) := by decide +kernel
theorem dX2_missAbove_33 : decode cX2_missAbove 33 = .ok (.lsub, 1) := by decide +kernel
theorem dX2_missAbove_34 : decode cX2_missAbove 34 = .ok (.lmul, 1) := by decide +kernel
theorem dX2_missAbove_35 : decode cX2_missAbove 35 = .ok (.lreturn, 1) := by decide +kernel
theorem dX2_farthest_0 : decode cX2_farthest 0 = .ok (.iconst 0, 1) := by decide +kernel
theorem dX2_farthest_1 : decode cX2_farthest 1 = .ok (.istore_n 1, 1) := by decide +kernel
theorem dX2_farthest_2 : decode cX2_farthest 2 = .ok (.iconst 1, 1) := by decide +kernel
theorem dX2_farthest_3 : decode cX2_farthest 3 = .ok (.istore_n 2, 1) := by decide +kernel
theorem dX2_farthest_4 : decode cX2_farthest 4 = .ok (.iload_n 2, 1) := by decide +kernel
theorem dX2_farthest_5 : decode cX2_farthest 5 = .ok (.aload_n 0, 1) := by decide +kernel
theorem dX2_farthest_6 : decode cX2_farthest 6 = .ok (.getfield 41, 3) := by decide +kernel
theorem dX2_farthest_9 : decode cX2_farthest 9 = .ok (.if_icmp .ge 31, 3) := by decide +kernel
theorem dX2_farthest_12 : decode cX2_farthest 12 = .ok (.aload_n 0, 1) := by decide +kernel
theorem dX2_farthest_13 : decode cX2_farthest 13 = .ok (.iload_n 2, 1) := by decide +kernel
theorem dX2_farthest_14 : decode cX2_farthest 14 = .ok (.invokevirtual 81, 3) := by decide +kernel
theorem dX2_farthest_17 : decode cX2_farthest 17 = .ok (.invokestatic 85, 3) := by decide +kernel
theorem dX2_farthest_20 : decode cX2_farthest 20 = .ok (.aload_n 0, 1) := by decide +kernel
theorem dX2_farthest_21 : decode cX2_farthest 21 = .ok (.iload_n 1, 1) := by decide +kernel
theorem dX2_farthest_22 : decode cX2_farthest 22 = .ok (.invokevirtual 81, 3) := by decide +kernel
theorem dX2_farthest_25 : decode cX2_farthest 25 = .ok (.invokestatic 85, 3) := by decide +kernel
theorem dX2_farthest_28 : decode cX2_farthest 28 = .ok (.lcmp, 1) := by decide +kernel
theorem dX2_farthest_29 : decode cX2_farthest 29 = .ok (.ifCond .le 5, 3) := by decide +kernel
theorem dX2_farthest_32 : decode cX2_farthest 32 = .ok (.iload_n 2, 1) := by decide +kernel
theorem dX2_farthest_33 : decode cX2_farthest 33 = .ok (.istore_n 1, 1) := by decide +kernel
theorem dX2_farthest_34 : decode cX2_farthest 34 = .ok (.iinc 2 1, 3) := by decide +kernel
theorem dX2_farthest_37 : decode cX2_farthest 37 = .ok (.goto (-33), 3) := by decide +kernel
theorem dX2_farthest_40 : decode cX2_farthest 40 = .ok (.iload_n 1, 1) := by decide +kernel
theorem dX2_farthest_41 : decode cX2_farthest 41 = .ok (.ireturn, 1) := by decide +kernel
theorem dX2_solve_0 : decode cX2_solve 0 = .ok (.lconst 0, 1) := by decide +kernel
theorem dX2_solve_1 : decode cX2_solve 1 = .ok (.lstore_n 1, 1) := by decide +kernel
theorem dX2_solve_2 : decode cX2_solve 2 = .ok (.lconst 0, 1) := by decide +kernel
theorem dX2_solve_3 : decode cX2_solve 3 = .ok (.lstore_n 3, 1) := by decide +kernel
theorem dX2_solve_4 : decode cX2_solve 4 = .ok (.iconst 0, 1) := by decide +kernel
theorem dX2_solve_5 : decode cX2_solve 5 = .ok (.istore 5, 2) := by decide +kernel
theorem dX2_solve_7 : decode cX2_solve 7 = .ok (.iload 5, 2) := by decide +kernel
theorem dX2_solve_9 : decode cX2_solve 9 = .ok (.aload_n 0, 1) := by decide +kernel
theorem dX2_solve_10 : decode cX2_solve 10 = .ok (.getfield 45, 3) := by decide +kernel
theorem dX2_solve_13 : decode cX2_solve 13 = .ok (.if_icmp .gt 71, 3) := by decide +kernel
theorem dX2_solve_16 : decode cX2_solve 16 = .ok (.iload 5, 2) := by decide +kernel
theorem dX2_solve_18 : decode cX2_solve 18 = .ok (.iconst 4, 1) := by decide +kernel
theorem dX2_solve_19 : decode cX2_solve 19 = .ok (.if_icmp .ge 65, 3) := by decide +kernel
theorem dX2_solve_22 : decode cX2_solve 22 = .ok (.aload_n 0, 1) := by decide +kernel
theorem dX2_solve_23 : decode cX2_solve 23 = .ok (.iload 5, 2) := by decide +kernel
theorem dX2_solve_25 : decode cX2_solve 25 = .ok (.aload_n 0, 1) := by decide +kernel
theorem dX2_solve_26 : decode cX2_solve 26 = .ok (.getfield 45, 3) := by decide +kernel
theorem dX2_solve_29 : decode cX2_solve 29 = .ok (.iconst 1, 1) := by decide +kernel
theorem dX2_solve_30 : decode cX2_solve 30 = .ok (.iadd, 1) := by decide +kernel
theorem dX2_solve_31 : decode cX2_solve 31 = .ok (.invokevirtual 144, 3) := by decide +kernel
theorem dX2_solve_34 : decode cX2_solve 34 = .ok (.lstore 6, 2) := by decide +kernel
theorem dX2_solve_36 : decode cX2_solve 36 = .ok (.lload_n 1, 1) := by decide +kernel
theorem dX2_solve_37 : decode cX2_solve 37 = .ok (.iload 5, 2) := by decide +kernel
theorem dX2_solve_39 : decode cX2_solve 39 = .ok (.invokestatic 148, 3) := by decide +kernel
theorem dX2_solve_42 : decode cX2_solve 42 = .ok (.i2l, 1) := by decide +kernel
theorem dX2_solve_43 : decode cX2_solve 43 = .ok (.lload 6, 2) := by decide +kernel
theorem dX2_solve_45 : decode cX2_solve 45 = .ok (.lmul, 1) := by decide +kernel
theorem dX2_solve_46 : decode cX2_solve 46 = .ok (.aload_n 0, 1) := by decide +kernel
theorem dX2_solve_47 : decode cX2_solve 47 = .ok (.getfield 15, 3) := by decide +kernel
theorem dX2_solve_50 : decode cX2_solve 50 = .ok (.aload_n 0, 1) := by decide +kernel
theorem dX2_solve_51 : decode cX2_solve 51 = .ok (.getfield 21, 3) := by decide +kernel
theorem dX2_solve_54 : decode cX2_solve 54 = .ok (.iload 5, 2) := by decide +kernel
theorem dX2_solve_56 : decode cX2_solve 56 = .ok (.iaload, 1) := by decide +kernel
theorem dX2_solve_57 : decode cX2_solve 57 = .ok (.laload, 1) := by decide +kernel
theorem dX2_solve_58 : decode cX2_solve 58 = .ok (.lmul, 1) := by decide +kernel
theorem dX2_solve_59 : decode cX2_solve 59 = .ok (.ladd, 1) := by decide +kernel
theorem dX2_solve_60 : decode cX2_solve 60 = .ok (.lstore_n 1, 1) := by decide +kernel
theorem dX2_solve_61 : decode cX2_solve 61 = .ok (.lload_n 3, 1) := by decide +kernel
theorem dX2_solve_62 : decode cX2_solve 62 = .ok (.lload 6, 2) := by decide +kernel
theorem dX2_solve_64 : decode cX2_solve 64 = .ok (.aload_n 0, 1) := by decide +kernel
theorem dX2_solve_65 : decode cX2_solve 65 = .ok (.aload_n 0, 1) := by decide +kernel
theorem dX2_solve_66 : decode cX2_solve 66 = .ok (.getfield 21, 3) := by decide +kernel
theorem dX2_solve_69 : decode cX2_solve 69 = .ok (.iload 5, 2) := by decide +kernel
theorem dX2_solve_71 : decode cX2_solve 71 = .ok (.iaload, 1) := by decide +kernel
theorem dX2_solve_72 : decode cX2_solve 72 = .ok (.invokevirtual 152, 3) := by decide +kernel
theorem dX2_solve_75 : decode cX2_solve 75 = .ok (.lmul, 1) := by decide +kernel
theorem dX2_solve_76 : decode cX2_solve 76 = .ok (.ladd, 1) := by decide +kernel
theorem dX2_solve_77 : decode cX2_solve 77 = .ok (.lstore_n 3, 1) := by decide +kernel
theorem dX2_solve_78 : decode cX2_solve 78 = .ok (.iinc 5 1, 3) := by decide +kernel
theorem dX2_solve_81 : decode cX2_solve 81 = .ok (.goto (-74), 3) := by decide +kernel
theorem dX2_solve_84 : decode cX2_solve 84 = .ok (.iconst 0, 1) := by decide +kernel
theorem dX2_solve_85 : decode cX2_solve 85 = .ok (.istore 5, 2) := by decide +kernel
theorem dX2_solve_87 : decode cX2_solve 87 = .ok (.iload 5, 2) := by decide +kernel
theorem dX2_solve_89 : decode cX2_solve 89 = .ok (.aload_n 0, 1) := by decide +kernel
theorem dX2_solve_90 : decode cX2_solve 90 = .ok (.getfield 45, 3) := by decide +kernel
theorem dX2_solve_93 : decode cX2_solve 93 = .ok (.if_icmp .ge 57, 3) := by decide +kernel
theorem dX2_solve_96 : decode cX2_solve 96 = .ok (.iload 5, 2) := by decide +kernel
theorem dX2_solve_98 : decode cX2_solve 98 = .ok (.iconst 4, 1) := by decide +kernel
theorem dX2_solve_99 : decode cX2_solve 99 = .ok (.if_icmp .ge 51, 3) := by decide +kernel
theorem dX2_solve_102 : decode cX2_solve 102 = .ok (.aload_n 0, 1) := by decide +kernel
theorem dX2_solve_103 : decode cX2_solve 103 = .ok (.getfield 25, 3) := by decide +kernel
theorem dX2_solve_106 : decode cX2_solve 106 = .ok (.iload 5, 2) := by decide +kernel
theorem dX2_solve_108 : decode cX2_solve 108 = .ok (.aload_n 0, 1) := by decide +kernel
theorem dX2_solve_109 : decode cX2_solve 109 = .ok (.getfield 15, 3) := by decide +kernel
theorem dX2_solve_112 : decode cX2_solve 112 = .ok (.aload_n 0, 1) := by decide +kernel
theorem dX2_solve_113 : decode cX2_solve 113 = .ok (.getfield 21, 3) := by decide +kernel
theorem dX2_solve_116 : decode cX2_solve 116 = .ok (.iload 5, 2) := by decide +kernel
theorem dX2_solve_118 : decode cX2_solve 118 = .ok (.iaload, 1) := by decide +kernel
theorem dX2_solve_119 : decode cX2_solve 119 = .ok (.laload, 1) := by decide +kernel
theorem dX2_solve_120 : decode cX2_solve 120 = .ok (.lload_n 3, 1) := by decide +kernel
theorem dX2_solve_121 : decode cX2_solve 121 = .ok (.lmul, 1) := by decide +kernel
theorem dX2_solve_122 : decode cX2_solve 122 = .ok (.iload 5, 2) := by decide +kernel
theorem dX2_solve_124 : decode cX2_solve 124 = .ok (.invokestatic 148, 3) := by decide +kernel
theorem dX2_solve_127 : decode cX2_solve 127 = .ok (.i2l, 1) := by decide +kernel
theorem dX2_solve_128 : decode cX2_solve 128 = .ok (.aload_n 0, 1) := by decide +kernel
theorem dX2_solve_129 : decode cX2_solve 129 = .ok (.aload_n 0, 1) := by decide +kernel
theorem dX2_solve_130 : decode cX2_solve 130 = .ok (.getfield 21, 3) := by decide +kernel
theorem dX2_solve_133 : decode cX2_solve 133 = .ok (.iload 5, 2) := by decide +kernel
theorem dX2_solve_135 : decode cX2_solve 135 = .ok (.iaload, 1) := by decide +kernel
theorem dX2_solve_136 : decode cX2_solve 136 = .ok (.invokevirtual 152, 3) := by decide +kernel
theorem dX2_solve_139 : decode cX2_solve 139 = .ok (.lmul, 1) := by decide +kernel
theorem dX2_solve_140 : decode cX2_solve 140 = .ok (.lload_n 1, 1) := by decide +kernel
theorem dX2_solve_141 : decode cX2_solve 141 = .ok (.lmul, 1) := by decide +kernel
theorem dX2_solve_142 : decode cX2_solve 142 = .ok (.lsub, 1) := by decide +kernel
theorem dX2_solve_143 : decode cX2_solve 143 = .ok (.lastore, 1) := by decide +kernel
theorem dX2_solve_144 : decode cX2_solve 144 = .ok (.iinc 5 1, 3) := by decide +kernel
theorem dX2_solve_147 : decode cX2_solve 147 = .ok (.goto (-60), 3) := by decide +kernel
theorem dX2_solve_150 : decode cX2_solve 150 = .ok (.aload_n 0, 1) := by decide +kernel
theorem dX2_solve_151 : decode cX2_solve 151 = .ok (.aload_n 0, 1) := by decide +kernel
theorem dX2_solve_152 : decode cX2_solve 152 = .ok (.getfield 45, 3) := by decide +kernel
theorem dX2_solve_155 : decode cX2_solve 155 = .ok (.lload_n 3, 1) := by decide +kernel
theorem dX2_solve_156 : decode cX2_solve 156 = .ok (.invokevirtual 155, 3) := by decide +kernel
theorem dX2_solve_159 : decode cX2_solve 159 = .ok (.return_, 1) := by decide +kernel
theorem dX2_passThroughAll_0 : decode cX2_passThroughAll 0 = .ok (.iconst 0, 1) := by decide +kernel
theorem dX2_passThroughAll_1 : decode cX2_passThroughAll 1 = .ok (.istore_n 1, 1) := by decide +kernel
theorem dX2_passThroughAll_2 : decode cX2_passThroughAll 2 = .ok (.iload_n 1, 1) := by decide +kernel
theorem dX2_passThroughAll_3 : decode cX2_passThroughAll 3 = .ok (.aload_n 0, 1) := by decide +kernel
theorem dX2_passThroughAll_4 : decode cX2_passThroughAll 4 = .ok (.getfield 41, 3) := by decide +kernel
theorem dX2_passThroughAll_7 : decode cX2_passThroughAll 7 = .ok (.if_icmp .ge 26, 3) := by decide +kernel
theorem dX2_passThroughAll_10 : decode cX2_passThroughAll 10 = .ok (.iload_n 1, 1) := by decide +kernel
theorem dX2_passThroughAll_11 : decode cX2_passThroughAll 11 = .ok (.iconst 4, 1) := by decide +kernel
theorem dX2_passThroughAll_12 : decode cX2_passThroughAll 12 = .ok (.if_icmp .ge 21, 3) := by decide +kernel
theorem dX2_passThroughAll_15 : decode cX2_passThroughAll 15 = .ok (.aload_n 0, 1) := by decide +kernel
theorem dX2_passThroughAll_16 : decode cX2_passThroughAll 16 = .ok (.getfield 25, 3) := by decide +kernel
theorem dX2_passThroughAll_19 : decode cX2_passThroughAll 19 = .ok (.iload_n 1, 1) := by decide +kernel
theorem dX2_passThroughAll_20 : decode cX2_passThroughAll 20 = .ok (.aload_n 0, 1) := by decide +kernel
theorem dX2_passThroughAll_21 : decode cX2_passThroughAll 21 = .ok (.getfield 15, 3) := by decide +kernel
theorem dX2_passThroughAll_24 : decode cX2_passThroughAll 24 = .ok (.iload_n 1, 1) := by decide +kernel
theorem dX2_passThroughAll_25 : decode cX2_passThroughAll 25 = .ok (.laload, 1) := by decide +kernel
theorem dX2_passThroughAll_26 : decode cX2_passThroughAll 26 = .ok (.lastore, 1) := by decide +kernel
theorem dX2_passThroughAll_27 : decode cX2_passThroughAll 27 = .ok (.iinc 1 1, 3) := by decide +kernel
theorem dX2_passThroughAll_30 : decode cX2_passThroughAll 30 = .ok (.goto (-28), 3) := by decide +kernel
theorem dX2_passThroughAll_33 : decode cX2_passThroughAll 33 = .ok (.aload_n 0, 1) := by decide +kernel
theorem dX2_passThroughAll_34 : decode cX2_passThroughAll 34 = .ok (.aload_n 0, 1) := by decide +kernel
theorem dX2_passThroughAll_35 : decode cX2_passThroughAll 35 = .ok (.getfield 41, 3) := by decide +kernel
theorem dX2_passThroughAll_38 : decode cX2_passThroughAll 38 = .ok (.lconst 1, 1) := by decide +kernel
theorem dX2_passThroughAll_39 : decode cX2_passThroughAll 39 = .ok (.invokevirtual 155, 3) := by decide +kernel
theorem dX2_passThroughAll_42 : decode cX2_passThroughAll 42 = .ok (.return_, 1) := by decide +kernel
theorem dX2_weightShare_0 : decode cX2_weightShare 0 = .ok (.aload_n 0, 1) := by decide +kernel
theorem dX2_weightShare_1 : decode cX2_weightShare 1 = .ok (.getfield 18, 3) := by decide +kernel
theorem dX2_weightShare_4 : decode cX2_weightShare 4 = .ok (.iload_n 1, 1) := by decide +kernel
theorem dX2_weightShare_5 : decode cX2_weightShare 5 = .ok (.laload, 1) := by decide +kernel
theorem dX2_weightShare_6 : decode cX2_weightShare 6 = .ok (.lconst 0, 1) := by decide +kernel
theorem dX2_weightShare_7 : decode cX2_weightShare 7 = .ok (.lcmp, 1) := by decide +kernel
theorem dX2_weightShare_8 : decode cX2_weightShare 8 = .ok (.ifCond .le 16, 3) := by decide +kernel
theorem dX2_weightShare_11 : decode cX2_weightShare 11 = .ok (.ldc2_w 159, 3) := by decide +kernel
theorem dX2_weightShare_14 : decode cX2_weightShare 14 = .ok (.aload_n 0, 1) := by decide +kernel
theorem dX2_weightShare_15 : decode cX2_weightShare 15 = .ok (.getfield 18, 3) := by decide +kernel
theorem dX2_weightShare_18 : decode cX2_weightShare 18 = .ok (.iload_n 1, 1) := by decide +kernel
theorem dX2_weightShare_19 : decode cX2_weightShare 19 = .ok (.laload, 1) := by decide +kernel
theorem dX2_weightShare_20 : decode cX2_weightShare 20 = .ok (.ldiv, 1) := by decide +kernel
theorem dX2_weightShare_21 : decode cX2_weightShare 21 = .ok (.goto 6, 3) := by decide +kernel
theorem dX2_weightShare_24 : decode cX2_weightShare 24 = .ok (.ldc2_w 159, 3) := by decide +kernel
theorem dX2_weightShare_27 : decode cX2_weightShare 27 = .ok (.lreturn, 1) := by decide +kernel
theorem dX2_sign_0 : decode cX2_sign 0 = .ok (.iload_n 0, 1) := by decide +kernel
theorem dX2_sign_1 : decode cX2_sign 1 = .ok (.iconst 2, 1) := by decide +kernel
theorem dX2_sign_2 : decode cX2_sign 2 = .ok (.irem, 1) := by decide +kernel
theorem dX2_sign_3 : decode cX2_sign 3 = .ok (.ifCond .ne 7, 3) := by decide +kernel
theorem dX2_sign_6 : decode cX2_sign 6 = .ok (.iconst 1, 1) := by decide +kernel
theorem dX2_sign_7 : decode cX2_sign 7 = .ok (.goto 4, 3) := by decide +kernel
theorem dX2_sign_10 : decode cX2_sign 10 = .ok (.iconst (-1), 1) := by decide +kernel
theorem dX2_sign_11 : decode cX2_sign 11 = .ok (.ireturn, 1) := by decide +kernel
theorem dX2_interpolate_0 : decode cX2_interpolate 0 = .ok (.aload_n 0, 1) := by decide +kernel
theorem dX2_interpolate_1 : decode cX2_interpolate 1 = .ok (.getfield 31, 3) := by decide +kernel
theorem dX2_interpolate_4 : decode cX2_interpolate 4 = .ok (.iconst 0, 1) := by decide +kernel
theorem dX2_interpolate_5 : decode cX2_interpolate 5 = .ok (.lconst 0, 1) := by decide +kernel
theorem dX2_interpolate_6 : decode cX2_interpolate 6 = .ok (.lastore, 1) := by decide +kernel
theorem dX2_interpolate_7 : decode cX2_interpolate 7 = .ok (.aload_n 0, 1) := by decide +kernel
theorem dX2_interpolate_8 : decode cX2_interpolate 8 = .ok (.getfield 31, 3) := by decide +kernel
theorem dX2_interpolate_11 : decode cX2_interpolate 11 = .ok (.iconst 1, 1) := by decide +kernel
theorem dX2_interpolate_12 : decode cX2_interpolate 12 = .ok (.lconst 0, 1) := by decide +kernel
theorem dX2_interpolate_13 : decode cX2_interpolate 13 = .ok (.lastore, 1) := by decide +kernel
theorem dX2_interpolate_14 : decode cX2_interpolate 14 = .ok (.aload_n 0, 1) := by decide +kernel
theorem dX2_interpolate_15 : decode cX2_interpolate 15 = .ok (.getfield 31, 3) := by decide +kernel
theorem dX2_interpolate_18 : decode cX2_interpolate 18 = .ok (.iconst 2, 1) := by decide +kernel
theorem dX2_interpolate_19 : decode cX2_interpolate 19 = .ok (.lconst 0, 1) := by decide +kernel
theorem dX2_interpolate_20 : decode cX2_interpolate 20 = .ok (.lastore, 1) := by decide +kernel
theorem dX2_interpolate_21 : decode cX2_interpolate 21 = .ok (.iconst 0, 1) := by decide +kernel
theorem dX2_interpolate_22 : decode cX2_interpolate 22 = .ok (.istore 4, 2) := by decide +kernel
theorem dX2_interpolate_24 : decode cX2_interpolate 24 = .ok (.iload 4, 2) := by decide +kernel
theorem dX2_interpolate_26 : decode cX2_interpolate 26 = .ok (.iload_n 1, 1) := by decide +kernel
theorem dX2_interpolate_27 : decode cX2_interpolate 27 = .ok (.if_icmp .ge 104, 3) := by decide +kernel
theorem dX2_interpolate_30 : decode cX2_interpolate 30 = .ok (.iload 4, 2) := by decide +kernel
theorem dX2_interpolate_32 : decode cX2_interpolate 32 = .ok (.iconst 4, 1) := by decide +kernel
theorem dX2_interpolate_33 : decode cX2_interpolate 33 = .ok (.if_icmp .ge 98, 3) := by decide +kernel
theorem dX2_interpolate_36 : decode cX2_interpolate 36 = .ok (.iload_n 1, 1) := by decide +kernel
theorem dX2_interpolate_37 : decode cX2_interpolate 37 = .ok (.iconst 1, 1) := by decide +kernel
theorem dX2_interpolate_38 : decode cX2_interpolate 38 = .ok (.isub, 1) := by decide +kernel
theorem dX2_interpolate_39 : decode cX2_interpolate 39 = .ok (.iload 4, 2) := by decide +kernel
theorem dX2_interpolate_41 : decode cX2_interpolate 41 = .ok (.isub, 1) := by decide +kernel
theorem dX2_interpolate_42 : decode cX2_interpolate 42 = .ok (.invokestatic 148, 3) := by decide +kernel
theorem dX2_interpolate_45 : decode cX2_interpolate 45 = .ok (.i2l, 1) := by decide +kernel
theorem dX2_interpolate_46 : decode cX2_interpolate 46 = .ok (.aload_n 0, 1) := by decide +kernel
theorem dX2_interpolate_47 : decode cX2_interpolate 47 = .ok (.iload 4, 2) := by decide +kernel
theorem dX2_interpolate_49 : decode cX2_interpolate 49 = .ok (.iload_n 1, 1) := by decide +kernel
theorem dX2_interpolate_50 : decode cX2_interpolate 50 = .ok (.invokevirtual 144, 3) := by decide +kernel
theorem dX2_interpolate_53 : decode cX2_interpolate 53 = .ok (.lmul, 1) := by decide +kernel
theorem dX2_interpolate_54 : decode cX2_interpolate 54 = .ok (.aload_n 0, 1) := by decide +kernel
theorem dX2_interpolate_55 : decode cX2_interpolate 55 = .ok (.getfield 25, 3) := by decide +kernel
theorem dX2_interpolate_58 : decode cX2_interpolate 58 = .ok (.iload 4, 2) := by decide +kernel
theorem dX2_interpolate_60 : decode cX2_interpolate 60 = .ok (.laload, 1) := by decide +kernel
theorem dX2_interpolate_61 : decode cX2_interpolate 61 = .ok (.lmul, 1) := by decide +kernel
theorem dX2_interpolate_62 : decode cX2_interpolate 62 = .ok (.lstore 5, 2) := by decide +kernel
theorem dX2_interpolate_64 : decode cX2_interpolate 64 = .ok (.aload_n 0, 1) := by decide +kernel
theorem dX2_interpolate_65 : decode cX2_interpolate 65 = .ok (.iload 4, 2) := by decide +kernel
theorem dX2_interpolate_67 : decode cX2_interpolate 67 = .ok (.iload_n 1, 1) := by decide +kernel
theorem dX2_interpolate_68 : decode cX2_interpolate 68 = .ok (.invokevirtual 161, 3) := by decide +kernel
theorem dX2_interpolate_71 : decode cX2_interpolate 71 = .ok (.aload_n 0, 1) := by decide +kernel
theorem dX2_interpolate_72 : decode cX2_interpolate 72 = .ok (.getfield 31, 3) := by decide +kernel
theorem dX2_interpolate_75 : decode cX2_interpolate 75 = .ok (.iconst 0, 1) := by decide +kernel
theorem dX2_interpolate_76 : decode cX2_interpolate 76 = .ok (.dup2, 1) := by decide +kernel
theorem dX2_interpolate_77 : decode cX2_interpolate 77 = .ok (.laload, 1) := by decide +kernel
theorem dX2_interpolate_78 : decode cX2_interpolate 78 = .ok (.lload 5, 2) := by decide +kernel
theorem dX2_interpolate_80 : decode cX2_interpolate 80 = .ok (.aload_n 0, 1) := by decide +kernel
theorem dX2_interpolate_81 : decode cX2_interpolate 81 = .ok (.getfield 28, 3) := by decide +kernel
theorem dX2_interpolate_84 : decode cX2_interpolate 84 = .ok (.iconst 0, 1) := by decide +kernel
theorem dX2_interpolate_85 : decode cX2_interpolate 85 = .ok (.laload, 1) := by decide +kernel
theorem dX2_interpolate_86 : decode cX2_interpolate 86 = .ok (.lmul, 1) := by decide +kernel
theorem dX2_interpolate_87 : decode cX2_interpolate 87 = .ok (.ladd, 1) := by decide +kernel
theorem dX2_interpolate_88 : decode cX2_interpolate 88 = .ok (.lastore, 1) := by decide +kernel
theorem dX2_interpolate_89 : decode cX2_interpolate 89 = .ok (.aload_n 0, 1) := by decide +kernel
theorem dX2_interpolate_90 : decode cX2_interpolate 90 = .ok (.getfield 31, 3) := by decide +kernel
theorem dX2_interpolate_93 : decode cX2_interpolate 93 = .ok (.iconst 1, 1) := by decide +kernel
theorem dX2_interpolate_94 : decode cX2_interpolate 94 = .ok (.dup2, 1) := by decide +kernel
theorem dX2_interpolate_95 : decode cX2_interpolate 95 = .ok (.laload, 1) := by decide +kernel
theorem dX2_interpolate_96 : decode cX2_interpolate 96 = .ok (.lload 5, 2) := by decide +kernel
theorem dX2_interpolate_98 : decode cX2_interpolate 98 = .ok (.aload_n 0, 1) := by decide +kernel
theorem dX2_interpolate_99 : decode cX2_interpolate 99 = .ok (.getfield 28, 3) := by decide +kernel
theorem dX2_interpolate_102 : decode cX2_interpolate 102 = .ok (.iconst 1, 1) := by decide +kernel
theorem dX2_interpolate_103 : decode cX2_interpolate 103 = .ok (.laload, 1) := by decide +kernel
theorem dX2_interpolate_104 : decode cX2_interpolate 104 = .ok (.lmul, 1) := by decide +kernel
theorem dX2_interpolate_105 : decode cX2_interpolate 105 = .ok (.ladd, 1) := by decide +kernel
theorem dX2_interpolate_106 : decode cX2_interpolate 106 = .ok (.lastore, 1) := by decide +kernel
theorem dX2_interpolate_107 : decode cX2_interpolate 107 = .ok (.aload_n 0, 1) := by decide +kernel
theorem dX2_interpolate_108 : decode cX2_interpolate 108 = .ok (.getfield 31, 3) := by decide +kernel
theorem dX2_interpolate_111 : decode cX2_interpolate 111 = .ok (.iconst 2, 1) := by decide +kernel
theorem dX2_interpolate_112 : decode cX2_interpolate 112 = .ok (.dup2, 1) := by decide +kernel
theorem dX2_interpolate_113 : decode cX2_interpolate 113 = .ok (.laload, 1) := by decide +kernel
theorem dX2_interpolate_114 : decode cX2_interpolate 114 = .ok (.lload 5, 2) := by decide +kernel
theorem dX2_interpolate_116 : decode cX2_interpolate 116 = .ok (.aload_n 0, 1) := by decide +kernel
theorem dX2_interpolate_117 : decode cX2_interpolate 117 = .ok (.getfield 28, 3) := by decide +kernel
theorem dX2_interpolate_120 : decode cX2_interpolate 120 = .ok (.iconst 2, 1) := by decide +kernel
theorem dX2_interpolate_121 : decode cX2_interpolate 121 = .ok (.laload, 1) := by decide +kernel
theorem dX2_interpolate_122 : decode cX2_interpolate 122 = .ok (.lmul, 1) := by decide +kernel
theorem dX2_interpolate_123 : decode cX2_interpolate 123 = .ok (.ladd, 1) := by decide +kernel
theorem dX2_interpolate_124 : decode cX2_interpolate 124 = .ok (.lastore, 1) := by decide +kernel
theorem dX2_interpolate_125 : decode cX2_interpolate 125 = .ok (.iinc 4 1, 3) := by decide +kernel
theorem dX2_interpolate_128 : decode cX2_interpolate 128 = .ok (.goto (-104), 3) := by decide +kernel
theorem dX2_interpolate_131 : decode cX2_interpolate 131 = .ok (.aload_n 0, 1) := by decide +kernel
theorem dX2_interpolate_132 : decode cX2_interpolate 132 = .ok (.getfield 37, 3) := by decide +kernel
theorem dX2_interpolate_135 : decode cX2_interpolate 135 = .ok (.aload_n 0, 1) := by decide +kernel
theorem dX2_interpolate_136 : decode cX2_interpolate 136 = .ok (.getfield 31, 3) := by decide +kernel
theorem dX2_interpolate_139 : decode cX2_interpolate 139 = .ok (.iconst 0, 1) := by decide +kernel
theorem dX2_interpolate_140 : decode cX2_interpolate 140 = .ok (.laload, 1) := by decide +kernel
theorem dX2_interpolate_141 : decode cX2_interpolate 141 = .ok (.aload_n 0, 1) := by decide +kernel
theorem dX2_interpolate_142 : decode cX2_interpolate 142 = .ok (.getfield 31, 3) := by decide +kernel
theorem dX2_interpolate_145 : decode cX2_interpolate 145 = .ok (.iconst 1, 1) := by decide +kernel
theorem dX2_interpolate_146 : decode cX2_interpolate 146 = .ok (.laload, 1) := by decide +kernel
theorem dX2_interpolate_147 : decode cX2_interpolate 147 = .ok (.aload_n 0, 1) := by decide +kernel
theorem dX2_interpolate_148 : decode cX2_interpolate 148 = .ok (.getfield 31, 3) := by decide +kernel
theorem dX2_interpolate_151 : decode cX2_interpolate 151 = .ok (.iconst 2, 1) := by decide +kernel
theorem dX2_interpolate_152 : decode cX2_interpolate 152 = .ok (.laload, 1) := by decide +kernel
theorem dX2_interpolate_153 : decode cX2_interpolate 153 = .ok (.lload_n 2, 1) := by decide +kernel
theorem dX2_interpolate_154 : decode cX2_interpolate 154 = .ok (.aload_n 0, 1) := by decide +kernel
theorem dX2_interpolate_155 : decode cX2_interpolate 155 = .ok (.iconst (-1), 1) := by decide +kernel
theorem dX2_interpolate_156 : decode cX2_interpolate 156 = .ok (.iload_n 1, 1) := by decide +kernel
theorem dX2_interpolate_157 : decode cX2_interpolate 157 = .ok (.invokevirtual 144, 3) := by decide +kernel
theorem dX2_interpolate_160 : decode cX2_interpolate 160 = .ok (.lmul, 1) := by decide +kernel
theorem dX2_interpolate_161 : decode cX2_interpolate 161 = .ok (.invokevirtual 103, 3) := by decide +kernel
theorem dX2_interpolate_164 : decode cX2_interpolate 164 = .ok (.return_, 1) := by decide +kernel
theorem dX2_makeBasis_0 : decode cX2_makeBasis 0 = .ok (.aload_n 0, 1) := by decide +kernel
theorem dX2_makeBasis_1 : decode cX2_makeBasis 1 = .ok (.getfield 28, 3) := by decide +kernel
theorem dX2_makeBasis_4 : decode cX2_makeBasis 4 = .ok (.iconst 0, 1) := by decide +kernel
theorem dX2_makeBasis_5 : decode cX2_makeBasis 5 = .ok (.lconst 1, 1) := by decide +kernel
theorem dX2_makeBasis_6 : decode cX2_makeBasis 6 = .ok (.lastore, 1) := by decide +kernel
theorem dX2_makeBasis_7 : decode cX2_makeBasis 7 = .ok (.aload_n 0, 1) := by decide +kernel
theorem dX2_makeBasis_8 : decode cX2_makeBasis 8 = .ok (.getfield 28, 3) := by decide +kernel
theorem dX2_makeBasis_11 : decode cX2_makeBasis 11 = .ok (.iconst 1, 1) := by decide +kernel
theorem dX2_makeBasis_12 : decode cX2_makeBasis 12 = .ok (.lconst 0, 1) := by decide +kernel
theorem dX2_makeBasis_13 : decode cX2_makeBasis 13 = .ok (.lastore, 1) := by decide +kernel
theorem dX2_makeBasis_14 : decode cX2_makeBasis 14 = .ok (.aload_n 0, 1) := by decide +kernel
theorem dX2_makeBasis_15 : decode cX2_makeBasis 15 = .ok (.getfield 28, 3) := by decide +kernel
theorem dX2_makeBasis_18 : decode cX2_makeBasis 18 = .ok (.iconst 2, 1) := by decide +kernel
theorem dX2_makeBasis_19 : decode cX2_makeBasis 19 = .ok (.lconst 0, 1) := by decide +kernel
theorem dX2_makeBasis_20 : decode cX2_makeBasis 20 = .ok (.lastore, 1) := by decide +kernel
theorem dX2_makeBasis_21 : decode cX2_makeBasis 21 = .ok (.iconst 0, 1) := by decide +kernel
theorem dX2_makeBasis_22 : decode cX2_makeBasis 22 = .ok (.istore_n 3, 1) := by decide +kernel
theorem dX2_makeBasis_23 : decode cX2_makeBasis 23 = .ok (.iload_n 3, 1) := by decide +kernel
theorem dX2_makeBasis_24 : decode cX2_makeBasis 24 = .ok (.iload_n 2, 1) := by decide +kernel
theorem dX2_makeBasis_25 : decode cX2_makeBasis 25 = .ok (.if_icmp .ge 92, 3) := by decide +kernel
theorem dX2_makeBasis_28 : decode cX2_makeBasis 28 = .ok (.iload_n 3, 1) := by decide +kernel
theorem dX2_makeBasis_29 : decode cX2_makeBasis 29 = .ok (.iconst 4, 1) := by decide +kernel
theorem dX2_makeBasis_30 : decode cX2_makeBasis 30 = .ok (.if_icmp .ge 87, 3) := by decide +kernel
theorem dX2_makeBasis_33 : decode cX2_makeBasis 33 = .ok (.iload_n 3, 1) := by decide +kernel
theorem dX2_makeBasis_34 : decode cX2_makeBasis 34 = .ok (.iload_n 1, 1) := by decide +kernel
theorem dX2_makeBasis_35 : decode cX2_makeBasis 35 = .ok (.if_icmp .eq 76, 3) := by decide +kernel
theorem dX2_makeBasis_38 : decode cX2_makeBasis 38 = .ok (.aload_n 0, 1) := by decide +kernel
theorem dX2_makeBasis_39 : decode cX2_makeBasis 39 = .ok (.getfield 9, 3) := by decide +kernel
theorem dX2_makeBasis_42 : decode cX2_makeBasis 42 = .ok (.aload_n 0, 1) := by decide +kernel
theorem dX2_makeBasis_43 : decode cX2_makeBasis 43 = .ok (.getfield 21, 3) := by decide +kernel
theorem dX2_makeBasis_46 : decode cX2_makeBasis 46 = .ok (.iload_n 3, 1) := by decide +kernel
theorem dX2_makeBasis_47 : decode cX2_makeBasis 47 = .ok (.iaload, 1) := by decide +kernel
theorem dX2_makeBasis_48 : decode cX2_makeBasis 48 = .ok (.laload, 1) := by decide +kernel
theorem dX2_makeBasis_49 : decode cX2_makeBasis 49 = .ok (.lstore 4, 2) := by decide +kernel
theorem dX2_makeBasis_51 : decode cX2_makeBasis 51 = .ok (.aload_n 0, 1) := by decide +kernel
theorem dX2_makeBasis_52 : decode cX2_makeBasis 52 = .ok (.getfield 28, 3) := by decide +kernel
theorem dX2_makeBasis_55 : decode cX2_makeBasis 55 = .ok (.iconst 2, 1) := by decide +kernel
theorem dX2_makeBasis_56 : decode cX2_makeBasis 56 = .ok (.aload_n 0, 1) := by decide +kernel
theorem dX2_makeBasis_57 : decode cX2_makeBasis 57 = .ok (.getfield 28, 3) := by decide +kernel
theorem dX2_makeBasis_60 : decode cX2_makeBasis 60 = .ok (.iconst 1, 1) := by decide +kernel
theorem dX2_makeBasis_61 : decode cX2_makeBasis 61 = .ok (.laload, 1) := by decide +kernel
theorem dX2_makeBasis_62 : decode cX2_makeBasis 62 = .ok (.lload 4, 2) := by decide +kernel
theorem dX2_makeBasis_64 : decode cX2_makeBasis 64 = .ok (.aload_n 0, 1) := by decide +kernel
theorem dX2_makeBasis_65 : decode cX2_makeBasis 65 = .ok (.getfield 28, 3) := by decide +kernel
theorem dX2_makeBasis_68 : decode cX2_makeBasis 68 = .ok (.iconst 2, 1) := by decide +kernel
theorem dX2_makeBasis_69 : decode cX2_makeBasis 69 = .ok (.laload, 1) := by decide +kernel
theorem dX2_makeBasis_70 : decode cX2_makeBasis 70 = .ok (.lmul, 1) := by decide +kernel
theorem dX2_makeBasis_71 : decode cX2_makeBasis 71 = .ok (.lsub, 1) := by decide +kernel
theorem dX2_makeBasis_72 : decode cX2_makeBasis 72 = .ok (.lastore, 1) := by decide +kernel
theorem dX2_makeBasis_73 : decode cX2_makeBasis 73 = .ok (.aload_n 0, 1) := by decide +kernel
theorem dX2_makeBasis_74 : decode cX2_makeBasis 74 = .ok (.getfield 28, 3) := by decide +kernel
theorem dX2_makeBasis_77 : decode cX2_makeBasis 77 = .ok (.iconst 1, 1) := by decide +kernel
theorem dX2_makeBasis_78 : decode cX2_makeBasis 78 = .ok (.aload_n 0, 1) := by decide +kernel
theorem dX2_makeBasis_79 : decode cX2_makeBasis 79 = .ok (.getfield 28, 3) := by decide +kernel
theorem dX2_makeBasis_82 : decode cX2_makeBasis 82 = .ok (.iconst 0, 1) := by decide +kernel
theorem dX2_makeBasis_83 : decode cX2_makeBasis 83 = .ok (.laload, 1) := by decide +kernel
theorem dX2_makeBasis_84 : decode cX2_makeBasis 84 = .ok (.lload 4, 2) := by decide +kernel
theorem dX2_makeBasis_86 : decode cX2_makeBasis 86 = .ok (.aload_n 0, 1) := by decide +kernel
theorem dX2_makeBasis_87 : decode cX2_makeBasis 87 = .ok (.getfield 28, 3) := by decide +kernel
theorem dX2_makeBasis_90 : decode cX2_makeBasis 90 = .ok (.iconst 1, 1) := by decide +kernel
theorem dX2_makeBasis_91 : decode cX2_makeBasis 91 = .ok (.laload, 1) := by decide +kernel
theorem dX2_makeBasis_92 : decode cX2_makeBasis 92 = .ok (.lmul, 1) := by decide +kernel
theorem dX2_makeBasis_93 : decode cX2_makeBasis 93 = .ok (.lsub, 1) := by decide +kernel
theorem dX2_makeBasis_94 : decode cX2_makeBasis 94 = .ok (.lastore, 1) := by decide +kernel
theorem dX2_makeBasis_95 : decode cX2_makeBasis 95 = .ok (.aload_n 0, 1) := by decide +kernel
theorem dX2_makeBasis_96 : decode cX2_makeBasis 96 = .ok (.getfield 28, 3) := by decide +kernel
theorem dX2_makeBasis_99 : decode cX2_makeBasis 99 = .ok (.iconst 0, 1) := by decide +kernel
theorem dX2_makeBasis_100 : decode cX2_makeBasis 100 = .ok (.lload 4, 2) := by decide +kernel
theorem dX2_makeBasis_102 : decode cX2_makeBasis 102 = .ok (.lneg, 1) := by decide +kernel
theorem dX2_makeBasis_103 : decode cX2_makeBasis 103 = .ok (.aload_n 0, 1) := by decide +kernel
theorem dX2_makeBasis_104 : decode cX2_makeBasis 104 = .ok (.getfield 28, 3) := by decide +kernel
theorem dX2_makeBasis_107 : decode cX2_makeBasis 107 = .ok (.iconst 0, 1) := by decide +kernel
theorem dX2_makeBasis_108 : decode cX2_makeBasis 108 = .ok (.laload, 1) := by decide +kernel
theorem dX2_makeBasis_109 : decode cX2_makeBasis 109 = .ok (.lmul, 1) := by decide +kernel
theorem dX2_makeBasis_110 : decode cX2_makeBasis 110 = .ok (.lastore, 1) := by decide +kernel
theorem dX2_makeBasis_111 : decode cX2_makeBasis 111 = .ok (.iinc 3 1, 3) := by decide +kernel
theorem dX2_makeBasis_114 : decode cX2_makeBasis 114 = .ok (.goto (-91), 3) := by decide +kernel
theorem dX2_makeBasis_117 : decode cX2_makeBasis 117 = .ok (.return_, 1) := by decide +kernel
theorem dX2_spreadWithout_0 : decode cX2_spreadWithout 0 = .ok (.lconst 1, 1) := by decide +kernel
theorem dX2_spreadWithout_1 : decode cX2_spreadWithout 1 = .ok (.lstore_n 3, 1) := by decide +kernel
theorem dX2_spreadWithout_2 : decode cX2_spreadWithout 2 = .ok (.iconst 0, 1) := by decide +kernel
theorem dX2_spreadWithout_3 : decode cX2_spreadWithout 3 = .ok (.istore 5, 2) := by decide +kernel
theorem dX2_spreadWithout_5 : decode cX2_spreadWithout 5 = .ok (.iload 5, 2) := by decide +kernel
theorem dX2_spreadWithout_7 : decode cX2_spreadWithout 7 = .ok (.iload_n 2, 1) := by decide +kernel
theorem dX2_spreadWithout_8 : decode cX2_spreadWithout 8 = .ok (.if_icmp .ge 79, 3) := by decide +kernel
theorem dX2_spreadWithout_11 : decode cX2_spreadWithout 11 = .ok (.iload 5, 2) := by decide +kernel
theorem dX2_spreadWithout_13 : decode cX2_spreadWithout 13 = .ok (.iconst 4, 1) := by decide +kernel
theorem dX2_spreadWithout_14 : decode cX2_spreadWithout 14 = .ok (.if_icmp .ge 73, 3) := by decide +kernel
theorem dX2_spreadWithout_17 : decode cX2_spreadWithout 17 = .ok (.iload 5, 2) := by decide +kernel
theorem dX2_spreadWithout_19 : decode cX2_spreadWithout 19 = .ok (.iconst 1, 1) := by decide +kernel
theorem dX2_spreadWithout_20 : decode cX2_spreadWithout 20 = .ok (.iadd, 1) := by decide +kernel
theorem dX2_spreadWithout_21 : decode cX2_spreadWithout 21 = .ok (.istore 6, 2) := by decide +kernel
theorem dX2_spreadWithout_23 : decode cX2_spreadWithout 23 = .ok (.iload 6, 2) := by decide +kernel
theorem dX2_spreadWithout_25 : decode cX2_spreadWithout 25 = .ok (.iload_n 2, 1) := by decide +kernel
theorem dX2_spreadWithout_26 : decode cX2_spreadWithout 26 = .ok (.if_icmp .ge 55, 3) := by decide +kernel
theorem dX2_spreadWithout_29 : decode cX2_spreadWithout 29 = .ok (.iload 6, 2) := by decide +kernel
theorem dX2_spreadWithout_31 : decode cX2_spreadWithout 31 = .ok (.iconst 4, 1) := by decide +kernel
theorem dX2_spreadWithout_32 : decode cX2_spreadWithout 32 = .ok (.if_icmp .ge 49, 3) := by decide +kernel
theorem dX2_spreadWithout_35 : decode cX2_spreadWithout 35 = .ok (.iload 5, 2) := by decide +kernel
theorem dX2_spreadWithout_37 : decode cX2_spreadWithout 37 = .ok (.iload_n 1, 1) := by decide +kernel
theorem dX2_spreadWithout_38 : decode cX2_spreadWithout 38 = .ok (.if_icmp .eq 37, 3) := by decide +kernel
theorem dX2_spreadWithout_41 : decode cX2_spreadWithout 41 = .ok (.iload 6, 2) := by decide +kernel
theorem dX2_spreadWithout_43 : decode cX2_spreadWithout 43 = .ok (.iload_n 1, 1) := by decide +kernel
theorem dX2_spreadWithout_44 : decode cX2_spreadWithout 44 = .ok (.if_icmp .eq 31, 3) := by decide +kernel
theorem dX2_spreadWithout_47 : decode cX2_spreadWithout 47 = .ok (.lload_n 3, 1) := by decide +kernel
theorem dX2_spreadWithout_48 : decode cX2_spreadWithout 48 = .ok (.aload_n 0, 1) := by decide +kernel
theorem dX2_spreadWithout_49 : decode cX2_spreadWithout 49 = .ok (.getfield 9, 3) := by decide +kernel
theorem dX2_spreadWithout_52 : decode cX2_spreadWithout 52 = .ok (.aload_n 0, 1) := by decide +kernel
theorem dX2_spreadWithout_53 : decode cX2_spreadWithout 53 = .ok (.getfield 21, 3) := by decide +kernel
theorem dX2_spreadWithout_56 : decode cX2_spreadWithout 56 = .ok (.iload 6, 2) := by decide +kernel
theorem dX2_spreadWithout_58 : decode cX2_spreadWithout 58 = .ok (.iaload, 1) := by decide +kernel
theorem dX2_spreadWithout_59 : decode cX2_spreadWithout 59 = .ok (.laload, 1) := by decide +kernel
theorem dX2_spreadWithout_60 : decode cX2_spreadWithout 60 = .ok (.aload_n 0, 1) := by decide +kernel
theorem dX2_spreadWithout_61 : decode cX2_spreadWithout 61 = .ok (.getfield 9, 3) := by decide +kernel
theorem dX2_spreadWithout_64 : decode cX2_spreadWithout 64 = .ok (.aload_n 0, 1) := by decide +kernel
theorem dX2_spreadWithout_65 : decode cX2_spreadWithout 65 = .ok (.getfield 21, 3) := by decide +kernel
theorem dX2_spreadWithout_68 : decode cX2_spreadWithout 68 = .ok (.iload 5, 2) := by decide +kernel
theorem dX2_spreadWithout_70 : decode cX2_spreadWithout 70 = .ok (.iaload, 1) := by decide +kernel
theorem dX2_spreadWithout_71 : decode cX2_spreadWithout 71 = .ok (.laload, 1) := by decide +kernel
theorem dX2_spreadWithout_72 : decode cX2_spreadWithout 72 = .ok (.lsub, 1) := by decide +kernel
theorem dX2_spreadWithout_73 : decode cX2_spreadWithout 73 = .ok (.lmul, 1) := by decide +kernel
theorem dX2_spreadWithout_74 : decode cX2_spreadWithout 74 = .ok (.lstore_n 3, 1) := by decide +kernel
theorem dX2_spreadWithout_75 : decode cX2_spreadWithout 75 = .ok (.iinc 6 1, 3) := by decide +kernel
theorem dX2_spreadWithout_78 : decode cX2_spreadWithout 78 = .ok (.goto (-55), 3) := by decide +kernel
theorem dX2_spreadWithout_81 : decode cX2_spreadWithout 81 = .ok (.iinc 5 1, 3) := by decide +kernel
theorem dX2_spreadWithout_84 : decode cX2_spreadWithout 84 = .ok (.goto (-79), 3) := by decide +kernel
theorem dX2_spreadWithout_87 : decode cX2_spreadWithout 87 = .ok (.lload_n 3, 1) := by decide +kernel
theorem dX2_spreadWithout_88 : decode cX2_spreadWithout 88 = .ok (.lreturn, 1) := by decide +kernel
theorem dX1_init_0 : decode cX1_init 0 = .ok (.aload_n 0, 1) := by decide +kernel
theorem dX1_init_1 : decode cX1_init 1 = .ok (.invokespecial 3, 3) := by decide +kernel
theorem dX1_init_4 : decode cX1_init 4 = .ok (.aload_n 0, 1) := by decide +kernel
theorem dX1_init_5 : decode cX1_init 5 = .ok (.iload_n 1, 1) := by decide +kernel
theorem dX1_init_6 : decode cX1_init 6 = .ok (.putfield 9, 3) := by decide +kernel
theorem dX1_init_9 : decode cX1_init 9 = .ok (.aload_n 0, 1) := by decide +kernel
theorem dX1_init_10 : decode cX1_init 10 = .ok (.iload_n 2, 1) := by decide +kernel
theorem dX1_init_11 : decode cX1_init 11 = .ok (.putfield 15, 3) := by decide +kernel
theorem dX1_init_14 : decode cX1_init 14 = .ok (.aload_n 0, 1) := by decide +kernel
theorem dX1_init_15 : decode cX1_init 15 = .ok (.iload_n 3, 1) := by decide +kernel
theorem dX1_init_16 : decode cX1_init 16 = .ok (.putfield 18, 3) := by decide +kernel
theorem dX1_init_19 : decode cX1_init 19 = .ok (.aload_n 0, 1) := by decide +kernel
theorem dX1_init_20 : decode cX1_init 20 = .ok (.aload 4, 2) := by decide +kernel
theorem dX1_init_22 : decode cX1_init 22 = .ok (.putfield 21, 3) := by decide +kernel
theorem dX1_init_25 : decode cX1_init 25 = .ok (.iload_n 2, 1) := by decide +kernel
theorem dX1_init_26 : decode cX1_init 26 = .ok (.iconst 4, 1) := by decide +kernel
theorem dX1_init_27 : decode cX1_init 27 = .ok (.if_icmp .ne 15, 3) := by decide +kernel
theorem dX1_init_30 : decode cX1_init 30 = .ok (.aload 4, 2) := by decide +kernel
theorem dX1_init_32 : decode cX1_init 32 = .ok (.getfield 25, 3) := by decide +kernel
theorem dX1_init_35 : decode cX1_init 35 = .ok (.iconst 1, 1) := by decide +kernel
theorem dX1_init_36 : decode cX1_init 36 = .ok (.invokestatic 30, 3) := by decide +kernel
theorem dX1_init_39 : decode cX1_init 39 = .ok (.goto 4, 3) := by decide +kernel
theorem dX1_init_42 : decode cX1_init 42 = .ok (.iconst 1, 1) := by decide +kernel
theorem dX1_init_43 : decode cX1_init 43 = .ok (.istore 5, 2) := by decide +kernel
theorem dX1_init_45 : decode cX1_init 45 = .ok (.aload_n 0, 1) := by decide +kernel
theorem dX1_init_46 : decode cX1_init 46 = .ok (.iload 5, 2) := by decide +kernel
theorem dX1_init_48 : decode cX1_init 48 = .ok (.anewarray 36, 3) := by decide +kernel
theorem dX1_init_51 : decode cX1_init 51 = .ok (.putfield 38, 3) := by decide +kernel
theorem dX1_init_54 : decode cX1_init 54 = .ok (.aload_n 0, 1) := by decide +kernel
theorem dX1_init_55 : decode cX1_init 55 = .ok (.iload 5, 2) := by decide +kernel
theorem dX1_init_57 : decode cX1_init 57 = .ok (.newarray .int, 2) := by decide +kernel
theorem dX1_init_59 : decode cX1_init 59 = .ok (.putfield 42, 3) := by decide +kernel
theorem dX1_init_62 : decode cX1_init 62 = .ok (.aload_n 0, 1) := by decide +kernel
theorem dX1_init_63 : decode cX1_init 63 = .ok (.getfield 38, 3) := by decide +kernel
theorem dX1_init_66 : decode cX1_init 66 = .ok (.iconst 0, 1) := by decide +kernel
theorem dX1_init_67 : decode cX1_init 67 = .ok (.new 36, 3) := by decide +kernel
theorem dX1_init_70 : decode cX1_init 70 = .ok (.dup, 1) := by decide +kernel
theorem dX1_init_71 : decode cX1_init 71 = .ok (.invokespecial 46, 3) := by decide +kernel
theorem dX1_init_74 : decode cX1_init 74 = .ok (.aastore, 1) := by decide +kernel
theorem dX1_init_75 : decode cX1_init 75 = .ok (.aload_n 0, 1) := by decide +kernel
theorem dX1_init_76 : decode cX1_init 76 = .ok (.iload_n 2, 1) := by decide +kernel
theorem dX1_init_77 : decode cX1_init 77 = .ok (.iconst 4, 1) := by decide +kernel
theorem dX1_init_78 : decode cX1_init 78 = .ok (.if_icmp .ne 7, 3) := by decide +kernel
theorem dX1_init_81 : decode cX1_init 81 = .ok (.iconst 0, 1) := by decide +kernel
theorem dX1_init_82 : decode cX1_init 82 = .ok (.goto 4, 3) := by decide +kernel
theorem dX1_init_85 : decode cX1_init 85 = .ok (.iconst 1, 1) := by decide +kernel
theorem dX1_init_86 : decode cX1_init 86 = .ok (.putfield 47, 3) := by decide +kernel
theorem dX1_init_89 : decode cX1_init 89 = .ok (.return_, 1) := by decide +kernel
theorem dX1_firstPart_0 : decode cX1_firstPart 0 = .ok (.aload_n 0, 1) := by decide +kernel
theorem dX1_firstPart_1 : decode cX1_firstPart 1 = .ok (.getfield 38, 3) := by decide +kernel
theorem dX1_firstPart_4 : decode cX1_firstPart 4 = .ok (.iconst 0, 1) := by decide +kernel
theorem dX1_firstPart_5 : decode cX1_firstPart 5 = .ok (.aaload, 1) := by decide +kernel
theorem dX1_firstPart_6 : decode cX1_firstPart 6 = .ok (.areturn, 1) := by decide +kernel
theorem dX1_addPart_0 : decode cX1_addPart 0 = .ok (.new 36, 3) := by decide +kernel
theorem dX1_addPart_3 : decode cX1_addPart 3 = .ok (.dup, 1) := by decide +kernel
theorem dX1_addPart_4 : decode cX1_addPart 4 = .ok (.invokespecial 46, 3) := by decide +kernel
theorem dX1_addPart_7 : decode cX1_addPart 7 = .ok (.astore_n 2, 1) := by decide +kernel
theorem dX1_addPart_8 : decode cX1_addPart 8 = .ok (.aload_n 0, 1) := by decide +kernel
theorem dX1_addPart_9 : decode cX1_addPart 9 = .ok (.getfield 47, 3) := by decide +kernel
theorem dX1_addPart_12 : decode cX1_addPart 12 = .ok (.aload_n 0, 1) := by decide +kernel
theorem dX1_addPart_13 : decode cX1_addPart 13 = .ok (.getfield 38, 3) := by decide +kernel
theorem dX1_addPart_16 : decode cX1_addPart 16 = .ok (.arraylength, 1) := by decide +kernel
theorem dX1_addPart_17 : decode cX1_addPart 17 = .ok (.if_icmp .ge 33, 3) := by decide +kernel
theorem dX1_addPart_20 : decode cX1_addPart 20 = .ok (.aload_n 0, 1) := by decide +kernel
theorem dX1_addPart_21 : decode cX1_addPart 21 = .ok (.getfield 38, 3) := by decide +kernel
theorem dX1_addPart_24 : decode cX1_addPart 24 = .ok (.aload_n 0, 1) := by decide +kernel
theorem dX1_addPart_25 : decode cX1_addPart 25 = .ok (.getfield 47, 3) := by decide +kernel
theorem dX1_addPart_28 : decode cX1_addPart 28 = .ok (.aload_n 2, 1) := by decide +kernel
theorem dX1_addPart_29 : decode cX1_addPart 29 = .ok (.aastore, 1) := by decide +kernel
theorem dX1_addPart_30 : decode cX1_addPart 30 = .ok (.aload_n 0, 1) := by decide +kernel
theorem dX1_addPart_31 : decode cX1_addPart 31 = .ok (.getfield 42, 3) := by decide +kernel
theorem dX1_addPart_34 : decode cX1_addPart 34 = .ok (.aload_n 0, 1) := by decide +kernel
theorem dX1_addPart_35 : decode cX1_addPart 35 = .ok (.getfield 47, 3) := by decide +kernel
theorem dX1_addPart_38 : decode cX1_addPart 38 = .ok (.iload_n 1, 1) := by decide +kernel
theorem dX1_addPart_39 : decode cX1_addPart 39 = .ok (.iastore, 1) := by decide +kernel
theorem dX1_addPart_40 : decode cX1_addPart 40 = .ok (.aload_n 0, 1) := by decide +kernel
theorem dX1_addPart_41 : decode cX1_addPart 41 = .ok (.dup, 1) := by decide +kernel
theorem dX1_addPart_42 : decode cX1_addPart 42 = .ok (.getfield 47, 3) := by decide +kernel
theorem dX1_addPart_45 : decode cX1_addPart 45 = .ok (.iconst 1, 1) := by decide +kernel
theorem dX1_addPart_46 : decode cX1_addPart 46 = .ok (.iadd, 1) := by decide +kernel
theorem dX1_addPart_47 : decode cX1_addPart 47 = .ok (.putfield 47, 3) := by decide +kernel
theorem dX1_addPart_50 : decode cX1_addPart 50 = .ok (.aload_n 2, 1) := by decide +kernel
theorem dX1_addPart_51 : decode cX1_addPart 51 = .ok (.areturn, 1) := by decide +kernel
theorem dX1_hasPart_0 : decode cX1_hasPart 0 = .ok (.iload_n 1, 1) := by decide +kernel
theorem dX1_hasPart_1 : decode cX1_hasPart 1 = .ok (.ifCond .lt 15, 3) := by decide +kernel
theorem dX1_hasPart_4 : decode cX1_hasPart 4 = .ok (.iload_n 1, 1) := by decide +kernel
theorem dX1_hasPart_5 : decode cX1_hasPart 5 = .ok (.aload_n 0, 1) := by decide +kernel
theorem dX1_hasPart_6 : decode cX1_hasPart 6 = .ok (.getfield 47, 3) := by decide +kernel
theorem dX1_hasPart_9 : decode cX1_hasPart 9 = .ok (.if_icmp .ge 7, 3) := by decide +kernel
theorem dX1_hasPart_12 : decode cX1_hasPart 12 = .ok (.iconst 1, 1) := by decide +kernel
theorem dX1_hasPart_13 : decode cX1_hasPart 13 = .ok (.goto 4, 3) := by decide +kernel
theorem dX1_hasPart_16 : decode cX1_hasPart 16 = .ok (.iconst 0, 1) := by decide +kernel
theorem dX1_hasPart_17 : decode cX1_hasPart 17 = .ok (.ireturn, 1) := by decide +kernel
theorem dX1_partFor_0 : decode cX1_partFor 0 = .ok (.iconst 0, 1) := by decide +kernel
theorem dX1_partFor_1 : decode cX1_partFor 1 = .ok (.istore_n 2, 1) := by decide +kernel
theorem dX1_partFor_2 : decode cX1_partFor 2 = .ok (.iconst 1, 1) := by decide +kernel
theorem dX1_partFor_3 : decode cX1_partFor 3 = .ok (.istore_n 3, 1) := by decide +kernel
theorem dX1_partFor_4 : decode cX1_partFor 4 = .ok (.iload_n 3, 1) := by decide +kernel
theorem dX1_partFor_5 : decode cX1_partFor 5 = .ok (.aload_n 0, 1) := by decide +kernel
theorem dX1_partFor_6 : decode cX1_partFor 6 = .ok (.getfield 47, 3) := by decide +kernel
theorem dX1_partFor_9 : decode cX1_partFor 9 = .ok (.if_icmp .ge 29, 3) := by decide +kernel
theorem dX1_partFor_12 : decode cX1_partFor 12 = .ok (.aload_n 0, 1) := by decide +kernel
theorem dX1_partFor_13 : decode cX1_partFor 13 = .ok (.getfield 21, 3) := by decide +kernel
theorem dX1_partFor_16 : decode cX1_partFor 16 = .ok (.getfield 50, 3) := by decide +kernel
theorem dX1_partFor_19 : decode cX1_partFor 19 = .ok (.aload_n 0, 1) := by decide +kernel
theorem dX1_partFor_20 : decode cX1_partFor 20 = .ok (.getfield 42, 3) := by decide +kernel
theorem dX1_partFor_23 : decode cX1_partFor 23 = .ok (.iload_n 3, 1) := by decide +kernel
theorem dX1_partFor_24 : decode cX1_partFor 24 = .ok (.iaload, 1) := by decide +kernel
theorem dX1_partFor_25 : decode cX1_partFor 25 = .ok (.iaload, 1) := by decide +kernel
theorem dX1_partFor_26 : decode cX1_partFor 26 = .ok (.iload_n 1, 1) := by decide +kernel
theorem dX1_partFor_27 : decode cX1_partFor 27 = .ok (.if_icmp .gt 5, 3) := by decide +kernel
theorem dX1_partFor_30 : decode cX1_partFor 30 = .ok (.iload_n 3, 1) := by decide +kernel
theorem dX1_partFor_31 : decode cX1_partFor 31 = .ok (.istore_n 2, 1) := by decide +kernel
theorem dX1_partFor_32 : decode cX1_partFor 32 = .ok (.iinc 3 1, 3) := by decide +kernel
theorem dX1_partFor_35 : decode cX1_partFor 35 = .ok (.goto (-31), 3) := by decide +kernel
theorem dX1_partFor_38 : decode cX1_partFor 38 = .ok (.aload_n 0, 1) := by decide +kernel
theorem dX1_partFor_39 : decode cX1_partFor 39 = .ok (.getfield 38, 3) := by decide +kernel
theorem dX1_partFor_42 : decode cX1_partFor 42 = .ok (.iload_n 2, 1) := by decide +kernel
theorem dX1_partFor_43 : decode cX1_partFor 43 = .ok (.aaload, 1) := by decide +kernel
theorem dX1_partFor_44 : decode cX1_partFor 44 = .ok (.areturn, 1) := by decide +kernel
theorem dX1_missAbove_0 : decode cX1_missAbove 0 = .ok (.aload_n 0, 1) := by decide +kernel
theorem dX1_missAbove_1 : decode cX1_missAbove 1 = .ok (.getfield 21, 3) := by decide +kernel
theorem dX1_missAbove_4 : decode cX1_missAbove 4 = .ok (.iload_n 1, 1) := by decide +kernel
theorem dX1_missAbove_5 : decode cX1_missAbove 5 = .ok (.invokevirtual 53, 3) := by decide +kernel
theorem dX1_missAbove_8 : decode cX1_missAbove 8 = .ok (.ifCond .ne 5, 3) := by decide +kernel
theorem dX1_missAbove_11 : decode cX1_missAbove 11 = .ok (.lconst 0, 1) := by decide +kernel
theorem dX1_missAbove_12 : decode cX1_missAbove 12 = .ok (.lreturn, 1) := by decide +kernel
theorem dX1_missAbove_13 : decode cX1_missAbove 13 = .ok (.aload_n 0, 1) := by decide +kernel
theorem dX1_missAbove_14 : decode cX1_missAbove 14 = .ok (.getfield 21, 3) := by decide +kernel
theorem dX1_missAbove_17 : decode cX1_missAbove 17 = .ok (.getfield 50, 3) := by decide +kernel
theorem dX1_missAbove_20 : decode cX1_missAbove 20 = .ok (.iload_n 1, 1) := by decide +kernel
theorem dX1_missAbove_21 : decode cX1_missAbove 21 = .ok (.iaload, 1) := by decide +kernel
theorem dX1_missAbove_22 : decode cX1_missAbove 22 = .ok (.istore_n 2, 1) := by decide +kernel
theorem dX1_missAbove_23 : decode cX1_missAbove 23 = .ok (.aload_n 0, 1) := by decide +kernel
theorem dX1_missAbove_24 : decode cX1_missAbove 24 = .ok (.iload_n 2, 1) := by decide +kernel
theorem dX1_missAbove_25 : decode cX1_missAbove 25 = .ok (.invokevirtual 57, 3) := by decide +kernel
theorem dX1_missAbove_28 : decode cX1_missAbove 28 = .ok (.astore_n 3, 1) := by decide +kernel
theorem dX1_missAbove_29 : decode cX1_missAbove 29 = .ok (.aload_n 0, 1) := by decide +kernel
theorem dX1_missAbove_30 : decode cX1_missAbove 30 = .ok (.getfield 21, 3) := by decide +kernel
theorem dX1_missAbove_33 : decode cX1_missAbove 33 = .ok (.getfield 61, 3) := by decide +kernel
theorem dX1_missAbove_36 : decode cX1_missAbove 36 = .ok (.iload_n 1, 1) := by decide +kernel
theorem dX1_missAbove_37 : decode cX1_missAbove 37 = .ok (.iaload, 1) := by decide +kernel
theorem dX1_missAbove_38 : decode cX1_missAbove 38 = .ok (.i2l, 1) := by decide +kernel
theorem dX1_missAbove_39 : decode cX1_missAbove 39 = .ok (.aload_n 0, 1) := by decide +kernel
theorem dX1_missAbove_40 : decode cX1_missAbove 40 = .ok (.getfield 21, 3) := by decide +kernel
theorem dX1_missAbove_43 : decode cX1_missAbove 43 = .ok (.getfield 64, 3) := by decide +kernel
theorem dX1_missAbove_46 : decode cX1_missAbove 46 = .ok (.iload_n 1, 1) := by decide +kernel
theorem dX1_missAbove_47 : decode cX1_missAbove 47 = .ok (.iaload, 1) := by decide +kernel
theorem dX1_missAbove_48 : decode cX1_missAbove 48 = .ok (.i2l, 1) := by decide +kernel
theorem dX1_missAbove_49 : decode cX1_missAbove 49 = .ok (.aload_n 3, 1) := by decide +kernel
theorem dX1_missAbove_50 : decode cX1_missAbove 50 = .ok (.getfield 67, 3) := by decide +kernel
theorem dX1_missAbove_53 : decode cX1_missAbove 53 = .ok (.lmul, 1) := by decide +kernel
theorem dX1_missAbove_54 : decode cX1_missAbove 54 = .ok (.aload_n 3, 1) := by decide +kernel
theorem dX1_missAbove_55 : decode cX1_missAbove 55 = .ok (.iload_n 2, 1) := by decide +kernel
theorem dX1_missAbove_56 : decode cX1_missAbove 56 = .ok (.i2l, 1) := by decide +kernel
theorem dX1_missAbove_57 : decode cX1_missAbove 57 = .ok (.invokevirtual 71, 3) := by decide +kernel
theorem dX1_missAbove_60 : decode cX1_missAbove 60 = .ok (.lsub, 1) := by decide +kernel
theorem dX1_missAbove_61 : decode cX1_missAbove 61 = .ok (.lmul, 1) := by decide +kernel
theorem dX1_missAbove_62 : decode cX1_missAbove 62 = .ok (.lreturn, 1) := by decide +kernel
theorem dX1_missBelow_0 : decode cX1_missBelow 0 = .ok (.aload_n 0, 1) := by decide +kernel
theorem dX1_missBelow_1 : decode cX1_missBelow 1 = .ok (.getfield 21, 3) := by decide +kernel
theorem dX1_missBelow_4 : decode cX1_missBelow 4 = .ok (.iload_n 1, 1) := by decide +kernel
theorem dX1_missBelow_5 : decode cX1_missBelow 5 = .ok (.invokevirtual 53, 3) := by decide +kernel
theorem dX1_missBelow_8 : decode cX1_missBelow 8 = .ok (.ifCond .eq 22, 3) := by decide +kernel
theorem dX1_missBelow_11 : decode cX1_missBelow 11 = .ok (.aload_n 0, 1) := by decide +kernel
theorem dX1_missBelow_12 : decode cX1_missBelow 12 = .ok (.aload_n 0, 1) := by decide +kernel
theorem dX1_missBelow_13 : decode cX1_missBelow 13 = .ok (.getfield 21, 3) := by decide +kernel
theorem dX1_missBelow_16 : decode cX1_missBelow 16 = .ok (.getfield 50, 3) := by decide +kernel
theorem dX1_missBelow_19 : decode cX1_missBelow 19 = .ok (.iload_n 1, 1) := by decide +kernel
theorem dX1_missBelow_20 : decode cX1_missBelow 20 = .ok (.iaload, 1) := by decide +kernel
theorem dX1_missBelow_21 : decode cX1_missBelow 21 = .ok (.invokevirtual 57, 3) := by decide +kernel
theorem dX1_missBelow_24 : decode cX1_missBelow 24 = .ok (.getfield 67, 3) := by decide +kernel
theorem dX1_missBelow_27 : decode cX1_missBelow 27 = .ok (.goto 4, 3) := by decide +kernel
theorem dX1_missBelow_30 : decode cX1_missBelow 30 = .ok (.lconst 1, 1) := by decide +kernel
theorem dX1_missBelow_31 : decode cX1_missBelow 31 = .ok (.lreturn, 1) := by decide +kernel
theorem dX1_missSize_0 : decode cX1_missSize 0 = .ok (.aload_n 0, 1) := by decide +kernel
theorem dX1_missSize_1 : decode cX1_missSize 1 = .ok (.iload_n 1, 1) := by decide +kernel
theorem dX1_missSize_2 : decode cX1_missSize 2 = .ok (.invokevirtual 75, 3) := by decide +kernel
theorem dX1_missSize_5 : decode cX1_missSize 5 = .ok (.invokestatic 79, 3) := by decide +kernel
theorem dX1_missSize_8 : decode cX1_missSize 8 = .ok (.lreturn, 1) := by decide +kernel
theorem dX1_compareMisses_0 : decode cX1_compareMisses 0 = .ok (.aload_n 0, 1) := by decide +kernel
theorem dX1_compareMisses_1 : decode cX1_compareMisses 1 = .ok (.iload_n 1, 1) := by decide +kernel
theorem dX1_compareMisses_2 : decode cX1_compareMisses 2 = .ok (.invokevirtual 82, 3) := by decide +kernel
theorem dX1_compareMisses_5 : decode cX1_compareMisses 5 = .ok (.aload_n 0, 1) := by decide +kernel
theorem dX1_compareMisses_6 : decode cX1_compareMisses 6 = .ok (.iload_n 2, 1) := by decide +kernel
theorem dX1_compareMisses_7 : decode cX1_compareMisses 7 = .ok (.invokevirtual 85, 3) := by decide +kernel
theorem dX1_compareMisses_10 : decode cX1_compareMisses 10 = .ok (.lmul, 1) := by decide +kernel
theorem dX1_compareMisses_11 : decode cX1_compareMisses 11 = .ok (.aload_n 0, 1) := by decide +kernel
theorem dX1_compareMisses_12 : decode cX1_compareMisses 12 = .ok (.iload_n 2, 1) := by decide +kernel
theorem dX1_compareMisses_13 : decode cX1_compareMisses 13 = .ok (.invokevirtual 82, 3) := by decide +kernel
theorem dX1_compareMisses_16 : decode cX1_compareMisses 16 = .ok (.aload_n 0, 1) := by decide +kernel
theorem dX1_compareMisses_17 : decode cX1_compareMisses 17 = .ok (.iload_n 1, 1) := by decide +kernel
theorem dX1_compareMisses_18 : decode cX1_compareMisses 18 = .ok (.invokevirtual 85, 3) := by decide +kernel
theorem dX1_compareMisses_21 : decode cX1_compareMisses 21 = .ok (.lmul, 1) := by decide +kernel
theorem dX1_compareMisses_22 : decode cX1_compareMisses 22 = .ok (.invokestatic 88, 3) := by decide +kernel
theorem dX1_compareMisses_25 : decode cX1_compareMisses 25 = .ok (.ireturn, 1) := by decide +kernel
theorem dX1_farthest_0 : decode cX1_farthest 0 = .ok (.aload_n 0, 1) := by decide +kernel
theorem dX1_farthest_1 : decode cX1_farthest 1 = .ok (.getfield 21, 3) := by decide +kernel
theorem dX1_farthest_4 : decode cX1_farthest 4 = .ok (.getfield 25, 3) := by decide +kernel
theorem dX1_farthest_7 : decode cX1_farthest 7 = .ok (.ifCond .le 7, 3) := by decide +kernel
theorem dX1_farthest_10 : decode cX1_farthest 10 = .ok (.iconst 0, 1) := by decide +kernel
theorem dX1_farthest_11 : decode cX1_farthest 11 = .ok (.goto 4, 3) := by decide +kernel
theorem dX1_farthest_14 : decode cX1_farthest 14 = .ok (.iconst (-1), 1) := by decide +kernel
theorem dX1_farthest_15 : decode cX1_farthest 15 = .ok (.istore_n 1, 1) := by decide +kernel
theorem dX1_farthest_16 : decode cX1_farthest 16 = .ok (.iconst 1, 1) := by decide +kernel
theorem dX1_farthest_17 : decode cX1_farthest 17 = .ok (.istore_n 2, 1) := by decide +kernel
theorem dX1_farthest_18 : decode cX1_farthest 18 = .ok (.iload_n 2, 1) := by decide +kernel
theorem dX1_farthest_19 : decode cX1_farthest 19 = .ok (.aload_n 0, 1) := by decide +kernel
theorem dX1_farthest_20 : decode cX1_farthest 20 = .ok (.getfield 21, 3) := by decide +kernel
theorem dX1_farthest_23 : decode cX1_farthest 23 = .ok (.getfield 25, 3) := by decide +kernel
theorem dX1_farthest_26 : decode cX1_farthest 26 = .ok (.if_icmp .ge 20, 3) := by decide +kernel
theorem dX1_farthest_29 : decode cX1_farthest 29 = .ok (.aload_n 0, 1) := by decide +kernel
theorem dX1_farthest_30 : decode cX1_farthest 30 = .ok (.iload_n 2, 1) := by decide +kernel
theorem dX1_farthest_31 : decode cX1_farthest 31 = .ok (.iload_n 1, 1) := by decide +kernel
theorem dX1_farthest_32 : decode cX1_farthest 32 = .ok (.invokevirtual 94, 3) := by decide +kernel
theorem dX1_farthest_35 : decode cX1_farthest 35 = .ok (.ifCond .le 5, 3) := by decide +kernel
theorem dX1_farthest_38 : decode cX1_farthest 38 = .ok (.iload_n 2, 1) := by decide +kernel
theorem dX1_farthest_39 : decode cX1_farthest 39 = .ok (.istore_n 1, 1) := by decide +kernel
theorem dX1_farthest_40 : decode cX1_farthest 40 = .ok (.iinc 2 1, 3) := by decide +kernel
theorem dX1_farthest_43 : decode cX1_farthest 43 = .ok (.goto (-25), 3) := by decide +kernel
theorem dX1_farthest_46 : decode cX1_farthest 46 = .ok (.iload_n 1, 1) := by decide +kernel
theorem dX1_farthest_47 : decode cX1_farthest 47 = .ok (.ireturn, 1) := by decide +kernel
theorem dX1_farCount_0 : decode cX1_farCount 0 = .ok (.aload_n 0, 1) := by decide +kernel
theorem dX1_farCount_1 : decode cX1_farCount 1 = .ok (.invokevirtual 97, 3) := by decide +kernel
theorem dX1_farCount_4 : decode cX1_farCount 4 = .ok (.istore_n 1, 1) := by decide +kernel
theorem dX1_farCount_5 : decode cX1_farCount 5 = .ok (.iconst 0, 1) := by decide +kernel
theorem dX1_farCount_6 : decode cX1_farCount 6 = .ok (.istore_n 2, 1) := by decide +kernel
theorem dX1_farCount_7 : decode cX1_farCount 7 = .ok (.iconst 0, 1) := by decide +kernel
theorem dX1_farCount_8 : decode cX1_farCount 8 = .ok (.istore_n 3, 1) := by decide +kernel
theorem dX1_farCount_9 : decode cX1_farCount 9 = .ok (.iload_n 3, 1) := by decide +kernel
theorem dX1_farCount_10 : decode cX1_farCount 10 = .ok (.aload_n 0, 1) := by decide +kernel
theorem dX1_farCount_11 : decode cX1_farCount 11 = .ok (.getfield 21, 3) := by decide +kernel
theorem dX1_farCount_14 : decode cX1_farCount 14 = .ok (.getfield 25, 3) := by decide +kernel
theorem dX1_farCount_17 : decode cX1_farCount 17 = .ok (.if_icmp .ge 21, 3) := by decide +kernel
theorem dX1_farCount_20 : decode cX1_farCount 20 = .ok (.aload_n 0, 1) := by decide +kernel
theorem dX1_farCount_21 : decode cX1_farCount 21 = .ok (.iload_n 3, 1) := by decide +kernel
theorem dX1_farCount_22 : decode cX1_farCount 22 = .ok (.iload_n 1, 1) := by decide +kernel
theorem dX1_farCount_23 : decode cX1_farCount 23 = .ok (.invokevirtual 94, 3) := by decide +kernel
theorem dX1_farCount_26 : decode cX1_farCount 26 = .ok (.ifCond .ne 6, 3) := by decide +kernel
theorem dX1_farCount_29 : decode cX1_farCount 29 = .ok (.iinc 2 1, 3) := by decide +kernel
theorem dX1_farCount_32 : decode cX1_farCount 32 = .ok (.iinc 3 1, 3) := by decide +kernel
theorem dX1_farCount_35 : decode cX1_farCount 35 = .ok (.goto (-26), 3) := by decide +kernel
theorem dX1_farCount_38 : decode cX1_farCount 38 = .ok (.iload_n 2, 1) := by decide +kernel
theorem dX1_farCount_39 : decode cX1_farCount 39 = .ok (.ireturn, 1) := by decide +kernel
theorem dX1_farPoint_0 : decode cX1_farPoint 0 = .ok (.aload_n 0, 1) := by decide +kernel
theorem dX1_farPoint_1 : decode cX1_farPoint 1 = .ok (.invokevirtual 97, 3) := by decide +kernel
theorem dX1_farPoint_4 : decode cX1_farPoint 4 = .ok (.istore_n 2, 1) := by decide +kernel
theorem dX1_farPoint_5 : decode cX1_farPoint 5 = .ok (.iconst 0, 1) := by decide +kernel
theorem dX1_farPoint_6 : decode cX1_farPoint 6 = .ok (.istore_n 3, 1) := by decide +kernel
theorem dX1_farPoint_7 : decode cX1_farPoint 7 = .ok (.iconst 0, 1) := by decide +kernel
theorem dX1_farPoint_8 : decode cX1_farPoint 8 = .ok (.istore 4, 2) := by decide +kernel
theorem dX1_farPoint_10 : decode cX1_farPoint 10 = .ok (.iload 4, 2) := by decide +kernel
theorem dX1_farPoint_12 : decode cX1_farPoint 12 = .ok (.aload_n 0, 1) := by decide +kernel
theorem dX1_farPoint_13 : decode cX1_farPoint 13 = .ok (.getfield 21, 3) := by decide +kernel
theorem dX1_farPoint_16 : decode cX1_farPoint 16 = .ok (.getfield 25, 3) := by decide +kernel
theorem dX1_farPoint_19 : decode cX1_farPoint 19 = .ok (.if_icmp .ge 30, 3) := by decide +kernel
theorem dX1_farPoint_22 : decode cX1_farPoint 22 = .ok (.aload_n 0, 1) := by decide +kernel
theorem dX1_farPoint_23 : decode cX1_farPoint 23 = .ok (.iload 4, 2) := by decide +kernel
theorem dX1_farPoint_25 : decode cX1_farPoint 25 = .ok (.iload_n 2, 1) := by decide +kernel
theorem dX1_farPoint_26 : decode cX1_farPoint 26 = .ok (.invokevirtual 94, 3) := by decide +kernel
theorem dX1_farPoint_29 : decode cX1_farPoint 29 = .ok (.ifCond .ne 14, 3) := by decide +kernel
theorem dX1_farPoint_32 : decode cX1_farPoint 32 = .ok (.iload_n 3, 1) := by decide +kernel
theorem dX1_farPoint_33 : decode cX1_farPoint 33 = .ok (.iload_n 1, 1) := by decide +kernel
theorem dX1_farPoint_34 : decode cX1_farPoint 34 = .ok (.if_icmp .ne 6, 3) := by decide +kernel
theorem dX1_farPoint_37 : decode cX1_farPoint 37 = .ok (.iload 4, 2) := by decide +kernel
theorem dX1_farPoint_39 : decode cX1_farPoint 39 = .ok (.ireturn, 1) := by decide +kernel
theorem dX1_farPoint_40 : decode cX1_farPoint 40 = .ok (.iinc 3 1, 3) := by decide +kernel
theorem dX1_farPoint_43 : decode cX1_farPoint 43 = .ok (.iinc 4 1, 3) := by decide +kernel
theorem dX1_farPoint_46 : decode cX1_farPoint 46 = .ok (.goto (-36), 3) := by decide +kernel
theorem dX1_farPoint_49 : decode cX1_farPoint 49 = .ok (.iconst (-1), 1) := by decide +kernel
theorem dX1_farPoint_50 : decode cX1_farPoint 50 = .ok (.ireturn, 1) := by decide +kernel
theorem dX1_freeNumbers_0 : decode cX1_freeNumbers 0 = .ok (.aload_n 0, 1) := by decide +kernel
theorem dX1_freeNumbers_1 : decode cX1_freeNumbers 1 = .ok (.getfield 15, 3) := by decide +kernel
theorem dX1_freeNumbers_4 : decode cX1_freeNumbers 4 = .ok (.iconst 2, 1) := by decide +kernel
theorem dX1_freeNumbers_5 : decode cX1_freeNumbers 5 = .ok (.if_icmp .ne 7, 3) := by decide +kernel
theorem dX1_freeNumbers_8 : decode cX1_freeNumbers 8 = .ok (.iconst 2, 1) := by decide +kernel
theorem dX1_freeNumbers_9 : decode cX1_freeNumbers 9 = .ok (.goto 9, 3) := by decide +kernel
theorem dX1_freeNumbers_12 : decode cX1_freeNumbers 12 = .ok (.aload_n 0, 1) := by decide +kernel
theorem dX1_freeNumbers_13 : decode cX1_freeNumbers 13 = .ok (.getfield 18, 3) := by decide +kernel
theorem dX1_freeNumbers_16 : decode cX1_freeNumbers 16 = .ok (.iconst 1, 1) := by decide +kernel
theorem dX1_freeNumbers_17 : decode cX1_freeNumbers 17 = .ok (.iadd, 1) := by decide +kernel
theorem dX1_freeNumbers_18 : decode cX1_freeNumbers 18 = .ok (.ireturn, 1) := by decide +kernel
theorem dX1_hasTurns_0 : decode cX1_hasTurns 0 = .ok (.aload_n 0, 1) := by decide +kernel
theorem dX1_hasTurns_1 : decode cX1_hasTurns 1 = .ok (.getfield 15, 3) := by decide +kernel
theorem dX1_hasTurns_4 : decode cX1_hasTurns 4 = .ok (.iconst 1, 1) := by decide +kernel
theorem dX1_hasTurns_5 : decode cX1_hasTurns 5 = .ok (.if_icmp .eq 11, 3) := by decide +kernel
theorem dX1_hasTurns_8 : decode cX1_hasTurns 8 = .ok (.aload_n 0, 1) := by decide +kernel
theorem dX1_hasTurns_9 : decode cX1_hasTurns 9 = .ok (.getfield 15, 3) := by decide +kernel
theorem dX1_hasTurns_12 : decode cX1_hasTurns 12 = .ok (.iconst 2, 1) := by decide +kernel
theorem dX1_hasTurns_13 : decode cX1_hasTurns 13 = .ok (.if_icmp .ne 21, 3) := by decide +kernel
theorem dX1_hasTurns_16 : decode cX1_hasTurns 16 = .ok (.aload_n 0, 1) := by decide +kernel
theorem dX1_hasTurns_17 : decode cX1_hasTurns 17 = .ok (.getfield 21, 3) := by decide +kernel
theorem dX1_hasTurns_20 : decode cX1_hasTurns 20 = .ok (.getfield 25, 3) := by decide +kernel
theorem dX1_hasTurns_23 : decode cX1_hasTurns 23 = .ok (.aload_n 0, 1) := by decide +kernel
theorem dX1_hasTurns_24 : decode cX1_hasTurns 24 = .ok (.invokevirtual 101, 3) := by decide +kernel
theorem dX1_hasTurns_27 : decode cX1_hasTurns 27 = .ok (.if_icmp .le 7, 3) := by decide +kernel
theorem dX1_hasTurns_30 : decode cX1_hasTurns 30 = .ok (.iconst 1, 1) := by decide +kernel
theorem dX1_hasTurns_31 : decode cX1_hasTurns 31 = .ok (.goto 4, 3) := by decide +kernel
theorem dX1_hasTurns_34 : decode cX1_hasTurns 34 = .ok (.iconst 0, 1) := by decide +kernel
theorem dX1_hasTurns_35 : decode cX1_hasTurns 35 = .ok (.ireturn, 1) := by decide +kernel
theorem dX1_areTurns_0 : decode cX1_areTurns 0 = .ok (.aload_n 0, 1) := by decide +kernel
theorem dX1_areTurns_1 : decode cX1_areTurns 1 = .ok (.invokevirtual 104, 3) := by decide +kernel
theorem dX1_areTurns_4 : decode cX1_areTurns 4 = .ok (.ifCond .eq 36, 3) := by decide +kernel
theorem dX1_areTurns_7 : decode cX1_areTurns 7 = .ok (.iload_n 1, 1) := by decide +kernel
theorem dX1_areTurns_8 : decode cX1_areTurns 8 = .ok (.ifCond .lt 32, 3) := by decide +kernel
theorem dX1_areTurns_11 : decode cX1_areTurns 11 = .ok (.iload_n 1, 1) := by decide +kernel
theorem dX1_areTurns_12 : decode cX1_areTurns 12 = .ok (.aload_n 0, 1) := by decide +kernel
theorem dX1_areTurns_13 : decode cX1_areTurns 13 = .ok (.getfield 21, 3) := by decide +kernel
theorem dX1_areTurns_16 : decode cX1_areTurns 16 = .ok (.getfield 25, 3) := by decide +kernel
theorem dX1_areTurns_19 : decode cX1_areTurns 19 = .ok (.ishr, 1) := by decide +kernel
theorem dX1_areTurns_20 : decode cX1_areTurns 20 = .ok (.ifCond .ne 20, 3) := by decide +kernel
theorem dX1_areTurns_23 : decode cX1_areTurns 23 = .ok (.iload_n 1, 1) := by decide +kernel
theorem dX1_areTurns_24 : decode cX1_areTurns 24 = .ok (.invokestatic 108, 3) := by decide +kernel
theorem dX1_areTurns_27 : decode cX1_areTurns 27 = .ok (.aload_n 0, 1) := by decide +kernel
theorem dX1_areTurns_28 : decode cX1_areTurns 28 = .ok (.invokevirtual 101, 3) := by decide +kernel
theorem dX1_areTurns_31 : decode cX1_areTurns 31 = .ok (.iconst 1, 1) := by decide +kernel
theorem dX1_areTurns_32 : decode cX1_areTurns 32 = .ok (.iadd, 1) := by decide +kernel
theorem dX1_areTurns_33 : decode cX1_areTurns 33 = .ok (.if_icmp .ne 7, 3) := by decide +kernel
theorem dX1_areTurns_36 : decode cX1_areTurns 36 = .ok (.iconst 1, 1) := by decide +kernel
theorem dX1_areTurns_37 : decode cX1_areTurns 37 = .ok (.goto 4, 3) := by decide +kernel
theorem dX1_areTurns_40 : decode cX1_areTurns 40 = .ok (.iconst 0, 1) := by decide +kernel
theorem dX1_areTurns_41 : decode cX1_areTurns 41 = .ok (.ireturn, 1) := by decide +kernel
theorem dX1_theTurns_0 : decode cX1_theTurns 0 = .ok (.aload_n 0, 1) := by decide +kernel
theorem dX1_theTurns_1 : decode cX1_theTurns 1 = .ok (.aload_n 0, 1) := by decide +kernel
theorem dX1_theTurns_2 : decode cX1_theTurns 2 = .ok (.invokevirtual 97, 3) := by decide +kernel
theorem dX1_theTurns_5 : decode cX1_theTurns 5 = .ok (.invokevirtual 82, 3) := by decide +kernel
theorem dX1_theTurns_8 : decode cX1_theTurns 8 = .ok (.lstore_n 1, 1) := by decide +kernel
theorem dX1_theTurns_9 : decode cX1_theTurns 9 = .ok (.iconst 0, 1) := by decide +kernel
theorem dX1_theTurns_10 : decode cX1_theTurns 10 = .ok (.istore_n 3, 1) := by decide +kernel
theorem dX1_theTurns_11 : decode cX1_theTurns 11 = .ok (.iconst 0, 1) := by decide +kernel
theorem dX1_theTurns_12 : decode cX1_theTurns 12 = .ok (.istore 4, 2) := by decide +kernel
theorem dX1_theTurns_14 : decode cX1_theTurns 14 = .ok (.iconst 0, 1) := by decide +kernel
theorem dX1_theTurns_15 : decode cX1_theTurns 15 = .ok (.istore 5, 2) := by decide +kernel
theorem dX1_theTurns_17 : decode cX1_theTurns 17 = .ok (.iconst 0, 1) := by decide +kernel
theorem dX1_theTurns_18 : decode cX1_theTurns 18 = .ok (.istore 6, 2) := by decide +kernel
theorem dX1_theTurns_20 : decode cX1_theTurns 20 = .ok (.iload 6, 2) := by decide +kernel
theorem dX1_theTurns_22 : decode cX1_theTurns 22 = .ok (.aload_n 0, 1) := by decide +kernel
theorem dX1_theTurns_23 : decode cX1_theTurns 23 = .ok (.getfield 21, 3) := by decide +kernel
theorem dX1_theTurns_26 : decode cX1_theTurns 26 = .ok (.getfield 25, 3) := by decide +kernel
theorem dX1_theTurns_29 : decode cX1_theTurns 29 = .ok (.if_icmp .ge 101, 3) := by decide +kernel
theorem dX1_theTurns_32 : decode cX1_theTurns 32 = .ok (.iload 4, 2) := by decide +kernel
theorem dX1_theTurns_34 : decode cX1_theTurns 34 = .ok (.aload_n 0, 1) := by decide +kernel
theorem dX1_theTurns_35 : decode cX1_theTurns 35 = .ok (.invokevirtual 101, 3) := by decide +kernel
theorem dX1_theTurns_38 : decode cX1_theTurns 38 = .ok (.if_icmp .gt 92, 3) := by decide +kernel
theorem dX1_theTurns_41 : decode cX1_theTurns 41 = .ok (.aload_n 0, 1) := by decide +kernel
theorem dX1_theTurns_42 : decode cX1_theTurns 42 = .ok (.iload 6, 2) := by decide +kernel
theorem dX1_theTurns_44 : decode cX1_theTurns 44 = .ok (.invokevirtual 75, 3) := by decide +kernel
theorem dX1_theTurns_47 : decode cX1_theTurns 47 = .ok (.lstore 7, 2) := by decide +kernel
theorem dX1_theTurns_49 : decode cX1_theTurns 49 = .ok (.iload 4, 2) := by decide +kernel
theorem dX1_theTurns_51 : decode cX1_theTurns 51 = .ok (.ifCond .eq 27, 3) := by decide +kernel
theorem dX1_theTurns_54 : decode cX1_theTurns 54 = .ok (.lload 7, 2) := by decide +kernel
theorem dX1_theTurns_56 : decode cX1_theTurns 56 = .ok (.lconst 0, 1) := by decide +kernel
theorem dX1_theTurns_57 : decode cX1_theTurns 57 = .ok (.lcmp, 1) := by decide +kernel
theorem dX1_theTurns_58 : decode cX1_theTurns 58 = .ok (.ifCond .eq 20, 3) := by decide +kernel
theorem dX1_theTurns_61 : decode cX1_theTurns 61 = .ok (.lload 7, 2) := by decide +kernel
theorem dX1_theTurns_63 : decode cX1_theTurns 63 = .ok (.lconst 0, 1) := by decide +kernel
theorem dX1_theTurns_64 : decode cX1_theTurns 64 = .ok (.lcmp, 1) := by decide +kernel
theorem dX1_theTurns_65 : decode cX1_theTurns 65 = .ok (.ifCond .le 7, 3) := by decide +kernel
theorem dX1_theTurns_68 : decode cX1_theTurns 68 = .ok (.iconst 1, 1) := by decide +kernel
theorem dX1_theTurns_69 : decode cX1_theTurns 69 = .ok (.goto 4, 3) := by decide +kernel
theorem dX1_theTurns_72 : decode cX1_theTurns 72 = .ok (.iconst 0, 1) := by decide +kernel
theorem dX1_theTurns_73 : decode cX1_theTurns 73 = .ok (.iload 5, 2) := by decide +kernel
theorem dX1_theTurns_75 : decode cX1_theTurns 75 = .ok (.if_icmp .eq 7, 3) := by decide +kernel
theorem dX1_theTurns_78 : decode cX1_theTurns 78 = .ok (.iconst 1, 1) := by decide +kernel
theorem dX1_theTurns_79 : decode cX1_theTurns 79 = .ok (.goto 4, 3) := by decide +kernel
theorem dX1_theTurns_82 : decode cX1_theTurns 82 = .ok (.iconst 0, 1) := by decide +kernel
theorem dX1_theTurns_83 : decode cX1_theTurns 83 = .ok (.istore 9, 2) := by decide +kernel
theorem dX1_theTurns_85 : decode cX1_theTurns 85 = .ok (.lload 7, 2) := by decide +kernel
theorem dX1_theTurns_87 : decode cX1_theTurns 87 = .ok (.invokestatic 79, 3) := by decide +kernel
theorem dX1_theTurns_90 : decode cX1_theTurns 90 = .ok (.lload_n 1, 1) := by decide +kernel
theorem dX1_theTurns_91 : decode cX1_theTurns 91 = .ok (.lcmp, 1) := by decide +kernel
theorem dX1_theTurns_92 : decode cX1_theTurns 92 = .ok (.ifCond .ne 32, 3) := by decide +kernel
theorem dX1_theTurns_95 : decode cX1_theTurns 95 = .ok (.iload 9, 2) := by decide +kernel
theorem dX1_theTurns_97 : decode cX1_theTurns 97 = .ok (.ifCond .eq 27, 3) := by decide +kernel
theorem dX1_theTurns_100 : decode cX1_theTurns 100 = .ok (.iload_n 3, 1) := by decide +kernel
theorem dX1_theTurns_101 : decode cX1_theTurns 101 = .ok (.iconst 1, 1) := by decide +kernel
theorem dX1_theTurns_102 : decode cX1_theTurns 102 = .ok (.iload 6, 2) := by decide +kernel
theorem dX1_theTurns_104 : decode cX1_theTurns 104 = .ok (.ishl, 1) := by decide +kernel
theorem dX1_theTurns_105 : decode cX1_theTurns 105 = .ok (.ior, 1) := by decide +kernel
theorem dX1_theTurns_106 : decode cX1_theTurns 106 = .ok (.istore_n 3, 1) := by decide +kernel
theorem dX1_theTurns_107 : decode cX1_theTurns 107 = .ok (.iinc 4 1, 3) := by decide +kernel
theorem dX1_theTurns_110 : decode cX1_theTurns 110 = .ok (.lload 7, 2) := by decide +kernel
theorem dX1_theTurns_112 : decode cX1_theTurns 112 = .ok (.lconst 0, 1) := by decide +kernel
theorem dX1_theTurns_113 : decode cX1_theTurns 113 = .ok (.lcmp, 1) := by decide +kernel
theorem dX1_theTurns_114 : decode cX1_theTurns 114 = .ok (.ifCond .le 7, 3) := by decide +kernel
theorem dX1_theTurns_117 : decode cX1_theTurns 117 = .ok (.iconst 1, 1) := by decide +kernel
theorem dX1_theTurns_118 : decode cX1_theTurns 118 = .ok (.goto 4, 3) := by decide +kernel
theorem dX1_theTurns_121 : decode cX1_theTurns 121 = .ok (.iconst 0, 1) := by decide +kernel
theorem dX1_theTurns_122 : decode cX1_theTurns 122 = .ok (.istore 5, 2) := by decide +kernel
theorem dX1_theTurns_124 : decode cX1_theTurns 124 = .ok (.iinc 6 1, 3) := by decide +kernel
theorem dX1_theTurns_127 : decode cX1_theTurns 127 = .ok (.goto (-107), 3) := by decide +kernel
theorem dX1_theTurns_130 : decode cX1_theTurns 130 = .ok (.iload_n 3, 1) := by decide +kernel
theorem dX1_theTurns_131 : decode cX1_theTurns 131 = .ok (.ireturn, 1) := by decide +kernel
