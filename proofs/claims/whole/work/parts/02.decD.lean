theorem dX7_init_0 : decode cX7_init 0 = .ok (.aload_n 0, 1) := by decide +kernel
theorem dX7_init_1 : decode cX7_init 1 = .ok (.invokespecial 1, 3) := by decide +kernel
theorem dX7_init_4 : decode cX7_init 4 = .ok (.aload_n 0, 1) := by decide +kernel
theorem dX7_init_5 : decode cX7_init 5 = .ok (.bipush 6, 2) := by decide +kernel
theorem dX7_init_7 : decode cX7_init 7 = .ok (.anewarray 9, 3) := by decide +kernel
theorem dX7_init_10 : decode cX7_init 10 = .ok (.putfield 11, 3) := by decide +kernel
theorem dX7_init_13 : decode cX7_init 13 = .ok (.aload_n 0, 1) := by decide +kernel
theorem dX7_init_14 : decode cX7_init 14 = .ok (.bipush 10, 2) := by decide +kernel
theorem dX7_init_16 : decode cX7_init 16 = .ok (.anewarray 15, 3) := by decide +kernel
theorem dX7_init_19 : decode cX7_init 19 = .ok (.putfield 17, 3) := by decide +kernel
theorem dX7_init_22 : decode cX7_init 22 = .ok (.aload_n 0, 1) := by decide +kernel
theorem dX7_init_23 : decode cX7_init 23 = .ok (.iconst 4, 1) := by decide +kernel
theorem dX7_init_24 : decode cX7_init 24 = .ok (.anewarray 21, 3) := by decide +kernel
theorem dX7_init_27 : decode cX7_init 27 = .ok (.putfield 23, 3) := by decide +kernel
theorem dX7_init_30 : decode cX7_init 30 = .ok (.aload_n 0, 1) := by decide +kernel
theorem dX7_init_31 : decode cX7_init 31 = .ok (.new 27, 3) := by decide +kernel
theorem dX7_init_34 : decode cX7_init 34 = .ok (.dup, 1) := by decide +kernel
theorem dX7_init_35 : decode cX7_init 35 = .ok (.invokespecial 29, 3) := by decide +kernel
theorem dX7_init_38 : decode cX7_init 38 = .ok (.putfield 30, 3) := by decide +kernel
theorem dX7_init_41 : decode cX7_init 41 = .ok (.aload_n 0, 1) := by decide +kernel
theorem dX7_init_42 : decode cX7_init 42 = .ok (.new 34, 3) := by decide +kernel
theorem dX7_init_45 : decode cX7_init 45 = .ok (.dup, 1) := by decide +kernel
theorem dX7_init_46 : decode cX7_init 46 = .ok (.invokespecial 36, 3) := by decide +kernel
theorem dX7_init_49 : decode cX7_init 49 = .ok (.putfield 37, 3) := by decide +kernel
theorem dX7_init_52 : decode cX7_init 52 = .ok (.aload_n 0, 1) := by decide +kernel
theorem dX7_init_53 : decode cX7_init 53 = .ok (.new 41, 3) := by decide +kernel
theorem dX7_init_56 : decode cX7_init 56 = .ok (.dup, 1) := by decide +kernel
theorem dX7_init_57 : decode cX7_init 57 = .ok (.invokespecial 43, 3) := by decide +kernel
theorem dX7_init_60 : decode cX7_init 60 = .ok (.putfield 44, 3) := by decide +kernel
theorem dX7_init_63 : decode cX7_init 63 = .ok (.aload_n 0, 1) := by decide +kernel
theorem dX7_init_64 : decode cX7_init 64 = .ok (.iconst 0, 1) := by decide +kernel
theorem dX7_init_65 : decode cX7_init 65 = .ok (.putfield 48, 3) := by decide +kernel
theorem dX7_init_68 : decode cX7_init 68 = .ok (.aload_n 0, 1) := by decide +kernel
theorem dX7_init_69 : decode cX7_init 69 = .ok (.iconst 0, 1) := by decide +kernel
theorem dX7_init_70 : decode cX7_init 70 = .ok (.putfield 52, 3) := by decide +kernel
theorem dX7_init_73 : decode cX7_init 73 = .ok (.iconst 0, 1) := by decide +kernel
theorem dX7_init_74 : decode cX7_init 74 = .ok (.istore_n 1, 1) := by decide +kernel
theorem dX7_init_75 : decode cX7_init 75 = .ok (.iload_n 1, 1) := by decide +kernel
theorem dX7_init_76 : decode cX7_init 76 = .ok (.bipush 6, 2) := by decide +kernel
theorem dX7_init_78 : decode cX7_init 78 = .ok (.if_icmp .ge 22, 3) := by decide +kernel
theorem dX7_init_81 : decode cX7_init 81 = .ok (.aload_n 0, 1) := by decide +kernel
theorem dX7_init_82 : decode cX7_init 82 = .ok (.getfield 11, 3) := by decide +kernel
theorem dX7_init_85 : decode cX7_init 85 = .ok (.iload_n 1, 1) := by decide +kernel
theorem dX7_init_86 : decode cX7_init 86 = .ok (.new 9, 3) := by decide +kernel
theorem dX7_init_89 : decode cX7_init 89 = .ok (.dup, 1) := by decide +kernel
theorem dX7_init_90 : decode cX7_init 90 = .ok (.invokespecial 55, 3) := by decide +kernel
theorem dX7_init_93 : decode cX7_init 93 = .ok (.aastore, 1) := by decide +kernel
theorem dX7_init_94 : decode cX7_init 94 = .ok (.iinc 1 1, 3) := by decide +kernel
theorem dX7_init_97 : decode cX7_init 97 = .ok (.goto (-22), 3) := by decide +kernel
theorem dX7_init_100 : decode cX7_init 100 = .ok (.return_, 1) := by decide +kernel
theorem dX7_point_0 : decode cX7_point 0 = .ok (.aload_n 0, 1) := by decide +kernel
theorem dX7_point_1 : decode cX7_point 1 = .ok (.iload_n 1, 1) := by decide +kernel
theorem dX7_point_2 : decode cX7_point 2 = .ok (.invokevirtual 56, 3) := by decide +kernel
theorem dX7_point_5 : decode cX7_point 5 = .ok (.astore 5, 2) := by decide +kernel
theorem dX7_point_7 : decode cX7_point 7 = .ok (.aload 5, 2) := by decide +kernel
theorem dX7_point_9 : decode cX7_point 9 = .ok (.ifnull 13, 3) := by decide +kernel
theorem dX7_point_12 : decode cX7_point 12 = .ok (.iload_n 2, 1) := by decide +kernel
theorem dX7_point_13 : decode cX7_point 13 = .ok (.iload_n 3, 1) := by decide +kernel
theorem dX7_point_14 : decode cX7_point 14 = .ok (.iload 4, 2) := by decide +kernel
theorem dX7_point_16 : decode cX7_point 16 = .ok (.invokestatic 60, 3) := by decide +kernel
theorem dX7_point_19 : decode cX7_point 19 = .ok (.ifCond .ne 9, 3) := by decide +kernel
theorem dX7_point_22 : decode cX7_point 22 = .ok (.aload_n 0, 1) := by decide +kernel
theorem dX7_point_23 : decode cX7_point 23 = .ok (.iconst 1, 1) := by decide +kernel
theorem dX7_point_24 : decode cX7_point 24 = .ok (.invokevirtual 64, 3) := by decide +kernel
theorem dX7_point_27 : decode cX7_point 27 = .ok (.ireturn, 1) := by decide +kernel
theorem dX7_point_28 : decode cX7_point 28 = .ok (.aload 5, 2) := by decide +kernel
theorem dX7_point_30 : decode cX7_point 30 = .ok (.invokevirtual 68, 3) := by decide +kernel
theorem dX7_point_33 : decode cX7_point 33 = .ok (.ifCond .eq 9, 3) := by decide +kernel
theorem dX7_point_36 : decode cX7_point 36 = .ok (.aload_n 0, 1) := by decide +kernel
theorem dX7_point_37 : decode cX7_point 37 = .ok (.iconst 2, 1) := by decide +kernel
theorem dX7_point_38 : decode cX7_point 38 = .ok (.invokevirtual 64, 3) := by decide +kernel
theorem dX7_point_41 : decode cX7_point 41 = .ok (.ireturn, 1) := by decide +kernel
theorem dX7_point_42 : decode cX7_point 42 = .ok (.aload 5, 2) := by decide +kernel
theorem dX7_point_44 : decode cX7_point 44 = .ok (.iload_n 2, 1) := by decide +kernel
theorem dX7_point_45 : decode cX7_point 45 = .ok (.invokevirtual 72, 3) := by decide +kernel
theorem dX7_point_48 : decode cX7_point 48 = .ok (.ifCond .eq 9, 3) := by decide +kernel
theorem dX7_point_51 : decode cX7_point 51 = .ok (.aload_n 0, 1) := by decide +kernel
theorem dX7_point_52 : decode cX7_point 52 = .ok (.iconst 3, 1) := by decide +kernel
theorem dX7_point_53 : decode cX7_point 53 = .ok (.invokevirtual 64, 3) := by decide +kernel
theorem dX7_point_56 : decode cX7_point 56 = .ok (.ireturn, 1) := by decide +kernel
theorem dX7_point_57 : decode cX7_point 57 = .ok (.aload_n 0, 1) := by decide +kernel
theorem dX7_point_58 : decode cX7_point 58 = .ok (.aload 5, 2) := by decide +kernel
theorem dX7_point_60 : decode cX7_point 60 = .ok (.iload_n 2, 1) := by decide +kernel
theorem dX7_point_61 : decode cX7_point 61 = .ok (.iload_n 3, 1) := by decide +kernel
theorem dX7_point_62 : decode cX7_point 62 = .ok (.iload 4, 2) := by decide +kernel
theorem dX7_point_64 : decode cX7_point 64 = .ok (.invokevirtual 76, 3) := by decide +kernel
theorem dX7_point_67 : decode cX7_point 67 = .ok (.invokevirtual 80, 3) := by decide +kernel
theorem dX7_point_70 : decode cX7_point 70 = .ok (.ireturn, 1) := by decide +kernel
theorem dX7_take_0 : decode cX7_take 0 = .ok (.aload_n 0, 1) := by decide +kernel
theorem dX7_take_1 : decode cX7_take 1 = .ok (.iload_n 1, 1) := by decide +kernel
theorem dX7_take_2 : decode cX7_take 2 = .ok (.invokevirtual 56, 3) := by decide +kernel
theorem dX7_take_5 : decode cX7_take 5 = .ok (.astore_n 3, 1) := by decide +kernel
theorem dX7_take_6 : decode cX7_take 6 = .ok (.aload_n 3, 1) := by decide +kernel
theorem dX7_take_7 : decode cX7_take 7 = .ok (.ifnull 11, 3) := by decide +kernel
theorem dX7_take_10 : decode cX7_take 10 = .ok (.aload_n 3, 1) := by decide +kernel
theorem dX7_take_11 : decode cX7_take 11 = .ok (.iload_n 2, 1) := by decide +kernel
theorem dX7_take_12 : decode cX7_take 12 = .ok (.invokevirtual 83, 3) := by decide +kernel
theorem dX7_take_15 : decode cX7_take 15 = .ok (.ifCond .ne 9, 3) := by decide +kernel
theorem dX7_take_18 : decode cX7_take 18 = .ok (.aload_n 0, 1) := by decide +kernel
theorem dX7_take_19 : decode cX7_take 19 = .ok (.iconst 1, 1) := by decide +kernel
theorem dX7_take_20 : decode cX7_take 20 = .ok (.invokevirtual 64, 3) := by decide +kernel
theorem dX7_take_23 : decode cX7_take 23 = .ok (.ireturn, 1) := by decide +kernel
theorem dX7_take_24 : decode cX7_take 24 = .ok (.aload_n 0, 1) := by decide +kernel
theorem dX7_take_25 : decode cX7_take 25 = .ok (.aload_n 3, 1) := by decide +kernel
theorem dX7_take_26 : decode cX7_take 26 = .ok (.iload_n 2, 1) := by decide +kernel
theorem dX7_take_27 : decode cX7_take 27 = .ok (.invokevirtual 86, 3) := by decide +kernel
theorem dX7_take_30 : decode cX7_take 30 = .ok (.invokevirtual 80, 3) := by decide +kernel
theorem dX7_take_33 : decode cX7_take 33 = .ok (.ireturn, 1) := by decide +kernel
theorem dX7_pointTold_0 : decode cX7_pointTold 0 = .ok (.aload_n 0, 1) := by decide +kernel
theorem dX7_pointTold_1 : decode cX7_pointTold 1 = .ok (.iload_n 1, 1) := by decide +kernel
theorem dX7_pointTold_2 : decode cX7_pointTold 2 = .ok (.invokevirtual 56, 3) := by decide +kernel
theorem dX7_pointTold_5 : decode cX7_pointTold 5 = .ok (.astore 4, 2) := by decide +kernel
theorem dX7_pointTold_7 : decode cX7_pointTold 7 = .ok (.aload 4, 2) := by decide +kernel
theorem dX7_pointTold_9 : decode cX7_pointTold 9 = .ok (.ifnull 12, 3) := by decide +kernel
theorem dX7_pointTold_12 : decode cX7_pointTold 12 = .ok (.aload 4, 2) := by decide +kernel
theorem dX7_pointTold_14 : decode cX7_pointTold 14 = .ok (.iload_n 2, 1) := by decide +kernel
theorem dX7_pointTold_15 : decode cX7_pointTold 15 = .ok (.invokevirtual 83, 3) := by decide +kernel
theorem dX7_pointTold_18 : decode cX7_pointTold 18 = .ok (.ifCond .ne 7, 3) := by decide +kernel
theorem dX7_pointTold_21 : decode cX7_pointTold 21 = .ok (.ldc2_w 89, 3) := by decide +kernel
theorem dX7_pointTold_24 : decode cX7_pointTold 24 = .ok (.lreturn, 1) := by decide +kernel
theorem dX7_pointTold_25 : decode cX7_pointTold 25 = .ok (.iload_n 3, 1) := by decide +kernel
theorem dX7_pointTold_26 : decode cX7_pointTold 26 = .ok (.tableswitch 53 0 2 #[26, 35, 44], 26) := by decide +kernel
theorem dX7_pointTold_52 : decode cX7_pointTold 52 = .ok (.aload 4, 2) := by decide +kernel
theorem dX7_pointTold_54 : decode cX7_pointTold 54 = .ok (.getfield 91, 3) := by decide +kernel
theorem dX7_pointTold_57 : decode cX7_pointTold 57 = .ok (.iload_n 2, 1) := by decide +kernel
theorem dX7_pointTold_58 : decode cX7_pointTold 58 = .ok (.iaload, 1) := by decide +kernel
theorem dX7_pointTold_59 : decode cX7_pointTold 59 = .ok (.i2l, 1) := by decide +kernel
theorem dX7_pointTold_60 : decode cX7_pointTold 60 = .ok (.lreturn, 1) := by decide +kernel
theorem dX7_pointTold_61 : decode cX7_pointTold 61 = .ok (.aload 4, 2) := by decide +kernel
theorem dX7_pointTold_63 : decode cX7_pointTold 63 = .ok (.getfield 95, 3) := by decide +kernel
theorem dX7_pointTold_66 : decode cX7_pointTold 66 = .ok (.iload_n 2, 1) := by decide +kernel
theorem dX7_pointTold_67 : decode cX7_pointTold 67 = .ok (.iaload, 1) := by decide +kernel
theorem dX7_pointTold_68 : decode cX7_pointTold 68 = .ok (.i2l, 1) := by decide +kernel
theorem dX7_pointTold_69 : decode cX7_pointTold 69 = .ok (.lreturn, 1) := by decide +kernel
theorem dX7_pointTold_70 : decode cX7_pointTold 70 = .ok (.aload 4, 2) := by decide +kernel
theorem dX7_pointTold_72 : decode cX7_pointTold 72 = .ok (.getfield 98, 3) := by decide +kernel
theorem dX7_pointTold_75 : decode cX7_pointTold 75 = .ok (.iload_n 2, 1) := by decide +kernel
theorem dX7_pointTold_76 : decode cX7_pointTold 76 = .ok (.iaload, 1) := by decide +kernel
theorem dX7_pointTold_77 : decode cX7_pointTold 77 = .ok (.i2l, 1) := by decide +kernel
theorem dX7_pointTold_78 : decode cX7_pointTold 78 = .ok (.lreturn, 1) := by decide +kernel
theorem dX7_pointTold_79 : decode cX7_pointTold 79 = .ok (.ldc2_w 89, 3) := by decide +kernel
theorem dX7_pointTold_82 : decode cX7_pointTold 82 = .ok (.lreturn, 1) := by decide +kernel
theorem dX7_fit_0 : decode cX7_fit 0 = .ok (.aload_n 0, 1) := by decide +kernel
theorem dX7_fit_1 : decode cX7_fit 1 = .ok (.iload_n 1, 1) := by decide +kernel
theorem dX7_fit_2 : decode cX7_fit 2 = .ok (.invokevirtual 56, 3) := by decide +kernel
theorem dX7_fit_5 : decode cX7_fit 5 = .ok (.astore 6, 2) := by decide +kernel
theorem dX7_fit_7 : decode cX7_fit 7 = .ok (.iload_n 2, 1) := by decide +kernel
theorem dX7_fit_8 : decode cX7_fit 8 = .ok (.sipush (-1000), 3) := by decide +kernel
theorem dX7_fit_11 : decode cX7_fit 11 = .ok (.sipush 1000, 3) := by decide +kernel
theorem dX7_fit_14 : decode cX7_fit 14 = .ok (.invokestatic 101, 3) := by decide +kernel
theorem dX7_fit_17 : decode cX7_fit 17 = .ok (.ifCond .eq 45, 3) := by decide +kernel
theorem dX7_fit_20 : decode cX7_fit 20 = .ok (.iload_n 3, 1) := by decide +kernel
theorem dX7_fit_21 : decode cX7_fit 21 = .ok (.sipush (-1000), 3) := by decide +kernel
theorem dX7_fit_24 : decode cX7_fit 24 = .ok (.sipush 1000, 3) := by decide +kernel
theorem dX7_fit_27 : decode cX7_fit 27 = .ok (.invokestatic 101, 3) := by decide +kernel
theorem dX7_fit_30 : decode cX7_fit 30 = .ok (.ifCond .eq 32, 3) := by decide +kernel
theorem dX7_fit_33 : decode cX7_fit 33 = .ok (.iload 4, 2) := by decide +kernel
theorem dX7_fit_35 : decode cX7_fit 35 = .ok (.sipush (-1000), 3) := by decide +kernel
theorem dX7_fit_38 : decode cX7_fit 38 = .ok (.sipush 1000, 3) := by decide +kernel
theorem dX7_fit_41 : decode cX7_fit 41 = .ok (.invokestatic 101, 3) := by decide +kernel
theorem dX7_fit_44 : decode cX7_fit 44 = .ok (.ifCond .eq 18, 3) := by decide +kernel
theorem dX7_fit_47 : decode cX7_fit 47 = .ok (.iload 5, 2) := by decide +kernel
theorem dX7_fit_49 : decode cX7_fit 49 = .ok (.iconst 1, 1) := by decide +kernel
theorem dX7_fit_50 : decode cX7_fit 50 = .ok (.bipush 60, 2) := by decide +kernel
theorem dX7_fit_52 : decode cX7_fit 52 = .ok (.invokestatic 101, 3) := by decide +kernel
theorem dX7_fit_55 : decode cX7_fit 55 = .ok (.ifCond .eq 7, 3) := by decide +kernel
theorem dX7_fit_58 : decode cX7_fit 58 = .ok (.iconst 1, 1) := by decide +kernel
theorem dX7_fit_59 : decode cX7_fit 59 = .ok (.goto 4, 3) := by decide +kernel
theorem dX7_fit_62 : decode cX7_fit 62 = .ok (.iconst 0, 1) := by decide +kernel
theorem dX7_fit_63 : decode cX7_fit 63 = .ok (.istore 7, 2) := by decide +kernel
theorem dX7_fit_65 : decode cX7_fit 65 = .ok (.aload 6, 2) := by decide +kernel
theorem dX7_fit_67 : decode cX7_fit 67 = .ok (.ifnull 8, 3) := by decide +kernel
theorem dX7_fit_70 : decode cX7_fit 70 = .ok (.iload 7, 2) := by decide +kernel
theorem dX7_fit_72 : decode cX7_fit 72 = .ok (.ifCond .ne 9, 3) := by decide +kernel
theorem dX7_fit_75 : decode cX7_fit 75 = .ok (.aload_n 0, 1) := by decide +kernel
theorem dX7_fit_76 : decode cX7_fit 76 = .ok (.iconst 1, 1) := by decide +kernel
theorem dX7_fit_77 : decode cX7_fit 77 = .ok (.invokevirtual 64, 3) := by decide +kernel
theorem dX7_fit_80 : decode cX7_fit 80 = .ok (.ireturn, 1) := by decide +kernel
theorem dX7_fit_81 : decode cX7_fit 81 = .ok (.aload_n 0, 1) := by decide +kernel
theorem dX7_fit_82 : decode cX7_fit 82 = .ok (.getfield 48, 3) := by decide +kernel
theorem dX7_fit_85 : decode cX7_fit 85 = .ok (.bipush 10, 2) := by decide +kernel
theorem dX7_fit_87 : decode cX7_fit 87 = .ok (.if_icmp .lt 9, 3) := by decide +kernel
theorem dX7_fit_90 : decode cX7_fit 90 = .ok (.aload_n 0, 1) := by decide +kernel
theorem dX7_fit_91 : decode cX7_fit 91 = .ok (.iconst 2, 1) := by decide +kernel
theorem dX7_fit_92 : decode cX7_fit 92 = .ok (.invokevirtual 64, 3) := by decide +kernel
theorem dX7_fit_95 : decode cX7_fit 95 = .ok (.ireturn, 1) := by decide +kernel
theorem dX7_fit_96 : decode cX7_fit 96 = .ok (.new 15, 3) := by decide +kernel
theorem dX7_fit_99 : decode cX7_fit 99 = .ok (.dup, 1) := by decide +kernel
theorem dX7_fit_100 : decode cX7_fit 100 = .ok (.aload_n 0, 1) := by decide +kernel
theorem dX7_fit_101 : decode cX7_fit 101 = .ok (.getfield 48, 3) := by decide +kernel
theorem dX7_fit_104 : decode cX7_fit 104 = .ok (.iconst 0, 1) := by decide +kernel
theorem dX7_fit_105 : decode cX7_fit 105 = .ok (.iconst 2, 1) := by decide +kernel
theorem dX7_fit_106 : decode cX7_fit 106 = .ok (.aload 6, 2) := by decide +kernel
theorem dX7_fit_108 : decode cX7_fit 108 = .ok (.invokevirtual 104, 3) := by decide +kernel
theorem dX7_fit_111 : decode cX7_fit 111 = .ok (.invokespecial 108, 3) := by decide +kernel
theorem dX7_fit_114 : decode cX7_fit 114 = .ok (.astore 8, 2) := by decide +kernel
theorem dX7_fit_116 : decode cX7_fit 116 = .ok (.aload 8, 2) := by decide +kernel
theorem dX7_fit_118 : decode cX7_fit 118 = .ok (.invokevirtual 111, 3) := by decide +kernel
theorem dX7_fit_121 : decode cX7_fit 121 = .ok (.iload_n 2, 1) := by decide +kernel
theorem dX7_fit_122 : decode cX7_fit 122 = .ok (.i2l, 1) := by decide +kernel
theorem dX7_fit_123 : decode cX7_fit 123 = .ok (.iload_n 3, 1) := by decide +kernel
theorem dX7_fit_124 : decode cX7_fit 124 = .ok (.i2l, 1) := by decide +kernel
theorem dX7_fit_125 : decode cX7_fit 125 = .ok (.iload 4, 2) := by decide +kernel
theorem dX7_fit_127 : decode cX7_fit 127 = .ok (.i2l, 1) := by decide +kernel
theorem dX7_fit_128 : decode cX7_fit 128 = .ok (.iload 5, 2) := by decide +kernel
theorem dX7_fit_130 : decode cX7_fit 130 = .ok (.i2l, 1) := by decide +kernel
theorem dX7_fit_131 : decode cX7_fit 131 = .ok (.invokevirtual 115, 3) := by decide +kernel
theorem dX7_fit_134 : decode cX7_fit 134 = .ok (.aload_n 0, 1) := by decide +kernel
theorem dX7_fit_135 : decode cX7_fit 135 = .ok (.aload 8, 2) := by decide +kernel
theorem dX7_fit_137 : decode cX7_fit 137 = .ok (.invokevirtual 121, 3) := by decide +kernel
theorem dX7_fit_140 : decode cX7_fit 140 = .ok (.ireturn, 1) := by decide +kernel
theorem dX7_line_0 : decode cX7_line 0 = .ok (.aload_n 0, 1) := by decide +kernel
theorem dX7_line_1 : decode cX7_line 1 = .ok (.iload_n 1, 1) := by decide +kernel
theorem dX7_line_2 : decode cX7_line 2 = .ok (.invokevirtual 56, 3) := by decide +kernel
theorem dX7_line_5 : decode cX7_line 5 = .ok (.astore_n 3, 1) := by decide +kernel
theorem dX7_line_6 : decode cX7_line 6 = .ok (.aload_n 3, 1) := by decide +kernel
theorem dX7_line_7 : decode cX7_line 7 = .ok (.ifnull 12, 3) := by decide +kernel
theorem dX7_line_10 : decode cX7_line 10 = .ok (.iload_n 2, 1) := by decide +kernel
theorem dX7_line_11 : decode cX7_line 11 = .ok (.iconst 0, 1) := by decide +kernel
theorem dX7_line_12 : decode cX7_line 12 = .ok (.iconst 2, 1) := by decide +kernel
theorem dX7_line_13 : decode cX7_line 13 = .ok (.invokestatic 101, 3) := by decide +kernel
theorem dX7_line_16 : decode cX7_line 16 = .ok (.ifCond .ne 9, 3) := by decide +kernel
theorem dX7_line_19 : decode cX7_line 19 = .ok (.aload_n 0, 1) := by decide +kernel
theorem dX7_line_20 : decode cX7_line 20 = .ok (.iconst 1, 1) := by decide +kernel
theorem dX7_line_21 : decode cX7_line 21 = .ok (.invokevirtual 64, 3) := by decide +kernel
theorem dX7_line_24 : decode cX7_line 24 = .ok (.ireturn, 1) := by decide +kernel
theorem dX7_line_25 : decode cX7_line 25 = .ok (.aload_n 0, 1) := by decide +kernel
theorem dX7_line_26 : decode cX7_line 26 = .ok (.getfield 48, 3) := by decide +kernel
theorem dX7_line_29 : decode cX7_line 29 = .ok (.bipush 10, 2) := by decide +kernel
theorem dX7_line_31 : decode cX7_line 31 = .ok (.if_icmp .lt 9, 3) := by decide +kernel
theorem dX7_line_34 : decode cX7_line 34 = .ok (.aload_n 0, 1) := by decide +kernel
theorem dX7_line_35 : decode cX7_line 35 = .ok (.iconst 2, 1) := by decide +kernel
theorem dX7_line_36 : decode cX7_line 36 = .ok (.invokevirtual 64, 3) := by decide +kernel
theorem dX7_line_39 : decode cX7_line 39 = .ok (.ireturn, 1) := by decide +kernel
theorem dX7_line_40 : decode cX7_line 40 = .ok (.aload_n 0, 1) := by decide +kernel
theorem dX7_line_41 : decode cX7_line 41 = .ok (.aload_n 0, 1) := by decide +kernel
theorem dX7_line_42 : decode cX7_line 42 = .ok (.iconst 1, 1) := by decide +kernel
theorem dX7_line_43 : decode cX7_line 43 = .ok (.iload_n 2, 1) := by decide +kernel
theorem dX7_line_44 : decode cX7_line 44 = .ok (.aload_n 3, 1) := by decide +kernel
theorem dX7_line_45 : decode cX7_line 45 = .ok (.invokevirtual 125, 3) := by decide +kernel
theorem dX7_line_48 : decode cX7_line 48 = .ok (.invokevirtual 121, 3) := by decide +kernel
theorem dX7_line_51 : decode cX7_line 51 = .ok (.ireturn, 1) := by decide +kernel
theorem dX7_even_0 : decode cX7_even 0 = .ok (.aload_n 0, 1) := by decide +kernel
theorem dX7_even_1 : decode cX7_even 1 = .ok (.iload_n 1, 1) := by decide +kernel
theorem dX7_even_2 : decode cX7_even 2 = .ok (.invokevirtual 56, 3) := by decide +kernel
theorem dX7_even_5 : decode cX7_even 5 = .ok (.astore_n 2, 1) := by decide +kernel
theorem dX7_even_6 : decode cX7_even 6 = .ok (.aload_n 2, 1) := by decide +kernel
theorem dX7_even_7 : decode cX7_even 7 = .ok (.ifnonnull 9, 3) := by decide +kernel
theorem dX7_even_10 : decode cX7_even 10 = .ok (.aload_n 0, 1) := by decide +kernel
theorem dX7_even_11 : decode cX7_even 11 = .ok (.iconst 1, 1) := by decide +kernel
theorem dX7_even_12 : decode cX7_even 12 = .ok (.invokevirtual 64, 3) := by decide +kernel
theorem dX7_even_15 : decode cX7_even 15 = .ok (.ireturn, 1) := by decide +kernel
theorem dX7_even_16 : decode cX7_even 16 = .ok (.aload_n 0, 1) := by decide +kernel
theorem dX7_even_17 : decode cX7_even 17 = .ok (.getfield 48, 3) := by decide +kernel
theorem dX7_even_20 : decode cX7_even 20 = .ok (.bipush 10, 2) := by decide +kernel
theorem dX7_even_22 : decode cX7_even 22 = .ok (.if_icmp .lt 9, 3) := by decide +kernel
theorem dX7_even_25 : decode cX7_even 25 = .ok (.aload_n 0, 1) := by decide +kernel
theorem dX7_even_26 : decode cX7_even 26 = .ok (.iconst 2, 1) := by decide +kernel
theorem dX7_even_27 : decode cX7_even 27 = .ok (.invokevirtual 64, 3) := by decide +kernel
theorem dX7_even_30 : decode cX7_even 30 = .ok (.ireturn, 1) := by decide +kernel
theorem dX7_even_31 : decode cX7_even 31 = .ok (.aload_n 2, 1) := by decide +kernel
theorem dX7_even_32 : decode cX7_even 32 = .ok (.getfield 129, 3) := by decide +kernel
theorem dX7_even_35 : decode cX7_even 35 = .ok (.ifCond .le 18, 3) := by decide +kernel
theorem dX7_even_38 : decode cX7_even 38 = .ok (.aload_n 2, 1) := by decide +kernel
theorem dX7_even_39 : decode cX7_even 39 = .ok (.getfield 91, 3) := by decide +kernel
theorem dX7_even_42 : decode cX7_even 42 = .ok (.iconst 0, 1) := by decide +kernel
theorem dX7_even_43 : decode cX7_even 43 = .ok (.iaload, 1) := by decide +kernel
theorem dX7_even_44 : decode cX7_even 44 = .ok (.ifCond .ge 9, 3) := by decide +kernel
theorem dX7_even_47 : decode cX7_even 47 = .ok (.aload_n 0, 1) := by decide +kernel
theorem dX7_even_48 : decode cX7_even 48 = .ok (.iconst 3, 1) := by decide +kernel
theorem dX7_even_49 : decode cX7_even 49 = .ok (.invokevirtual 64, 3) := by decide +kernel
theorem dX7_even_52 : decode cX7_even 52 = .ok (.ireturn, 1) := by decide +kernel
theorem dX7_even_53 : decode cX7_even 53 = .ok (.aload_n 0, 1) := by decide +kernel
theorem dX7_even_54 : decode cX7_even 54 = .ok (.aload_n 0, 1) := by decide +kernel
theorem dX7_even_55 : decode cX7_even 55 = .ok (.iconst 2, 1) := by decide +kernel
theorem dX7_even_56 : decode cX7_even 56 = .ok (.iconst 2, 1) := by decide +kernel
theorem dX7_even_57 : decode cX7_even 57 = .ok (.aload_n 2, 1) := by decide +kernel
theorem dX7_even_58 : decode cX7_even 58 = .ok (.invokevirtual 125, 3) := by decide +kernel
theorem dX7_even_61 : decode cX7_even 61 = .ok (.invokevirtual 121, 3) := by decide +kernel
theorem dX7_even_64 : decode cX7_even 64 = .ok (.ireturn, 1) := by decide +kernel
theorem dX7_shorts_0 : decode cX7_shorts 0 = .ok (.aload_n 0, 1) := by decide +kernel
theorem dX7_shorts_1 : decode cX7_shorts 1 = .ok (.iload_n 1, 1) := by decide +kernel
theorem dX7_shorts_2 : decode cX7_shorts 2 = .ok (.invokevirtual 56, 3) := by decide +kernel
theorem dX7_shorts_5 : decode cX7_shorts 5 = .ok (.astore 4, 2) := by decide +kernel
theorem dX7_shorts_7 : decode cX7_shorts 7 = .ok (.aload 4, 2) := by decide +kernel
theorem dX7_shorts_9 : decode cX7_shorts 9 = .ok (.ifnull 21, 3) := by decide +kernel
theorem dX7_shorts_12 : decode cX7_shorts 12 = .ok (.iload_n 2, 1) := by decide +kernel
theorem dX7_shorts_13 : decode cX7_shorts 13 = .ok (.iconst 0, 1) := by decide +kernel
theorem dX7_shorts_14 : decode cX7_shorts 14 = .ok (.iconst 1, 1) := by decide +kernel
theorem dX7_shorts_15 : decode cX7_shorts 15 = .ok (.invokestatic 101, 3) := by decide +kernel
theorem dX7_shorts_18 : decode cX7_shorts 18 = .ok (.ifCond .eq 12, 3) := by decide +kernel
theorem dX7_shorts_21 : decode cX7_shorts 21 = .ok (.iload_n 3, 1) := by decide +kernel
theorem dX7_shorts_22 : decode cX7_shorts 22 = .ok (.iconst 0, 1) := by decide +kernel
theorem dX7_shorts_23 : decode cX7_shorts 23 = .ok (.iconst 2, 1) := by decide +kernel
theorem dX7_shorts_24 : decode cX7_shorts 24 = .ok (.invokestatic 101, 3) := by decide +kernel
theorem dX7_shorts_27 : decode cX7_shorts 27 = .ok (.ifCond .ne 9, 3) := by decide +kernel
theorem dX7_shorts_30 : decode cX7_shorts 30 = .ok (.aload_n 0, 1) := by decide +kernel
theorem dX7_shorts_31 : decode cX7_shorts 31 = .ok (.iconst 1, 1) := by decide +kernel
theorem dX7_shorts_32 : decode cX7_shorts 32 = .ok (.invokevirtual 64, 3) := by decide +kernel
theorem dX7_shorts_35 : decode cX7_shorts 35 = .ok (.ireturn, 1) := by decide +kernel
theorem dX7_shorts_36 : decode cX7_shorts 36 = .ok (.aload_n 0, 1) := by decide +kernel
theorem dX7_shorts_37 : decode cX7_shorts 37 = .ok (.getfield 48, 3) := by decide +kernel
theorem dX7_shorts_40 : decode cX7_shorts 40 = .ok (.bipush 10, 2) := by decide +kernel
theorem dX7_shorts_42 : decode cX7_shorts 42 = .ok (.if_icmp .lt 9, 3) := by decide +kernel
theorem dX7_shorts_45 : decode cX7_shorts 45 = .ok (.aload_n 0, 1) := by decide +kernel
theorem dX7_shorts_46 : decode cX7_shorts 46 = .ok (.iconst 2, 1) := by decide +kernel
theorem dX7_shorts_47 : decode cX7_shorts 47 = .ok (.invokevirtual 64, 3) := by decide +kernel
theorem dX7_shorts_50 : decode cX7_shorts 50 = .ok (.ireturn, 1) := by decide +kernel
theorem dX7_shorts_51 : decode cX7_shorts 51 = .ok (.new 15, 3) := by decide +kernel
theorem dX7_shorts_54 : decode cX7_shorts 54 = .ok (.dup, 1) := by decide +kernel
theorem dX7_shorts_55 : decode cX7_shorts 55 = .ok (.aload_n 0, 1) := by decide +kernel
theorem dX7_shorts_56 : decode cX7_shorts 56 = .ok (.getfield 48, 3) := by decide +kernel
theorem dX7_shorts_59 : decode cX7_shorts 59 = .ok (.iconst 3, 1) := by decide +kernel
theorem dX7_shorts_60 : decode cX7_shorts 60 = .ok (.iload_n 2, 1) := by decide +kernel
theorem dX7_shorts_61 : decode cX7_shorts 61 = .ok (.aload 4, 2) := by decide +kernel
theorem dX7_shorts_63 : decode cX7_shorts 63 = .ok (.invokevirtual 104, 3) := by decide +kernel
theorem dX7_shorts_66 : decode cX7_shorts 66 = .ok (.invokespecial 108, 3) := by decide +kernel
theorem dX7_shorts_69 : decode cX7_shorts 69 = .ok (.astore 5, 2) := by decide +kernel
theorem dX7_shorts_71 : decode cX7_shorts 71 = .ok (.aload_n 0, 1) := by decide +kernel
theorem dX7_shorts_72 : decode cX7_shorts 72 = .ok (.getfield 37, 3) := by decide +kernel
theorem dX7_shorts_75 : decode cX7_shorts 75 = .ok (.aload 5, 2) := by decide +kernel
theorem dX7_shorts_77 : decode cX7_shorts 77 = .ok (.getfield 132, 3) := by decide +kernel
theorem dX7_shorts_80 : decode cX7_shorts 80 = .ok (.iload_n 2, 1) := by decide +kernel
theorem dX7_shorts_81 : decode cX7_shorts 81 = .ok (.iload_n 3, 1) := by decide +kernel
theorem dX7_shorts_82 : decode cX7_shorts 82 = .ok (.invokevirtual 136, 3) := by decide +kernel
theorem dX7_shorts_85 : decode cX7_shorts 85 = .ok (.aload 5, 2) := by decide +kernel
theorem dX7_shorts_87 : decode cX7_shorts 87 = .ok (.invokevirtual 111, 3) := by decide +kernel
theorem dX7_shorts_90 : decode cX7_shorts 90 = .ok (.aload_n 0, 1) := by decide +kernel
theorem dX7_shorts_91 : decode cX7_shorts 91 = .ok (.getfield 37, 3) := by decide +kernel
theorem dX7_shorts_94 : decode cX7_shorts 94 = .ok (.getfield 140, 3) := by decide +kernel
theorem dX7_shorts_97 : decode cX7_shorts 97 = .ok (.i2l, 1) := by decide +kernel
theorem dX7_shorts_98 : decode cX7_shorts 98 = .ok (.aload_n 0, 1) := by decide +kernel
theorem dX7_shorts_99 : decode cX7_shorts 99 = .ok (.getfield 37, 3) := by decide +kernel
theorem dX7_shorts_102 : decode cX7_shorts 102 = .ok (.getfield 143, 3) := by decide +kernel
theorem dX7_shorts_105 : decode cX7_shorts 105 = .ok (.i2l, 1) := by decide +kernel
theorem dX7_shorts_106 : decode cX7_shorts 106 = .ok (.lconst 0, 1) := by decide +kernel
theorem dX7_shorts_107 : decode cX7_shorts 107 = .ok (.lconst 1, 1) := by decide +kernel
theorem dX7_shorts_108 : decode cX7_shorts 108 = .ok (.iload_n 3, 1) := by decide +kernel
theorem dX7_shorts_109 : decode cX7_shorts 109 = .ok (.lshl, 1) := by decide +kernel
theorem dX7_shorts_110 : decode cX7_shorts 110 = .ok (.invokevirtual 115, 3) := by decide +kernel
theorem dX7_shorts_113 : decode cX7_shorts 113 = .ok (.aload_n 0, 1) := by decide +kernel
theorem dX7_shorts_114 : decode cX7_shorts 114 = .ok (.aload 5, 2) := by decide +kernel
theorem dX7_shorts_116 : decode cX7_shorts 116 = .ok (.invokevirtual 121, 3) := by decide +kernel
theorem dX7_shorts_119 : decode cX7_shorts 119 = .ok (.ireturn, 1) := by decide +kernel
theorem dX7_pieces_0 : decode cX7_pieces 0 = .ok (.aload_n 0, 1) := by decide +kernel
theorem dX7_pieces_1 : decode cX7_pieces 1 = .ok (.iload_n 1, 1) := by decide +kernel
theorem dX7_pieces_2 : decode cX7_pieces 2 = .ok (.invokevirtual 56, 3) := by decide +kernel
theorem dX7_pieces_5 : decode cX7_pieces 5 = .ok (.astore 5, 2) := by decide +kernel
theorem dX7_pieces_7 : decode cX7_pieces 7 = .ok (.iload_n 2, 1) := by decide +kernel
theorem dX7_pieces_8 : decode cX7_pieces 8 = .ok (.iconst 0, 1) := by decide +kernel
theorem dX7_pieces_9 : decode cX7_pieces 9 = .ok (.iconst 2, 1) := by decide +kernel
theorem dX7_pieces_10 : decode cX7_pieces 10 = .ok (.invokestatic 101, 3) := by decide +kernel
theorem dX7_pieces_13 : decode cX7_pieces 13 = .ok (.ifCond .eq 30, 3) := by decide +kernel
theorem dX7_pieces_16 : decode cX7_pieces 16 = .ok (.iload_n 3, 1) := by decide +kernel
theorem dX7_pieces_17 : decode cX7_pieces 17 = .ok (.iconst 0, 1) := by decide +kernel
theorem dX7_pieces_18 : decode cX7_pieces 18 = .ok (.sipush 10000, 3) := by decide +kernel
theorem dX7_pieces_21 : decode cX7_pieces 21 = .ok (.invokestatic 101, 3) := by decide +kernel
theorem dX7_pieces_24 : decode cX7_pieces 24 = .ok (.ifCond .eq 19, 3) := by decide +kernel
theorem dX7_pieces_27 : decode cX7_pieces 27 = .ok (.iload 4, 2) := by decide +kernel
theorem dX7_pieces_29 : decode cX7_pieces 29 = .ok (.iconst 1, 1) := by decide +kernel
theorem dX7_pieces_30 : decode cX7_pieces 30 = .ok (.sipush 1000, 3) := by decide +kernel
theorem dX7_pieces_33 : decode cX7_pieces 33 = .ok (.invokestatic 101, 3) := by decide +kernel
theorem dX7_pieces_36 : decode cX7_pieces 36 = .ok (.ifCond .eq 7, 3) := by decide +kernel
theorem dX7_pieces_39 : decode cX7_pieces 39 = .ok (.iconst 1, 1) := by decide +kernel
theorem dX7_pieces_40 : decode cX7_pieces 40 = .ok (.goto 4, 3) := by decide +kernel
theorem dX7_pieces_43 : decode cX7_pieces 43 = .ok (.iconst 0, 1) := by decide +kernel
theorem dX7_pieces_44 : decode cX7_pieces 44 = .ok (.istore 6, 2) := by decide +kernel
theorem dX7_pieces_46 : decode cX7_pieces 46 = .ok (.aload 5, 2) := by decide +kernel
theorem dX7_pieces_48 : decode cX7_pieces 48 = .ok (.ifnull 8, 3) := by decide +kernel
theorem dX7_pieces_51 : decode cX7_pieces 51 = .ok (.iload 6, 2) := by decide +kernel
theorem dX7_pieces_53 : decode cX7_pieces 53 = .ok (.ifCond .ne 9, 3) := by decide +kernel
theorem dX7_pieces_56 : decode cX7_pieces 56 = .ok (.aload_n 0, 1) := by decide +kernel
theorem dX7_pieces_57 : decode cX7_pieces 57 = .ok (.iconst 1, 1) := by decide +kernel
theorem dX7_pieces_58 : decode cX7_pieces 58 = .ok (.invokevirtual 64, 3) := by decide +kernel
theorem dX7_pieces_61 : decode cX7_pieces 61 = .ok (.ireturn, 1) := by decide +kernel
theorem dX7_pieces_62 : decode cX7_pieces 62 = .ok (.aload_n 0, 1) := by decide +kernel
theorem dX7_pieces_63 : decode cX7_pieces 63 = .ok (.getfield 48, 3) := by decide +kernel
theorem dX7_pieces_66 : decode cX7_pieces 66 = .ok (.bipush 10, 2) := by decide +kernel
theorem dX7_pieces_68 : decode cX7_pieces 68 = .ok (.if_icmp .lt 9, 3) := by decide +kernel
theorem dX7_pieces_71 : decode cX7_pieces 71 = .ok (.aload_n 0, 1) := by decide +kernel
theorem dX7_pieces_72 : decode cX7_pieces 72 = .ok (.iconst 2, 1) := by decide +kernel
theorem dX7_pieces_73 : decode cX7_pieces 73 = .ok (.invokevirtual 64, 3) := by decide +kernel
theorem dX7_pieces_76 : decode cX7_pieces 76 = .ok (.ireturn, 1) := by decide +kernel
theorem dX7_pieces_77 : decode cX7_pieces 77 = .ok (.aload_n 0, 1) := by decide +kernel
theorem dX7_pieces_78 : decode cX7_pieces 78 = .ok (.aload_n 0, 1) := by decide +kernel
theorem dX7_pieces_79 : decode cX7_pieces 79 = .ok (.iload_n 2, 1) := by decide +kernel
theorem dX7_pieces_80 : decode cX7_pieces 80 = .ok (.iload_n 3, 1) := by decide +kernel
theorem dX7_pieces_81 : decode cX7_pieces 81 = .ok (.iload 4, 2) := by decide +kernel
theorem dX7_pieces_83 : decode cX7_pieces 83 = .ok (.aload 5, 2) := by decide +kernel
theorem dX7_pieces_85 : decode cX7_pieces 85 = .ok (.invokevirtual 146, 3) := by decide +kernel
theorem dX7_pieces_88 : decode cX7_pieces 88 = .ok (.invokevirtual 121, 3) := by decide +kernel
theorem dX7_pieces_91 : decode cX7_pieces 91 = .ok (.ireturn, 1) := by decide +kernel
theorem dX7_drop_0 : decode cX7_drop 0 = .ok (.aload_n 0, 1) := by decide +kernel
theorem dX7_drop_1 : decode cX7_drop 1 = .ok (.getfield 48, 3) := by decide +kernel
theorem dX7_drop_4 : decode cX7_drop 4 = .ok (.ifCond .gt 9, 3) := by decide +kernel
theorem dX7_drop_7 : decode cX7_drop 7 = .ok (.aload_n 0, 1) := by decide +kernel
theorem dX7_drop_8 : decode cX7_drop 8 = .ok (.iconst 3, 1) := by decide +kernel
theorem dX7_drop_9 : decode cX7_drop 9 = .ok (.invokevirtual 64, 3) := by decide +kernel
theorem dX7_drop_12 : decode cX7_drop 12 = .ok (.ireturn, 1) := by decide +kernel
theorem dX7_drop_13 : decode cX7_drop 13 = .ok (.aload_n 0, 1) := by decide +kernel
theorem dX7_drop_14 : decode cX7_drop 14 = .ok (.dup, 1) := by decide +kernel
theorem dX7_drop_15 : decode cX7_drop 15 = .ok (.getfield 48, 3) := by decide +kernel
theorem dX7_drop_18 : decode cX7_drop 18 = .ok (.iconst 1, 1) := by decide +kernel
theorem dX7_drop_19 : decode cX7_drop 19 = .ok (.isub, 1) := by decide +kernel
theorem dX7_drop_20 : decode cX7_drop 20 = .ok (.putfield 48, 3) := by decide +kernel
theorem dX7_drop_23 : decode cX7_drop 23 = .ok (.aload_n 0, 1) := by decide +kernel
theorem dX7_drop_24 : decode cX7_drop 24 = .ok (.getfield 17, 3) := by decide +kernel
theorem dX7_drop_27 : decode cX7_drop 27 = .ok (.aload_n 0, 1) := by decide +kernel
theorem dX7_drop_28 : decode cX7_drop 28 = .ok (.getfield 48, 3) := by decide +kernel
theorem dX7_drop_31 : decode cX7_drop 31 = .ok (.aconst_null, 1) := by decide +kernel
theorem dX7_drop_32 : decode cX7_drop 32 = .ok (.aastore, 1) := by decide +kernel
theorem dX7_drop_33 : decode cX7_drop 33 = .ok (.aload_n 0, 1) := by decide +kernel
theorem dX7_drop_34 : decode cX7_drop 34 = .ok (.aload_n 0, 1) := by decide +kernel
theorem dX7_drop_35 : decode cX7_drop 35 = .ok (.getfield 48, 3) := by decide +kernel
theorem dX7_drop_38 : decode cX7_drop 38 = .ok (.invokevirtual 80, 3) := by decide +kernel
theorem dX7_drop_41 : decode cX7_drop 41 = .ok (.ireturn, 1) := by decide +kernel
theorem dX7_keepFit_0 : decode cX7_keepFit 0 = .ok (.aload_n 0, 1) := by decide +kernel
theorem dX7_keepFit_1 : decode cX7_keepFit 1 = .ok (.getfield 48, 3) := by decide +kernel
theorem dX7_keepFit_4 : decode cX7_keepFit 4 = .ok (.bipush 10, 2) := by decide +kernel
theorem dX7_keepFit_6 : decode cX7_keepFit 6 = .ok (.if_icmp .lt 9, 3) := by decide +kernel
theorem dX7_keepFit_9 : decode cX7_keepFit 9 = .ok (.aload_n 0, 1) := by decide +kernel
theorem dX7_keepFit_10 : decode cX7_keepFit 10 = .ok (.iconst 2, 1) := by decide +kernel
theorem dX7_keepFit_11 : decode cX7_keepFit 11 = .ok (.invokevirtual 64, 3) := by decide +kernel
theorem dX7_keepFit_14 : decode cX7_keepFit 14 = .ok (.ireturn, 1) := by decide +kernel
theorem dX7_keepFit_15 : decode cX7_keepFit 15 = .ok (.aload_n 0, 1) := by decide +kernel
theorem dX7_keepFit_16 : decode cX7_keepFit 16 = .ok (.getfield 17, 3) := by decide +kernel
theorem dX7_keepFit_19 : decode cX7_keepFit 19 = .ok (.aload_n 0, 1) := by decide +kernel
theorem dX7_keepFit_20 : decode cX7_keepFit 20 = .ok (.getfield 48, 3) := by decide +kernel
theorem dX7_keepFit_23 : decode cX7_keepFit 23 = .ok (.aload_n 1, 1) := by decide +kernel
theorem dX7_keepFit_24 : decode cX7_keepFit 24 = .ok (.aastore, 1) := by decide +kernel
theorem dX7_keepFit_25 : decode cX7_keepFit 25 = .ok (.aload_n 0, 1) := by decide +kernel
theorem dX7_keepFit_26 : decode cX7_keepFit 26 = .ok (.dup, 1) := by decide +kernel
theorem dX7_keepFit_27 : decode cX7_keepFit 27 = .ok (.getfield 48, 3) := by decide +kernel
theorem dX7_keepFit_30 : decode cX7_keepFit 30 = .ok (.iconst 1, 1) := by decide +kernel
theorem dX7_keepFit_31 : decode cX7_keepFit 31 = .ok (.iadd, 1) := by decide +kernel
theorem dX7_keepFit_32 : decode cX7_keepFit 32 = .ok (.putfield 48, 3) := by decide +kernel
theorem dX7_keepFit_35 : decode cX7_keepFit 35 = .ok (.aload_n 0, 1) := by decide +kernel
theorem dX7_keepFit_36 : decode cX7_keepFit 36 = .ok (.aload_n 1, 1) := by decide +kernel
theorem dX7_keepFit_37 : decode cX7_keepFit 37 = .ok (.getfield 150, 3) := by decide +kernel
theorem dX7_keepFit_40 : decode cX7_keepFit 40 = .ok (.invokevirtual 80, 3) := by decide +kernel
theorem dX7_keepFit_43 : decode cX7_keepFit 43 = .ok (.ireturn, 1) := by decide +kernel
theorem dX7_levelledFit_0 : decode cX7_levelledFit 0 = .ok (.new 15, 3) := by decide +kernel
theorem dX7_levelledFit_3 : decode cX7_levelledFit 3 = .ok (.dup, 1) := by decide +kernel
theorem dX7_levelledFit_4 : decode cX7_levelledFit 4 = .ok (.aload_n 0, 1) := by decide +kernel
theorem dX7_levelledFit_5 : decode cX7_levelledFit 5 = .ok (.getfield 48, 3) := by decide +kernel
theorem dX7_levelledFit_8 : decode cX7_levelledFit 8 = .ok (.iload_n 1, 1) := by decide +kernel
theorem dX7_levelledFit_9 : decode cX7_levelledFit 9 = .ok (.iload_n 2, 1) := by decide +kernel
theorem dX7_levelledFit_10 : decode cX7_levelledFit 10 = .ok (.aload_n 3, 1) := by decide +kernel
theorem dX7_levelledFit_11 : decode cX7_levelledFit 11 = .ok (.invokevirtual 104, 3) := by decide +kernel
theorem dX7_levelledFit_14 : decode cX7_levelledFit 14 = .ok (.invokespecial 108, 3) := by decide +kernel
theorem dX7_levelledFit_17 : decode cX7_levelledFit 17 = .ok (.astore 4, 2) := by decide +kernel
theorem dX7_levelledFit_19 : decode cX7_levelledFit 19 = .ok (.aload_n 0, 1) := by decide +kernel
theorem dX7_levelledFit_20 : decode cX7_levelledFit 20 = .ok (.getfield 30, 3) := by decide +kernel
theorem dX7_levelledFit_23 : decode cX7_levelledFit 23 = .ok (.aload 4, 2) := by decide +kernel
theorem dX7_levelledFit_25 : decode cX7_levelledFit 25 = .ok (.iconst 0, 1) := by decide +kernel
theorem dX7_levelledFit_26 : decode cX7_levelledFit 26 = .ok (.aload 4, 2) := by decide +kernel
theorem dX7_levelledFit_28 : decode cX7_levelledFit 28 = .ok (.getfield 132, 3) := by decide +kernel
theorem dX7_levelledFit_31 : decode cX7_levelledFit 31 = .ok (.getfield 129, 3) := by decide +kernel
theorem dX7_levelledFit_34 : decode cX7_levelledFit 34 = .ok (.invokevirtual 153, 3) := by decide +kernel
theorem dX7_levelledFit_37 : decode cX7_levelledFit 37 = .ok (.aload_n 0, 1) := by decide +kernel
theorem dX7_levelledFit_38 : decode cX7_levelledFit 38 = .ok (.getfield 30, 3) := by decide +kernel
theorem dX7_levelledFit_41 : decode cX7_levelledFit 41 = .ok (.aload 4, 2) := by decide +kernel
theorem dX7_levelledFit_43 : decode cX7_levelledFit 43 = .ok (.invokevirtual 111, 3) := by decide +kernel
theorem dX7_levelledFit_46 : decode cX7_levelledFit 46 = .ok (.invokevirtual 157, 3) := by decide +kernel
theorem dX7_levelledFit_49 : decode cX7_levelledFit 49 = .ok (.aload 4, 2) := by decide +kernel
theorem dX7_levelledFit_51 : decode cX7_levelledFit 51 = .ok (.areturn, 1) := by decide +kernel
theorem dX7_partedFit_0 : decode cX7_partedFit 0 = .ok (.new 15, 3) := by decide +kernel
theorem dX7_partedFit_3 : decode cX7_partedFit 3 = .ok (.dup, 1) := by decide +kernel
theorem dX7_partedFit_4 : decode cX7_partedFit 4 = .ok (.aload_n 0, 1) := by decide +kernel
theorem dX7_partedFit_5 : decode cX7_partedFit 5 = .ok (.getfield 48, 3) := by decide +kernel
theorem dX7_partedFit_8 : decode cX7_partedFit 8 = .ok (.iconst 4, 1) := by decide +kernel
theorem dX7_partedFit_9 : decode cX7_partedFit 9 = .ok (.iload_n 1, 1) := by decide +kernel
theorem dX7_partedFit_10 : decode cX7_partedFit 10 = .ok (.aload 4, 2) := by decide +kernel
theorem dX7_partedFit_12 : decode cX7_partedFit 12 = .ok (.invokevirtual 104, 3) := by decide +kernel
theorem dX7_partedFit_15 : decode cX7_partedFit 15 = .ok (.invokespecial 108, 3) := by decide +kernel
theorem dX7_partedFit_18 : decode cX7_partedFit 18 = .ok (.astore 5, 2) := by decide +kernel
theorem dX7_partedFit_20 : decode cX7_partedFit 20 = .ok (.iconst 0, 1) := by decide +kernel
theorem dX7_partedFit_21 : decode cX7_partedFit 21 = .ok (.istore 6, 2) := by decide +kernel
theorem dX7_partedFit_23 : decode cX7_partedFit 23 = .ok (.iconst 0, 1) := by decide +kernel
theorem dX7_partedFit_24 : decode cX7_partedFit 24 = .ok (.istore 7, 2) := by decide +kernel
theorem dX7_partedFit_26 : decode cX7_partedFit 26 = .ok (.iload 7, 2) := by decide +kernel
theorem dX7_partedFit_28 : decode cX7_partedFit 28 = .ok (.bipush 12, 2) := by decide +kernel
theorem dX7_partedFit_30 : decode cX7_partedFit 30 = .ok (.if_icmp .ge 121, 3) := by decide +kernel
theorem dX7_partedFit_33 : decode cX7_partedFit 33 = .ok (.iload 6, 2) := by decide +kernel
theorem dX7_partedFit_35 : decode cX7_partedFit 35 = .ok (.aload 5, 2) := by decide +kernel
theorem dX7_partedFit_37 : decode cX7_partedFit 37 = .ok (.getfield 132, 3) := by decide +kernel
theorem dX7_partedFit_40 : decode cX7_partedFit 40 = .ok (.getfield 129, 3) := by decide +kernel
theorem dX7_partedFit_43 : decode cX7_partedFit 43 = .ok (.if_icmp .ge 108, 3) := by decide +kernel
theorem dX7_partedFit_46 : decode cX7_partedFit 46 = .ok (.iload 6, 2) := by decide +kernel
theorem dX7_partedFit_48 : decode cX7_partedFit 48 = .ok (.iconst 1, 1) := by decide +kernel
theorem dX7_partedFit_49 : decode cX7_partedFit 49 = .ok (.iadd, 1) := by decide +kernel
theorem dX7_partedFit_50 : decode cX7_partedFit 50 = .ok (.istore 8, 2) := by decide +kernel
theorem dX7_partedFit_52 : decode cX7_partedFit 52 = .ok (.aload_n 0, 1) := by decide +kernel
theorem dX7_partedFit_53 : decode cX7_partedFit 53 = .ok (.getfield 30, 3) := by decide +kernel
theorem dX7_partedFit_56 : decode cX7_partedFit 56 = .ok (.aload 5, 2) := by decide +kernel
theorem dX7_partedFit_58 : decode cX7_partedFit 58 = .ok (.iload 6, 2) := by decide +kernel
theorem dX7_partedFit_60 : decode cX7_partedFit 60 = .ok (.iload 8, 2) := by decide +kernel
theorem dX7_partedFit_62 : decode cX7_partedFit 62 = .ok (.invokevirtual 153, 3) := by decide +kernel
theorem dX7_partedFit_65 : decode cX7_partedFit 65 = .ok (.aload 5, 2) := by decide +kernel
theorem dX7_partedFit_67 : decode cX7_partedFit 67 = .ok (.iload 6, 2) := by decide +kernel
theorem dX7_partedFit_69 : decode cX7_partedFit 69 = .ok (.invokevirtual 161, 3) := by decide +kernel
theorem dX7_partedFit_72 : decode cX7_partedFit 72 = .ok (.astore 9, 2) := by decide +kernel
theorem dX7_partedFit_74 : decode cX7_partedFit 74 = .ok (.aload_n 0, 1) := by decide +kernel
theorem dX7_partedFit_75 : decode cX7_partedFit 75 = .ok (.getfield 30, 3) := by decide +kernel
theorem dX7_partedFit_78 : decode cX7_partedFit 78 = .ok (.aload 9, 2) := by decide +kernel
theorem dX7_partedFit_80 : decode cX7_partedFit 80 = .ok (.invokevirtual 157, 3) := by decide +kernel
theorem dX7_partedFit_83 : decode cX7_partedFit 83 = .ok (.iload 8, 2) := by decide +kernel
theorem dX7_partedFit_85 : decode cX7_partedFit 85 = .ok (.aload 5, 2) := by decide +kernel
theorem dX7_partedFit_87 : decode cX7_partedFit 87 = .ok (.getfield 132, 3) := by decide +kernel
theorem dX7_partedFit_90 : decode cX7_partedFit 90 = .ok (.getfield 129, 3) := by decide +kernel
theorem dX7_partedFit_93 : decode cX7_partedFit 93 = .ok (.if_icmp .ge 48, 3) := by decide +kernel
theorem dX7_partedFit_96 : decode cX7_partedFit 96 = .ok (.aload_n 0, 1) := by decide +kernel
theorem dX7_partedFit_97 : decode cX7_partedFit 97 = .ok (.getfield 30, 3) := by decide +kernel
theorem dX7_partedFit_100 : decode cX7_partedFit 100 = .ok (.aload 5, 2) := by decide +kernel
theorem dX7_partedFit_102 : decode cX7_partedFit 102 = .ok (.iload 6, 2) := by decide +kernel
theorem dX7_partedFit_104 : decode cX7_partedFit 104 = .ok (.iload 8, 2) := by decide +kernel
theorem dX7_partedFit_106 : decode cX7_partedFit 106 = .ok (.iconst 1, 1) := by decide +kernel
theorem dX7_partedFit_107 : decode cX7_partedFit 107 = .ok (.iadd, 1) := by decide +kernel
theorem dX7_partedFit_108 : decode cX7_partedFit 108 = .ok (.invokevirtual 153, 3) := by decide +kernel
theorem dX7_partedFit_111 : decode cX7_partedFit 111 = .ok (.aload_n 0, 1) := by decide +kernel
theorem dX7_partedFit_112 : decode cX7_partedFit 112 = .ok (.getfield 30, 3) := by decide +kernel
theorem dX7_partedFit_115 : decode cX7_partedFit 115 = .ok (.iload_n 2, 1) := by decide +kernel
theorem dX7_partedFit_116 : decode cX7_partedFit 116 = .ok (.iload_n 3, 1) := by decide +kernel
theorem dX7_partedFit_117 : decode cX7_partedFit 117 = .ok (.invokevirtual 165, 3) := by decide +kernel
theorem dX7_partedFit_120 : decode cX7_partedFit 120 = .ok (.ifCond .ne 6, 3) := by decide +kernel
theorem dX7_partedFit_123 : decode cX7_partedFit 123 = .ok (.goto 18, 3) := by decide +kernel
theorem dX7_partedFit_126 : decode cX7_partedFit 126 = .ok (.aload_n 0, 1) := by decide +kernel
theorem dX7_partedFit_127 : decode cX7_partedFit 127 = .ok (.getfield 30, 3) := by decide +kernel
theorem dX7_partedFit_130 : decode cX7_partedFit 130 = .ok (.aload 9, 2) := by decide +kernel
theorem dX7_partedFit_132 : decode cX7_partedFit 132 = .ok (.invokevirtual 157, 3) := by decide +kernel
theorem dX7_partedFit_135 : decode cX7_partedFit 135 = .ok (.iinc 8 1, 3) := by decide +kernel
theorem dX7_partedFit_138 : decode cX7_partedFit 138 = .ok (.goto (-55), 3) := by decide +kernel
theorem dX7_partedFit_141 : decode cX7_partedFit 141 = .ok (.iload 8, 2) := by decide +kernel
theorem dX7_partedFit_143 : decode cX7_partedFit 143 = .ok (.istore 6, 2) := by decide +kernel
theorem dX7_partedFit_145 : decode cX7_partedFit 145 = .ok (.iinc 7 1, 3) := by decide +kernel
theorem dX7_partedFit_148 : decode cX7_partedFit 148 = .ok (.goto (-122), 3) := by decide +kernel
theorem dX7_partedFit_151 : decode cX7_partedFit 151 = .ok (.aload 5, 2) := by decide +kernel
theorem dX7_partedFit_153 : decode cX7_partedFit 153 = .ok (.areturn, 1) := by decide +kernel
theorem dX7_count_0 : decode cX7_count 0 = .ok (.iload_n 1, 1) := by decide +kernel
theorem dX7_count_1 : decode cX7_count 1 = .ok (.ifCond .ne 8, 3) := by decide +kernel
theorem dX7_count_4 : decode cX7_count 4 = .ok (.aload_n 0, 1) := by decide +kernel
theorem dX7_count_5 : decode cX7_count 5 = .ok (.getfield 48, 3) := by decide +kernel
theorem dX7_count_8 : decode cX7_count 8 = .ok (.ireturn, 1) := by decide +kernel
theorem dX7_count_9 : decode cX7_count 9 = .ok (.iload_n 1, 1) := by decide +kernel
theorem dX7_count_10 : decode cX7_count 10 = .ok (.iconst 1, 1) := by decide +kernel
theorem dX7_count_11 : decode cX7_count 11 = .ok (.if_icmp .ne 11, 3) := by decide +kernel
theorem dX7_count_14 : decode cX7_count 14 = .ok (.aload_n 0, 1) := by decide +kernel
theorem dX7_count_15 : decode cX7_count 15 = .ok (.getfield 44, 3) := by decide +kernel
theorem dX7_count_18 : decode cX7_count 18 = .ok (.getfield 169, 3) := by decide +kernel
theorem dX7_count_21 : decode cX7_count 21 = .ok (.ireturn, 1) := by decide +kernel
theorem dX7_count_22 : decode cX7_count 22 = .ok (.iload_n 1, 1) := by decide +kernel
theorem dX7_count_23 : decode cX7_count 23 = .ok (.iconst 2, 1) := by decide +kernel
theorem dX7_count_24 : decode cX7_count 24 = .ok (.if_icmp .ge 7, 3) := by decide +kernel
theorem dX7_count_27 : decode cX7_count 27 = .ok (.aconst_null, 1) := by decide +kernel
theorem dX7_count_28 : decode cX7_count 28 = .ok (.goto 10, 3) := by decide +kernel
theorem dX7_count_31 : decode cX7_count 31 = .ok (.aload_n 0, 1) := by decide +kernel
theorem dX7_count_32 : decode cX7_count 32 = .ok (.iload_n 1, 1) := by decide +kernel
theorem dX7_count_33 : decode cX7_count 33 = .ok (.iconst 2, 1) := by decide +kernel
theorem dX7_count_34 : decode cX7_count 34 = .ok (.isub, 1) := by decide +kernel
theorem dX7_count_35 : decode cX7_count 35 = .ok (.invokevirtual 56, 3) := by decide +kernel
theorem dX7_count_38 : decode cX7_count 38 = .ok (.astore_n 2, 1) := by decide +kernel
theorem dX7_count_39 : decode cX7_count 39 = .ok (.aload_n 2, 1) := by decide +kernel
theorem dX7_count_40 : decode cX7_count 40 = .ok (.ifnonnull 7, 3) := by decide +kernel
theorem dX7_count_43 : decode cX7_count 43 = .ok (.iconst (-1), 1) := by decide +kernel
theorem dX7_count_44 : decode cX7_count 44 = .ok (.goto 7, 3) := by decide +kernel
theorem dX7_count_47 : decode cX7_count 47 = .ok (.aload_n 2, 1) := by decide +kernel
theorem dX7_count_48 : decode cX7_count 48 = .ok (.getfield 129, 3) := by decide +kernel
theorem dX7_count_51 : decode cX7_count 51 = .ok (.ireturn, 1) := by decide +kernel
theorem dX7_told_0 : decode cX7_told 0 = .ok (.aload_n 0, 1) := by decide +kernel
theorem dX7_told_1 : decode cX7_told 1 = .ok (.iload_n 1, 1) := by decide +kernel
theorem dX7_told_2 : decode cX7_told 2 = .ok (.invokevirtual 172, 3) := by decide +kernel
theorem dX7_told_5 : decode cX7_told 5 = .ok (.astore_n 3, 1) := by decide +kernel
theorem dX7_told_6 : decode cX7_told 6 = .ok (.aload_n 3, 1) := by decide +kernel
theorem dX7_told_7 : decode cX7_told 7 = .ok (.ifnonnull 5, 3) := by decide +kernel
theorem dX7_told_10 : decode cX7_told 10 = .ok (.iconst (-1), 1) := by decide +kernel
theorem dX7_told_11 : decode cX7_told 11 = .ok (.ireturn, 1) := by decide +kernel
theorem dX7_told_12 : decode cX7_told 12 = .ok (.iload_n 2, 1) := by decide +kernel
theorem dX7_told_13 : decode cX7_told 13 = .ok (.tableswitch 63 0 4 #[35, 40, 48, 53, 58], 35) := by decide +kernel
theorem dX7_told_48 : decode cX7_told 48 = .ok (.aload_n 3, 1) := by decide +kernel
theorem dX7_told_49 : decode cX7_told 49 = .ok (.getfield 176, 3) := by decide +kernel
theorem dX7_told_52 : decode cX7_told 52 = .ok (.ireturn, 1) := by decide +kernel
theorem dX7_told_53 : decode cX7_told 53 = .ok (.aload_n 3, 1) := by decide +kernel
theorem dX7_told_54 : decode cX7_told 54 = .ok (.getfield 132, 3) := by decide +kernel
theorem dX7_told_57 : decode cX7_told 57 = .ok (.getfield 129, 3) := by decide +kernel
theorem dX7_told_60 : decode cX7_told 60 = .ok (.ireturn, 1) := by decide +kernel
theorem dX7_told_61 : decode cX7_told 61 = .ok (.aload_n 3, 1) := by decide +kernel
theorem dX7_told_62 : decode cX7_told 62 = .ok (.getfield 179, 3) := by decide +kernel
theorem dX7_told_65 : decode cX7_told 65 = .ok (.ireturn, 1) := by decide +kernel
theorem dX7_told_66 : decode cX7_told 66 = .ok (.aload_n 3, 1) := by decide +kernel
theorem dX7_told_67 : decode cX7_told 67 = .ok (.invokevirtual 182, 3) := by decide +kernel
theorem dX7_told_70 : decode cX7_told 70 = .ok (.ireturn, 1) := by decide +kernel
theorem dX7_told_71 : decode cX7_told 71 = .ok (.aload_n 3, 1) := by decide +kernel
theorem dX7_told_72 : decode cX7_told 72 = .ok (.getfield 186, 3) := by decide +kernel
theorem dX7_told_75 : decode cX7_told 75 = .ok (.ireturn, 1) := by decide +kernel
theorem dX7_told_76 : decode cX7_told 76 = .ok (.iconst (-1), 1) := by decide +kernel
theorem dX7_told_77 : decode cX7_told 77 = .ok (.ireturn, 1) := by decide +kernel
theorem dX7_number_0 : decode cX7_number 0 = .ok (.aload_n 0, 1) := by decide +kernel
theorem dX7_number_1 : decode cX7_number 1 = .ok (.iload_n 1, 1) := by decide +kernel
theorem dX7_number_2 : decode cX7_number 2 = .ok (.invokevirtual 172, 3) := by decide +kernel
theorem dX7_number_5 : decode cX7_number 5 = .ok (.astore 5, 2) := by decide +kernel
theorem dX7_number_7 : decode cX7_number 7 = .ok (.aload 5, 2) := by decide +kernel
theorem dX7_number_9 : decode cX7_number 9 = .ok (.ifnull 12, 3) := by decide +kernel
theorem dX7_number_12 : decode cX7_number 12 = .ok (.iload_n 3, 1) := by decide +kernel
theorem dX7_number_13 : decode cX7_number 13 = .ok (.iconst 0, 1) := by decide +kernel
theorem dX7_number_14 : decode cX7_number 14 = .ok (.iconst 2, 1) := by decide +kernel
theorem dX7_number_15 : decode cX7_number 15 = .ok (.invokestatic 101, 3) := by decide +kernel
theorem dX7_number_18 : decode cX7_number 18 = .ok (.ifCond .ne 7, 3) := by decide +kernel
theorem dX7_number_21 : decode cX7_number 21 = .ok (.ldc2_w 89, 3) := by decide +kernel
theorem dX7_number_24 : decode cX7_number 24 = .ok (.lreturn, 1) := by decide +kernel
theorem dX7_number_25 : decode cX7_number 25 = .ok (.aload 5, 2) := by decide +kernel
theorem dX7_number_27 : decode cX7_number 27 = .ok (.getfield 176, 3) := by decide +kernel
theorem dX7_number_30 : decode cX7_number 30 = .ok (.iconst 4, 1) := by decide +kernel
theorem dX7_number_31 : decode cX7_number 31 = .ok (.if_icmp .ne 7, 3) := by decide +kernel
theorem dX7_number_34 : decode cX7_number 34 = .ok (.iload_n 2, 1) := by decide +kernel
theorem dX7_number_35 : decode cX7_number 35 = .ok (.goto 4, 3) := by decide +kernel
theorem dX7_number_38 : decode cX7_number 38 = .ok (.iconst 0, 1) := by decide +kernel
theorem dX7_number_39 : decode cX7_number 39 = .ok (.istore 6, 2) := by decide +kernel
theorem dX7_number_41 : decode cX7_number 41 = .ok (.aload 5, 2) := by decide +kernel
theorem dX7_number_43 : decode cX7_number 43 = .ok (.iload 6, 2) := by decide +kernel
theorem dX7_number_45 : decode cX7_number 45 = .ok (.invokevirtual 189, 3) := by decide +kernel
theorem dX7_number_48 : decode cX7_number 48 = .ok (.ifCond .ne 7, 3) := by decide +kernel
theorem dX7_number_51 : decode cX7_number 51 = .ok (.ldc2_w 89, 3) := by decide +kernel
theorem dX7_number_54 : decode cX7_number 54 = .ok (.lreturn, 1) := by decide +kernel
theorem dX7_number_55 : decode cX7_number 55 = .ok (.aload 5, 2) := by decide +kernel
theorem dX7_number_57 : decode cX7_number 57 = .ok (.getfield 192, 3) := by decide +kernel
theorem dX7_number_60 : decode cX7_number 60 = .ok (.iload 6, 2) := by decide +kernel
theorem dX7_number_62 : decode cX7_number 62 = .ok (.aaload, 1) := by decide +kernel
theorem dX7_number_63 : decode cX7_number 63 = .ok (.astore 7, 2) := by decide +kernel
theorem dX7_number_65 : decode cX7_number 65 = .ok (.aload 7, 2) := by decide +kernel
theorem dX7_number_67 : decode cX7_number 67 = .ok (.iload_n 3, 1) := by decide +kernel
theorem dX7_number_68 : decode cX7_number 68 = .ok (.invokevirtual 196, 3) := by decide +kernel
theorem dX7_number_71 : decode cX7_number 71 = .ok (.aload 7, 2) := by decide +kernel
theorem dX7_number_73 : decode cX7_number 73 = .ok (.getfield 200, 3) := by decide +kernel
theorem dX7_number_76 : decode cX7_number 76 = .ok (.iload 4, 2) := by decide +kernel
theorem dX7_number_78 : decode cX7_number 78 = .ok (.invokestatic 204, 3) := by decide +kernel
theorem dX7_number_81 : decode cX7_number 81 = .ok (.lreturn, 1) := by decide +kernel
theorem dX7_value_0 : decode cX7_value 0 = .ok (.aload_n 0, 1) := by decide +kernel
theorem dX7_value_1 : decode cX7_value 1 = .ok (.iload_n 1, 1) := by decide +kernel
theorem dX7_value_2 : decode cX7_value 2 = .ok (.invokevirtual 172, 3) := by decide +kernel
theorem dX7_value_5 : decode cX7_value 5 = .ok (.astore 4, 2) := by decide +kernel
theorem dX7_value_7 : decode cX7_value 7 = .ok (.aload 4, 2) := by decide +kernel
theorem dX7_value_9 : decode cX7_value 9 = .ok (.ifnull 14, 3) := by decide +kernel
theorem dX7_value_12 : decode cX7_value 12 = .ok (.iload_n 2, 1) := by decide +kernel
theorem dX7_value_13 : decode cX7_value 13 = .ok (.bipush (-100), 2) := by decide +kernel
theorem dX7_value_15 : decode cX7_value 15 = .ok (.bipush 100, 2) := by decide +kernel
theorem dX7_value_17 : decode cX7_value 17 = .ok (.invokestatic 101, 3) := by decide +kernel
theorem dX7_value_20 : decode cX7_value 20 = .ok (.ifCond .ne 7, 3) := by decide +kernel
theorem dX7_value_23 : decode cX7_value 23 = .ok (.ldc2_w 89, 3) := by decide +kernel
theorem dX7_value_26 : decode cX7_value 26 = .ok (.lreturn, 1) := by decide +kernel
theorem dX7_value_27 : decode cX7_value 27 = .ok (.aload 4, 2) := by decide +kernel
theorem dX7_value_29 : decode cX7_value 29 = .ok (.iload_n 2, 1) := by decide +kernel
theorem dX7_value_30 : decode cX7_value 30 = .ok (.invokevirtual 208, 3) := by decide +kernel
theorem dX7_value_33 : decode cX7_value 33 = .ok (.astore 5, 2) := by decide +kernel
theorem dX7_value_35 : decode cX7_value 35 = .ok (.aload 5, 2) := by decide +kernel
theorem dX7_value_37 : decode cX7_value 37 = .ok (.iload_n 2, 1) := by decide +kernel
theorem dX7_value_38 : decode cX7_value 38 = .ok (.i2l, 1) := by decide +kernel
theorem dX7_value_39 : decode cX7_value 39 = .ok (.invokevirtual 211, 3) := by decide +kernel
theorem dX7_value_42 : decode cX7_value 42 = .ok (.aload 5, 2) := by decide +kernel
theorem dX7_value_44 : decode cX7_value 44 = .ok (.getfield 200, 3) := by decide +kernel
theorem dX7_value_47 : decode cX7_value 47 = .ok (.iload_n 3, 1) := by decide +kernel
theorem dX7_value_48 : decode cX7_value 48 = .ok (.invokestatic 204, 3) := by decide +kernel
theorem dX7_value_51 : decode cX7_value 51 = .ok (.lreturn, 1) := by decide +kernel
theorem dX7_miss_0 : decode cX7_miss 0 = .ok (.aload_n 0, 1) := by decide +kernel
theorem dX7_miss_1 : decode cX7_miss 1 = .ok (.iload_n 1, 1) := by decide +kernel
theorem dX7_miss_2 : decode cX7_miss 2 = .ok (.invokevirtual 172, 3) := by decide +kernel
theorem dX7_miss_5 : decode cX7_miss 5 = .ok (.astore 4, 2) := by decide +kernel
theorem dX7_miss_7 : decode cX7_miss 7 = .ok (.aload 4, 2) := by decide +kernel
theorem dX7_miss_9 : decode cX7_miss 9 = .ok (.ifnull 15, 3) := by decide +kernel
theorem dX7_miss_12 : decode cX7_miss 12 = .ok (.aload 4, 2) := by decide +kernel
theorem dX7_miss_14 : decode cX7_miss 14 = .ok (.getfield 132, 3) := by decide +kernel
theorem dX7_miss_17 : decode cX7_miss 17 = .ok (.iload_n 2, 1) := by decide +kernel
theorem dX7_miss_18 : decode cX7_miss 18 = .ok (.invokevirtual 83, 3) := by decide +kernel
theorem dX7_miss_21 : decode cX7_miss 21 = .ok (.ifCond .ne 7, 3) := by decide +kernel
theorem dX7_miss_24 : decode cX7_miss 24 = .ok (.ldc2_w 89, 3) := by decide +kernel
theorem dX7_miss_27 : decode cX7_miss 27 = .ok (.lreturn, 1) := by decide +kernel
theorem dX7_miss_28 : decode cX7_miss 28 = .ok (.aload 4, 2) := by decide +kernel
theorem dX7_miss_30 : decode cX7_miss 30 = .ok (.iload_n 2, 1) := by decide +kernel
theorem dX7_miss_31 : decode cX7_miss 31 = .ok (.invokevirtual 215, 3) := by decide +kernel
theorem dX7_miss_34 : decode cX7_miss 34 = .ok (.aload 4, 2) := by decide +kernel
theorem dX7_miss_36 : decode cX7_miss 36 = .ok (.iload_n 2, 1) := by decide +kernel
theorem dX7_miss_37 : decode cX7_miss 37 = .ok (.invokevirtual 218, 3) := by decide +kernel
theorem dX7_miss_40 : decode cX7_miss 40 = .ok (.iload_n 3, 1) := by decide +kernel
theorem dX7_miss_41 : decode cX7_miss 41 = .ok (.invokestatic 204, 3) := by decide +kernel
theorem dX7_miss_44 : decode cX7_miss 44 = .ok (.lreturn, 1) := by decide +kernel
theorem dX7_level_0 : decode cX7_level 0 = .ok (.aload_n 0, 1) := by decide +kernel
theorem dX7_level_1 : decode cX7_level 1 = .ok (.iload_n 1, 1) := by decide +kernel
theorem dX7_level_2 : decode cX7_level 2 = .ok (.invokevirtual 172, 3) := by decide +kernel
theorem dX7_level_5 : decode cX7_level 5 = .ok (.astore_n 3, 1) := by decide +kernel
theorem dX7_level_6 : decode cX7_level 6 = .ok (.aload_n 3, 1) := by decide +kernel
theorem dX7_level_7 : decode cX7_level 7 = .ok (.ifnonnull 7, 3) := by decide +kernel
theorem dX7_level_10 : decode cX7_level 10 = .ok (.ldc2_w 89, 3) := by decide +kernel
theorem dX7_level_13 : decode cX7_level 13 = .ok (.lreturn, 1) := by decide +kernel
theorem dX7_level_14 : decode cX7_level 14 = .ok (.aload_n 3, 1) := by decide +kernel
theorem dX7_level_15 : decode cX7_level 15 = .ok (.invokevirtual 221, 3) := by decide +kernel
theorem dX7_level_18 : decode cX7_level 18 = .ok (.istore 4, 2) := by decide +kernel
theorem dX7_level_20 : decode cX7_level 20 = .ok (.aload_n 3, 1) := by decide +kernel
theorem dX7_level_21 : decode cX7_level 21 = .ok (.iload 4, 2) := by decide +kernel
theorem dX7_level_23 : decode cX7_level 23 = .ok (.invokevirtual 224, 3) := by decide +kernel
theorem dX7_level_26 : decode cX7_level 26 = .ok (.aload_n 3, 1) := by decide +kernel
theorem dX7_level_27 : decode cX7_level 27 = .ok (.iload 4, 2) := by decide +kernel
theorem dX7_level_29 : decode cX7_level 29 = .ok (.invokevirtual 218, 3) := by decide +kernel
theorem dX7_level_32 : decode cX7_level 32 = .ok (.iload_n 2, 1) := by decide +kernel
theorem dX7_level_33 : decode cX7_level 33 = .ok (.invokestatic 204, 3) := by decide +kernel
theorem dX7_level_36 : decode cX7_level 36 = .ok (.lreturn, 1) := by decide +kernel
theorem dX7_far_0 : decode cX7_far 0 = .ok (.aload_n 0, 1) := by decide +kernel
theorem dX7_far_1 : decode cX7_far 1 = .ok (.iload_n 1, 1) := by decide +kernel
theorem dX7_far_2 : decode cX7_far 2 = .ok (.invokevirtual 172, 3) := by decide +kernel
theorem dX7_far_5 : decode cX7_far 5 = .ok (.astore_n 3, 1) := by decide +kernel
theorem dX7_far_6 : decode cX7_far 6 = .ok (.aload_n 3, 1) := by decide +kernel
theorem dX7_far_7 : decode cX7_far 7 = .ok (.ifnonnull 7, 3) := by decide +kernel
theorem dX7_far_10 : decode cX7_far 10 = .ok (.iconst (-1), 1) := by decide +kernel
theorem dX7_far_11 : decode cX7_far 11 = .ok (.goto 8, 3) := by decide +kernel
theorem dX7_far_14 : decode cX7_far 14 = .ok (.aload_n 3, 1) := by decide +kernel
theorem dX7_far_15 : decode cX7_far 15 = .ok (.iload_n 2, 1) := by decide +kernel
theorem dX7_far_16 : decode cX7_far 16 = .ok (.invokevirtual 227, 3) := by decide +kernel
theorem dX7_far_19 : decode cX7_far 19 = .ok (.ireturn, 1) := by decide +kernel
theorem dX7_begins_0 : decode cX7_begins 0 = .ok (.aload_n 0, 1) := by decide +kernel
theorem dX7_begins_1 : decode cX7_begins 1 = .ok (.iload_n 1, 1) := by decide +kernel
theorem dX7_begins_2 : decode cX7_begins 2 = .ok (.invokevirtual 172, 3) := by decide +kernel
theorem dX7_begins_5 : decode cX7_begins 5 = .ok (.astore_n 3, 1) := by decide +kernel
theorem dX7_begins_6 : decode cX7_begins 6 = .ok (.aload_n 3, 1) := by decide +kernel
theorem dX7_begins_7 : decode cX7_begins 7 = .ok (.ifnull 19, 3) := by decide +kernel
theorem dX7_begins_10 : decode cX7_begins 10 = .ok (.aload_n 3, 1) := by decide +kernel
theorem dX7_begins_11 : decode cX7_begins 11 = .ok (.getfield 176, 3) := by decide +kernel
theorem dX7_begins_14 : decode cX7_begins 14 = .ok (.iconst 4, 1) := by decide +kernel
theorem dX7_begins_15 : decode cX7_begins 15 = .ok (.if_icmp .ne 11, 3) := by decide +kernel
theorem dX7_begins_18 : decode cX7_begins 18 = .ok (.aload_n 3, 1) := by decide +kernel
theorem dX7_begins_19 : decode cX7_begins 19 = .ok (.iload_n 2, 1) := by decide +kernel
theorem dX7_begins_20 : decode cX7_begins 20 = .ok (.invokevirtual 189, 3) := by decide +kernel
theorem dX7_begins_23 : decode cX7_begins 23 = .ok (.ifCond .ne 5, 3) := by decide +kernel
theorem dX7_begins_26 : decode cX7_begins 26 = .ok (.iconst (-1), 1) := by decide +kernel
theorem dX7_begins_27 : decode cX7_begins 27 = .ok (.ireturn, 1) := by decide +kernel
theorem dX7_begins_28 : decode cX7_begins 28 = .ok (.aload_n 3, 1) := by decide +kernel
theorem dX7_begins_29 : decode cX7_begins 29 = .ok (.getfield 230, 3) := by decide +kernel
theorem dX7_begins_32 : decode cX7_begins 32 = .ok (.iload_n 2, 1) := by decide +kernel
theorem dX7_begins_33 : decode cX7_begins 33 = .ok (.iaload, 1) := by decide +kernel
theorem dX7_begins_34 : decode cX7_begins 34 = .ok (.ireturn, 1) := by decide +kernel
theorem dX7_turns_0 : decode cX7_turns 0 = .ok (.aload_n 0, 1) := by decide +kernel
theorem dX7_turns_1 : decode cX7_turns 1 = .ok (.iload_n 1, 1) := by decide +kernel
theorem dX7_turns_2 : decode cX7_turns 2 = .ok (.invokevirtual 172, 3) := by decide +kernel
theorem dX7_turns_5 : decode cX7_turns 5 = .ok (.astore_n 2, 1) := by decide +kernel
theorem dX7_turns_6 : decode cX7_turns 6 = .ok (.aload_n 2, 1) := by decide +kernel
theorem dX7_turns_7 : decode cX7_turns 7 = .ok (.ifnull 10, 3) := by decide +kernel
theorem dX7_turns_10 : decode cX7_turns 10 = .ok (.aload_n 2, 1) := by decide +kernel
theorem dX7_turns_11 : decode cX7_turns 11 = .ok (.invokevirtual 233, 3) := by decide +kernel
theorem dX7_turns_14 : decode cX7_turns 14 = .ok (.ifCond .ne 7, 3) := by decide +kernel
theorem dX7_turns_17 : decode cX7_turns 17 = .ok (.iconst (-1), 1) := by decide +kernel
theorem dX7_turns_18 : decode cX7_turns 18 = .ok (.goto 7, 3) := by decide +kernel
theorem dX7_turns_21 : decode cX7_turns 21 = .ok (.aload_n 2, 1) := by decide +kernel
theorem dX7_turns_22 : decode cX7_turns 22 = .ok (.invokevirtual 236, 3) := by decide +kernel
theorem dX7_turns_25 : decode cX7_turns 25 = .ok (.ireturn, 1) := by decide +kernel
theorem dX7_low_0 : decode cX7_low 0 = .ok (.aload_n 0, 1) := by decide +kernel
theorem dX7_low_1 : decode cX7_low 1 = .ok (.iload_n 1, 1) := by decide +kernel
theorem dX7_low_2 : decode cX7_low 2 = .ok (.invokevirtual 172, 3) := by decide +kernel
theorem dX7_low_5 : decode cX7_low 5 = .ok (.astore 4, 2) := by decide +kernel
theorem dX7_low_7 : decode cX7_low 7 = .ok (.aload 4, 2) := by decide +kernel
theorem dX7_low_9 : decode cX7_low 9 = .ok (.ifnull 12, 3) := by decide +kernel
theorem dX7_low_12 : decode cX7_low 12 = .ok (.aload 4, 2) := by decide +kernel
theorem dX7_low_14 : decode cX7_low 14 = .ok (.iload_n 2, 1) := by decide +kernel
theorem dX7_low_15 : decode cX7_low 15 = .ok (.invokevirtual 239, 3) := by decide +kernel
theorem dX7_low_18 : decode cX7_low 18 = .ok (.ifCond .ne 7, 3) := by decide +kernel
theorem dX7_low_21 : decode cX7_low 21 = .ok (.ldc2_w 89, 3) := by decide +kernel
theorem dX7_low_24 : decode cX7_low 24 = .ok (.lreturn, 1) := by decide +kernel
theorem dX7_low_25 : decode cX7_low 25 = .ok (.aload_n 0, 1) := by decide +kernel
theorem dX7_low_26 : decode cX7_low 26 = .ok (.getfield 30, 3) := by decide +kernel
theorem dX7_low_29 : decode cX7_low 29 = .ok (.aload 4, 2) := by decide +kernel
theorem dX7_low_31 : decode cX7_low 31 = .ok (.iload_n 2, 1) := by decide +kernel
theorem dX7_low_32 : decode cX7_low 32 = .ok (.invokevirtual 242, 3) := by decide +kernel
theorem dX7_low_35 : decode cX7_low 35 = .ok (.aload_n 0, 1) := by decide +kernel
theorem dX7_low_36 : decode cX7_low 36 = .ok (.getfield 30, 3) := by decide +kernel
theorem dX7_low_39 : decode cX7_low 39 = .ok (.invokevirtual 246, 3) := by decide +kernel
theorem dX7_low_42 : decode cX7_low 42 = .ok (.aload_n 0, 1) := by decide +kernel
theorem dX7_low_43 : decode cX7_low 43 = .ok (.getfield 30, 3) := by decide +kernel
theorem dX7_low_46 : decode cX7_low 46 = .ok (.getfield 250, 3) := by decide +kernel
theorem dX7_low_49 : decode cX7_low 49 = .ok (.getfield 200, 3) := by decide +kernel
theorem dX7_low_52 : decode cX7_low 52 = .ok (.iload_n 3, 1) := by decide +kernel
theorem dX7_low_53 : decode cX7_low 53 = .ok (.invokestatic 204, 3) := by decide +kernel
theorem dX7_low_56 : decode cX7_low 56 = .ok (.lreturn, 1) := by decide +kernel
theorem dX7_swap_0 : decode cX7_swap 0 = .ok (.aload_n 0, 1) := by decide +kernel
theorem dX7_swap_1 : decode cX7_swap 1 = .ok (.iload_n 1, 1) := by decide +kernel
theorem dX7_swap_2 : decode cX7_swap 2 = .ok (.invokevirtual 172, 3) := by decide +kernel
theorem dX7_swap_5 : decode cX7_swap 5 = .ok (.astore_n 3, 1) := by decide +kernel
theorem dX7_swap_6 : decode cX7_swap 6 = .ok (.aload_n 3, 1) := by decide +kernel
theorem dX7_swap_7 : decode cX7_swap 7 = .ok (.ifnull 11, 3) := by decide +kernel
theorem dX7_swap_10 : decode cX7_swap 10 = .ok (.aload_n 3, 1) := by decide +kernel
theorem dX7_swap_11 : decode cX7_swap 11 = .ok (.iload_n 2, 1) := by decide +kernel
theorem dX7_swap_12 : decode cX7_swap 12 = .ok (.invokevirtual 239, 3) := by decide +kernel
theorem dX7_swap_15 : decode cX7_swap 15 = .ok (.ifCond .ne 5, 3) := by decide +kernel
theorem dX7_swap_18 : decode cX7_swap 18 = .ok (.iconst (-1), 1) := by decide +kernel
theorem dX7_swap_19 : decode cX7_swap 19 = .ok (.ireturn, 1) := by decide +kernel
theorem dX7_swap_20 : decode cX7_swap 20 = .ok (.aload_n 0, 1) := by decide +kernel
theorem dX7_swap_21 : decode cX7_swap 21 = .ok (.getfield 30, 3) := by decide +kernel
theorem dX7_swap_24 : decode cX7_swap 24 = .ok (.aload_n 3, 1) := by decide +kernel
theorem dX7_swap_25 : decode cX7_swap 25 = .ok (.iload_n 2, 1) := by decide +kernel
theorem dX7_swap_26 : decode cX7_swap 26 = .ok (.invokevirtual 242, 3) := by decide +kernel
theorem dX7_swap_29 : decode cX7_swap 29 = .ok (.aload_n 0, 1) := by decide +kernel
theorem dX7_swap_30 : decode cX7_swap 30 = .ok (.getfield 30, 3) := by decide +kernel
theorem dX7_swap_33 : decode cX7_swap 33 = .ok (.invokevirtual 254, 3) := by decide +kernel
theorem dX7_swap_36 : decode cX7_swap 36 = .ok (.pop, 1) := by decide +kernel
theorem dX7_swap_37 : decode cX7_swap 37 = .ok (.aload_n 0, 1) := by decide +kernel
theorem dX7_swap_38 : decode cX7_swap 38 = .ok (.getfield 30, 3) := by decide +kernel
theorem dX7_swap_41 : decode cX7_swap 41 = .ok (.invokevirtual 257, 3) := by decide +kernel
theorem dX7_swap_44 : decode cX7_swap 44 = .ok (.ireturn, 1) := by decide +kernel
theorem dX7_swaps_0 : decode cX7_swaps 0 = .ok (.aload_n 0, 1) := by decide +kernel
theorem dX7_swaps_1 : decode cX7_swaps 1 = .ok (.iload_n 1, 1) := by decide +kernel
theorem dX7_swaps_2 : decode cX7_swaps 2 = .ok (.invokevirtual 172, 3) := by decide +kernel
theorem dX7_swaps_5 : decode cX7_swaps 5 = .ok (.astore_n 3, 1) := by decide +kernel
theorem dX7_swaps_6 : decode cX7_swaps 6 = .ok (.aload_n 3, 1) := by decide +kernel
theorem dX7_swaps_7 : decode cX7_swaps 7 = .ok (.ifnull 11, 3) := by decide +kernel
theorem dX7_swaps_10 : decode cX7_swaps 10 = .ok (.aload_n 3, 1) := by decide +kernel
theorem dX7_swaps_11 : decode cX7_swaps 11 = .ok (.iload_n 2, 1) := by decide +kernel
theorem dX7_swaps_12 : decode cX7_swaps 12 = .ok (.invokevirtual 239, 3) := by decide +kernel
theorem dX7_swaps_15 : decode cX7_swaps 15 = .ok (.ifCond .ne 5, 3) := by decide +kernel
theorem dX7_swaps_18 : decode cX7_swaps 18 = .ok (.iconst (-1), 1) := by decide +kernel
theorem dX7_swaps_19 : decode cX7_swaps 19 = .ok (.ireturn, 1) := by decide +kernel
theorem dX7_swaps_20 : decode cX7_swaps 20 = .ok (.aload_n 0, 1) := by decide +kernel
theorem dX7_swaps_21 : decode cX7_swaps 21 = .ok (.getfield 30, 3) := by decide +kernel
theorem dX7_swaps_24 : decode cX7_swaps 24 = .ok (.aload_n 3, 1) := by decide +kernel
theorem dX7_swaps_25 : decode cX7_swaps 25 = .ok (.iload_n 2, 1) := by decide +kernel
theorem dX7_swaps_26 : decode cX7_swaps 26 = .ok (.invokevirtual 242, 3) := by decide +kernel
theorem dX7_swaps_29 : decode cX7_swaps 29 = .ok (.aload_n 0, 1) := by decide +kernel
theorem dX7_swaps_30 : decode cX7_swaps 30 = .ok (.getfield 30, 3) := by decide +kernel
theorem dX7_swaps_33 : decode cX7_swaps 33 = .ok (.invokevirtual 260, 3) := by decide +kernel
theorem dX7_swaps_36 : decode cX7_swaps 36 = .ok (.ireturn, 1) := by decide +kernel
theorem dX7_against_0 : decode cX7_against 0 = .ok (.aload_n 0, 1) := by decide +kernel
theorem dX7_against_1 : decode cX7_against 1 = .ok (.iload_n 1, 1) := by decide +kernel
theorem dX7_against_2 : decode cX7_against 2 = .ok (.invokevirtual 172, 3) := by decide +kernel
theorem dX7_against_5 : decode cX7_against 5 = .ok (.astore_n 3, 1) := by decide +kernel
theorem dX7_against_6 : decode cX7_against 6 = .ok (.aload_n 0, 1) := by decide +kernel
theorem dX7_against_7 : decode cX7_against 7 = .ok (.iload_n 2, 1) := by decide +kernel
theorem dX7_against_8 : decode cX7_against 8 = .ok (.invokevirtual 172, 3) := by decide +kernel
theorem dX7_against_11 : decode cX7_against 11 = .ok (.astore 4, 2) := by decide +kernel
theorem dX7_against_13 : decode cX7_against 13 = .ok (.aload_n 3, 1) := by decide +kernel
theorem dX7_against_14 : decode cX7_against 14 = .ok (.ifnull 8, 3) := by decide +kernel
theorem dX7_against_17 : decode cX7_against 17 = .ok (.aload 4, 2) := by decide +kernel
theorem dX7_against_19 : decode cX7_against 19 = .ok (.ifnonnull 6, 3) := by decide +kernel
theorem dX7_against_22 : decode cX7_against 22 = .ok (.bipush (-2), 2) := by decide +kernel
theorem dX7_against_24 : decode cX7_against 24 = .ok (.ireturn, 1) := by decide +kernel
theorem dX7_against_25 : decode cX7_against 25 = .ok (.aload_n 3, 1) := by decide +kernel
theorem dX7_against_26 : decode cX7_against 26 = .ok (.invokevirtual 221, 3) := by decide +kernel
theorem dX7_against_29 : decode cX7_against 29 = .ok (.istore 5, 2) := by decide +kernel
theorem dX7_against_31 : decode cX7_against 31 = .ok (.aload 4, 2) := by decide +kernel
theorem dX7_against_33 : decode cX7_against 33 = .ok (.invokevirtual 221, 3) := by decide +kernel
theorem dX7_against_36 : decode cX7_against 36 = .ok (.istore 6, 2) := by decide +kernel
theorem dX7_against_38 : decode cX7_against 38 = .ok (.aload_n 3, 1) := by decide +kernel
theorem dX7_against_39 : decode cX7_against 39 = .ok (.iload 5, 2) := by decide +kernel
theorem dX7_against_41 : decode cX7_against 41 = .ok (.invokevirtual 224, 3) := by decide +kernel
theorem dX7_against_44 : decode cX7_against 44 = .ok (.aload 4, 2) := by decide +kernel
theorem dX7_against_46 : decode cX7_against 46 = .ok (.iload 6, 2) := by decide +kernel
theorem dX7_against_48 : decode cX7_against 48 = .ok (.invokevirtual 218, 3) := by decide +kernel
theorem dX7_against_51 : decode cX7_against 51 = .ok (.lmul, 1) := by decide +kernel
theorem dX7_against_52 : decode cX7_against 52 = .ok (.aload 4, 2) := by decide +kernel
theorem dX7_against_54 : decode cX7_against 54 = .ok (.iload 6, 2) := by decide +kernel
theorem dX7_against_56 : decode cX7_against 56 = .ok (.invokevirtual 224, 3) := by decide +kernel
theorem dX7_against_59 : decode cX7_against 59 = .ok (.aload_n 3, 1) := by decide +kernel
theorem dX7_against_60 : decode cX7_against 60 = .ok (.iload 5, 2) := by decide +kernel
theorem dX7_against_62 : decode cX7_against 62 = .ok (.invokevirtual 218, 3) := by decide +kernel
theorem dX7_against_65 : decode cX7_against 65 = .ok (.lmul, 1) := by decide +kernel
theorem dX7_against_66 : decode cX7_against 66 = .ok (.invokestatic 263, 3) := by decide +kernel
theorem dX7_against_69 : decode cX7_against 69 = .ok (.ireturn, 1) := by decide +kernel
theorem dX7_same_0 : decode cX7_same 0 = .ok (.aload_n 0, 1) := by decide +kernel
theorem dX7_same_1 : decode cX7_same 1 = .ok (.iload_n 1, 1) := by decide +kernel
theorem dX7_same_2 : decode cX7_same 2 = .ok (.invokevirtual 172, 3) := by decide +kernel
theorem dX7_same_5 : decode cX7_same 5 = .ok (.astore_n 3, 1) := by decide +kernel
theorem dX7_same_6 : decode cX7_same 6 = .ok (.aload_n 0, 1) := by decide +kernel
theorem dX7_same_7 : decode cX7_same 7 = .ok (.iload_n 2, 1) := by decide +kernel
theorem dX7_same_8 : decode cX7_same 8 = .ok (.invokevirtual 172, 3) := by decide +kernel
theorem dX7_same_11 : decode cX7_same 11 = .ok (.astore 4, 2) := by decide +kernel
theorem dX7_same_13 : decode cX7_same 13 = .ok (.aload_n 3, 1) := by decide +kernel
theorem dX7_same_14 : decode cX7_same 14 = .ok (.ifnull 25, 3) := by decide +kernel
theorem dX7_same_17 : decode cX7_same 17 = .ok (.aload 4, 2) := by decide +kernel
theorem dX7_same_19 : decode cX7_same 19 = .ok (.ifnull 20, 3) := by decide +kernel
theorem dX7_same_22 : decode cX7_same 22 = .ok (.aload_n 3, 1) := by decide +kernel
theorem dX7_same_23 : decode cX7_same 23 = .ok (.getfield 176, 3) := by decide +kernel
theorem dX7_same_26 : decode cX7_same 26 = .ok (.iconst 4, 1) := by decide +kernel
theorem dX7_same_27 : decode cX7_same 27 = .ok (.if_icmp .eq 12, 3) := by decide +kernel
theorem dX7_same_30 : decode cX7_same 30 = .ok (.aload 4, 2) := by decide +kernel
theorem dX7_same_32 : decode cX7_same 32 = .ok (.getfield 176, 3) := by decide +kernel
theorem dX7_same_35 : decode cX7_same 35 = .ok (.iconst 4, 1) := by decide +kernel
theorem dX7_same_36 : decode cX7_same 36 = .ok (.if_icmp .ne 5, 3) := by decide +kernel
theorem dX7_same_39 : decode cX7_same 39 = .ok (.iconst (-1), 1) := by decide +kernel
theorem dX7_same_40 : decode cX7_same 40 = .ok (.ireturn, 1) := by decide +kernel
theorem dX7_same_41 : decode cX7_same 41 = .ok (.aload_n 3, 1) := by decide +kernel
theorem dX7_same_42 : decode cX7_same 42 = .ok (.invokevirtual 111, 3) := by decide +kernel
theorem dX7_same_45 : decode cX7_same 45 = .ok (.aload 4, 2) := by decide +kernel
theorem dX7_same_47 : decode cX7_same 47 = .ok (.invokevirtual 111, 3) := by decide +kernel
theorem dX7_same_50 : decode cX7_same 50 = .ok (.invokevirtual 269, 3) := by decide +kernel
theorem dX7_same_53 : decode cX7_same 53 = .ok (.ifCond .eq 7, 3) := by decide +kernel
theorem dX7_same_56 : decode cX7_same 56 = .ok (.iconst 1, 1) := by decide +kernel
theorem dX7_same_57 : decode cX7_same 57 = .ok (.goto 4, 3) := by decide +kernel
theorem dX7_same_60 : decode cX7_same 60 = .ok (.iconst 0, 1) := by decide +kernel
theorem dX7_same_61 : decode cX7_same 61 = .ok (.ireturn, 1) := by decide +kernel
theorem dX7_act_0 : decode cX7_act 0 = .ok (.aload_n 0, 1) := by decide +kernel
theorem dX7_act_1 : decode cX7_act 1 = .ok (.iload_n 1, 1) := by decide +kernel
theorem dX7_act_2 : decode cX7_act 2 = .ok (.invokevirtual 172, 3) := by decide +kernel
theorem dX7_act_5 : decode cX7_act 5 = .ok (.astore 4, 2) := by decide +kernel
theorem dX7_act_7 : decode cX7_act 7 = .ok (.aload 4, 2) := by decide +kernel
theorem dX7_act_9 : decode cX7_act 9 = .ok (.ifnull 12, 3) := by decide +kernel
theorem dX7_act_12 : decode cX7_act 12 = .ok (.iload_n 2, 1) := by decide +kernel
theorem dX7_act_13 : decode cX7_act 13 = .ok (.iconst 0, 1) := by decide +kernel
theorem dX7_act_14 : decode cX7_act 14 = .ok (.iconst 3, 1) := by decide +kernel
theorem dX7_act_15 : decode cX7_act 15 = .ok (.invokestatic 101, 3) := by decide +kernel
theorem dX7_act_18 : decode cX7_act 18 = .ok (.ifCond .ne 9, 3) := by decide +kernel
theorem dX7_act_21 : decode cX7_act 21 = .ok (.aload_n 0, 1) := by decide +kernel
theorem dX7_act_22 : decode cX7_act 22 = .ok (.iconst 1, 1) := by decide +kernel
theorem dX7_act_23 : decode cX7_act 23 = .ok (.invokevirtual 64, 3) := by decide +kernel
theorem dX7_act_26 : decode cX7_act 26 = .ok (.ireturn, 1) := by decide +kernel
theorem dX7_act_27 : decode cX7_act 27 = .ok (.aload_n 0, 1) := by decide +kernel
theorem dX7_act_28 : decode cX7_act 28 = .ok (.aload_n 0, 1) := by decide +kernel
theorem dX7_act_29 : decode cX7_act 29 = .ok (.getfield 44, 3) := by decide +kernel
theorem dX7_act_32 : decode cX7_act 32 = .ok (.aload 4, 2) := by decide +kernel
theorem dX7_act_34 : decode cX7_act 34 = .ok (.iload_n 2, 1) := by decide +kernel
theorem dX7_act_35 : decode cX7_act 35 = .ok (.iload_n 3, 1) := by decide +kernel
theorem dX7_act_36 : decode cX7_act 36 = .ok (.invokevirtual 273, 3) := by decide +kernel
theorem dX7_act_39 : decode cX7_act 39 = .ok (.invokevirtual 80, 3) := by decide +kernel
theorem dX7_act_42 : decode cX7_act 42 = .ok (.ireturn, 1) := by decide +kernel
theorem dX7_trace_0 : decode cX7_trace 0 = .ok (.iload_n 1, 1) := by decide +kernel
theorem dX7_trace_1 : decode cX7_trace 1 = .ok (.ifCond .lt 32, 3) := by decide +kernel
theorem dX7_trace_4 : decode cX7_trace 4 = .ok (.iload_n 1, 1) := by decide +kernel
theorem dX7_trace_5 : decode cX7_trace 5 = .ok (.aload_n 0, 1) := by decide +kernel
theorem dX7_trace_6 : decode cX7_trace 6 = .ok (.getfield 44, 3) := by decide +kernel
theorem dX7_trace_9 : decode cX7_trace 9 = .ok (.getfield 169, 3) := by decide +kernel
theorem dX7_trace_12 : decode cX7_trace 12 = .ok (.if_icmp .ge 21, 3) := by decide +kernel
theorem dX7_trace_15 : decode cX7_trace 15 = .ok (.iload_n 1, 1) := by decide +kernel
theorem dX7_trace_16 : decode cX7_trace 16 = .ok (.bipush 50, 2) := by decide +kernel
theorem dX7_trace_18 : decode cX7_trace 18 = .ok (.if_icmp .ge 15, 3) := by decide +kernel
theorem dX7_trace_21 : decode cX7_trace 21 = .ok (.aload_n 0, 1) := by decide +kernel
theorem dX7_trace_22 : decode cX7_trace 22 = .ok (.getfield 44, 3) := by decide +kernel
theorem dX7_trace_25 : decode cX7_trace 25 = .ok (.getfield 277, 3) := by decide +kernel
theorem dX7_trace_28 : decode cX7_trace 28 = .ok (.iload_n 1, 1) := by decide +kernel
theorem dX7_trace_29 : decode cX7_trace 29 = .ok (.iaload, 1) := by decide +kernel
theorem dX7_trace_30 : decode cX7_trace 30 = .ok (.goto 4, 3) := by decide +kernel
theorem dX7_trace_33 : decode cX7_trace 33 = .ok (.iconst (-1), 1) := by decide +kernel
theorem dX7_trace_34 : decode cX7_trace 34 = .ok (.ireturn, 1) := by decide +kernel
theorem dX7_sheet_0 : decode cX7_sheet 0 = .ok (.iload_n 2, 1) := by decide +kernel
theorem dX7_sheet_1 : decode cX7_sheet 1 = .ok (.iconst (-1), 1) := by decide +kernel
theorem dX7_sheet_2 : decode cX7_sheet 2 = .ok (.if_icmp .eq 7, 3) := by decide +kernel
theorem dX7_sheet_5 : decode cX7_sheet 5 = .ok (.iconst 1, 1) := by decide +kernel
theorem dX7_sheet_6 : decode cX7_sheet 6 = .ok (.goto 4, 3) := by decide +kernel
theorem dX7_sheet_9 : decode cX7_sheet 9 = .ok (.iconst 0, 1) := by decide +kernel
theorem dX7_sheet_10 : decode cX7_sheet 10 = .ok (.istore 4, 2) := by decide +kernel
theorem dX7_sheet_12 : decode cX7_sheet 12 = .ok (.iload_n 1, 1) := by decide +kernel
theorem dX7_sheet_13 : decode cX7_sheet 13 = .ok (.invokestatic 280, 3) := by decide +kernel
theorem dX7_sheet_16 : decode cX7_sheet 16 = .ok (.ifCond .eq 27, 3) := by decide +kernel
theorem dX7_sheet_19 : decode cX7_sheet 19 = .ok (.iload_n 2, 1) := by decide +kernel
theorem dX7_sheet_20 : decode cX7_sheet 20 = .ok (.iconst (-1), 1) := by decide +kernel
theorem dX7_sheet_21 : decode cX7_sheet 21 = .ok (.iconst 2, 1) := by decide +kernel
theorem dX7_sheet_22 : decode cX7_sheet 22 = .ok (.invokestatic 101, 3) := by decide +kernel
theorem dX7_sheet_25 : decode cX7_sheet 25 = .ok (.ifCond .eq 18, 3) := by decide +kernel
theorem dX7_sheet_28 : decode cX7_sheet 28 = .ok (.iload 4, 2) := by decide +kernel
theorem dX7_sheet_30 : decode cX7_sheet 30 = .ok (.ifCond .eq 19, 3) := by decide +kernel
theorem dX7_sheet_33 : decode cX7_sheet 33 = .ok (.iload_n 3, 1) := by decide +kernel
theorem dX7_sheet_34 : decode cX7_sheet 34 = .ok (.iconst 0, 1) := by decide +kernel
theorem dX7_sheet_35 : decode cX7_sheet 35 = .ok (.bipush 40, 2) := by decide +kernel
theorem dX7_sheet_37 : decode cX7_sheet 37 = .ok (.invokestatic 101, 3) := by decide +kernel
theorem dX7_sheet_40 : decode cX7_sheet 40 = .ok (.ifCond .ne 9, 3) := by decide +kernel
theorem dX7_sheet_43 : decode cX7_sheet 43 = .ok (.aload_n 0, 1) := by decide +kernel
theorem dX7_sheet_44 : decode cX7_sheet 44 = .ok (.iconst 1, 1) := by decide +kernel
theorem dX7_sheet_45 : decode cX7_sheet 45 = .ok (.invokevirtual 64, 3) := by decide +kernel
theorem dX7_sheet_48 : decode cX7_sheet 48 = .ok (.ireturn, 1) := by decide +kernel
theorem dX7_sheet_49 : decode cX7_sheet 49 = .ok (.aload_n 0, 1) := by decide +kernel
theorem dX7_sheet_50 : decode cX7_sheet 50 = .ok (.getfield 23, 3) := by decide +kernel
theorem dX7_sheet_53 : decode cX7_sheet 53 = .ok (.iload_n 1, 1) := by decide +kernel
theorem dX7_sheet_54 : decode cX7_sheet 54 = .ok (.iload 4, 2) := by decide +kernel
theorem dX7_sheet_56 : decode cX7_sheet 56 = .ok (.ifCond .eq 15, 3) := by decide +kernel
theorem dX7_sheet_59 : decode cX7_sheet 59 = .ok (.new 21, 3) := by decide +kernel
theorem dX7_sheet_62 : decode cX7_sheet 62 = .ok (.dup, 1) := by decide +kernel
theorem dX7_sheet_63 : decode cX7_sheet 63 = .ok (.iload_n 2, 1) := by decide +kernel
theorem dX7_sheet_64 : decode cX7_sheet 64 = .ok (.iload_n 3, 1) := by decide +kernel
theorem dX7_sheet_65 : decode cX7_sheet 65 = .ok (.invokespecial 283, 3) := by decide +kernel
theorem dX7_sheet_68 : decode cX7_sheet 68 = .ok (.goto 4, 3) := by decide +kernel
theorem dX7_sheet_71 : decode cX7_sheet 71 = .ok (.aconst_null, 1) := by decide +kernel
theorem dX7_sheet_72 : decode cX7_sheet 72 = .ok (.aastore, 1) := by decide +kernel
theorem dX7_sheet_73 : decode cX7_sheet 73 = .ok (.aload_n 0, 1) := by decide +kernel
theorem dX7_sheet_74 : decode cX7_sheet 74 = .ok (.iconst 1, 1) := by decide +kernel
theorem dX7_sheet_75 : decode cX7_sheet 75 = .ok (.invokevirtual 80, 3) := by decide +kernel
theorem dX7_sheet_78 : decode cX7_sheet 78 = .ok (.ireturn, 1) := by decide +kernel
theorem dX7_cell_0 : decode cX7_cell 0 = .ok (.iload_n 1, 1) := by decide +kernel
theorem dX7_cell_1 : decode cX7_cell 1 = .ok (.invokestatic 280, 3) := by decide +kernel
theorem dX7_cell_4 : decode cX7_cell 4 = .ok (.ifCond .eq 14, 3) := by decide +kernel
theorem dX7_cell_7 : decode cX7_cell 7 = .ok (.iload_n 3, 1) := by decide +kernel
theorem dX7_cell_8 : decode cX7_cell 8 = .ok (.bipush (-100), 2) := by decide +kernel
theorem dX7_cell_10 : decode cX7_cell 10 = .ok (.bipush 100, 2) := by decide +kernel
theorem dX7_cell_12 : decode cX7_cell 12 = .ok (.invokestatic 101, 3) := by decide +kernel
theorem dX7_cell_15 : decode cX7_cell 15 = .ok (.ifCond .ne 9, 3) := by decide +kernel
theorem dX7_cell_18 : decode cX7_cell 18 = .ok (.aload_n 0, 1) := by decide +kernel
theorem dX7_cell_19 : decode cX7_cell 19 = .ok (.iconst 1, 1) := by decide +kernel
theorem dX7_cell_20 : decode cX7_cell 20 = .ok (.invokevirtual 64, 3) := by decide +kernel
theorem dX7_cell_23 : decode cX7_cell 23 = .ok (.ireturn, 1) := by decide +kernel
theorem dX7_cell_24 : decode cX7_cell 24 = .ok (.aload_n 0, 1) := by decide +kernel
theorem dX7_cell_25 : decode cX7_cell 25 = .ok (.getfield 23, 3) := by decide +kernel
theorem dX7_cell_28 : decode cX7_cell 28 = .ok (.iload_n 1, 1) := by decide +kernel
theorem dX7_cell_29 : decode cX7_cell 29 = .ok (.aaload, 1) := by decide +kernel
theorem dX7_cell_30 : decode cX7_cell 30 = .ok (.astore 4, 2) := by decide +kernel
theorem dX7_cell_32 : decode cX7_cell 32 = .ok (.aload 4, 2) := by decide +kernel
theorem dX7_cell_34 : decode cX7_cell 34 = .ok (.ifnonnull 10, 3) := by decide +kernel
theorem dX7_cell_37 : decode cX7_cell 37 = .ok (.aload_n 0, 1) := by decide +kernel
theorem dX7_cell_38 : decode cX7_cell 38 = .ok (.bipush 10, 2) := by decide +kernel
theorem dX7_cell_40 : decode cX7_cell 40 = .ok (.invokevirtual 64, 3) := by decide +kernel
theorem dX7_cell_43 : decode cX7_cell 43 = .ok (.ireturn, 1) := by decide +kernel
theorem dX7_cell_44 : decode cX7_cell 44 = .ok (.aload 4, 2) := by decide +kernel
theorem dX7_cell_46 : decode cX7_cell 46 = .ok (.iload_n 2, 1) := by decide +kernel
theorem dX7_cell_47 : decode cX7_cell 47 = .ok (.invokevirtual 286, 3) := by decide +kernel
theorem dX7_cell_50 : decode cX7_cell 50 = .ok (.ifCond .ne 10, 3) := by decide +kernel
theorem dX7_cell_53 : decode cX7_cell 53 = .ok (.aload_n 0, 1) := by decide +kernel
theorem dX7_cell_54 : decode cX7_cell 54 = .ok (.bipush 12, 2) := by decide +kernel
theorem dX7_cell_56 : decode cX7_cell 56 = .ok (.invokevirtual 64, 3) := by decide +kernel
theorem dX7_cell_59 : decode cX7_cell 59 = .ok (.ireturn, 1) := by decide +kernel
theorem dX7_cell_60 : decode cX7_cell 60 = .ok (.aload 4, 2) := by decide +kernel
theorem dX7_cell_62 : decode cX7_cell 62 = .ok (.getfield 287, 3) := by decide +kernel
theorem dX7_cell_65 : decode cX7_cell 65 = .ok (.iload_n 2, 1) := by decide +kernel
theorem dX7_cell_66 : decode cX7_cell 66 = .ok (.iload_n 3, 1) := by decide +kernel
theorem dX7_cell_67 : decode cX7_cell 67 = .ok (.iastore, 1) := by decide +kernel
theorem dX7_cell_68 : decode cX7_cell 68 = .ok (.aload_n 0, 1) := by decide +kernel
theorem dX7_cell_69 : decode cX7_cell 69 = .ok (.iconst 1, 1) := by decide +kernel
theorem dX7_cell_70 : decode cX7_cell 70 = .ok (.invokevirtual 80, 3) := by decide +kernel
theorem dX7_cell_73 : decode cX7_cell 73 = .ok (.ireturn, 1) := by decide +kernel
theorem dX7_points_0 : decode cX7_points 0 = .ok (.aload_n 0, 1) := by decide +kernel
theorem dX7_points_1 : decode cX7_points 1 = .ok (.iload_n 1, 1) := by decide +kernel
theorem dX7_points_2 : decode cX7_points 2 = .ok (.invokevirtual 56, 3) := by decide +kernel
theorem dX7_points_5 : decode cX7_points 5 = .ok (.astore 5, 2) := by decide +kernel
theorem dX7_points_7 : decode cX7_points 7 = .ok (.aload 5, 2) := by decide +kernel
theorem dX7_points_9 : decode cX7_points 9 = .ok (.ifnull 19, 3) := by decide +kernel
theorem dX7_points_12 : decode cX7_points 12 = .ok (.iload_n 2, 1) := by decide +kernel
theorem dX7_points_13 : decode cX7_points 13 = .ok (.invokestatic 280, 3) := by decide +kernel
theorem dX7_points_16 : decode cX7_points 16 = .ok (.ifCond .eq 12, 3) := by decide +kernel
theorem dX7_points_19 : decode cX7_points 19 = .ok (.iload_n 3, 1) := by decide +kernel
theorem dX7_points_20 : decode cX7_points 20 = .ok (.iconst 0, 1) := by decide +kernel
theorem dX7_points_21 : decode cX7_points 21 = .ok (.iconst 2, 1) := by decide +kernel
theorem dX7_points_22 : decode cX7_points 22 = .ok (.invokestatic 101, 3) := by decide +kernel
theorem dX7_points_25 : decode cX7_points 25 = .ok (.ifCond .ne 9, 3) := by decide +kernel
theorem dX7_points_28 : decode cX7_points 28 = .ok (.aload_n 0, 1) := by decide +kernel
theorem dX7_points_29 : decode cX7_points 29 = .ok (.iconst 1, 1) := by decide +kernel
theorem dX7_points_30 : decode cX7_points 30 = .ok (.invokevirtual 64, 3) := by decide +kernel
theorem dX7_points_33 : decode cX7_points 33 = .ok (.ireturn, 1) := by decide +kernel
theorem dX7_points_34 : decode cX7_points 34 = .ok (.aload 5, 2) := by decide +kernel
theorem dX7_points_36 : decode cX7_points 36 = .ok (.invokevirtual 68, 3) := by decide +kernel
theorem dX7_points_39 : decode cX7_points 39 = .ok (.ifCond .eq 9, 3) := by decide +kernel
theorem dX7_points_42 : decode cX7_points 42 = .ok (.aload_n 0, 1) := by decide +kernel
theorem dX7_points_43 : decode cX7_points 43 = .ok (.iconst 2, 1) := by decide +kernel
theorem dX7_points_44 : decode cX7_points 44 = .ok (.invokevirtual 64, 3) := by decide +kernel
theorem dX7_points_47 : decode cX7_points 47 = .ok (.ireturn, 1) := by decide +kernel
theorem dX7_points_48 : decode cX7_points 48 = .ok (.aload_n 0, 1) := by decide +kernel
theorem dX7_points_49 : decode cX7_points 49 = .ok (.getfield 23, 3) := by decide +kernel
theorem dX7_points_52 : decode cX7_points 52 = .ok (.iload_n 2, 1) := by decide +kernel
theorem dX7_points_53 : decode cX7_points 53 = .ok (.aaload, 1) := by decide +kernel
theorem dX7_points_54 : decode cX7_points 54 = .ok (.astore 6, 2) := by decide +kernel
theorem dX7_points_56 : decode cX7_points 56 = .ok (.aload 6, 2) := by decide +kernel
theorem dX7_points_58 : decode cX7_points 58 = .ok (.iload_n 3, 1) := by decide +kernel
theorem dX7_points_59 : decode cX7_points 59 = .ok (.invokestatic 290, 3) := by decide +kernel
theorem dX7_points_62 : decode cX7_points 62 = .ok (.istore 7, 2) := by decide +kernel
theorem dX7_points_64 : decode cX7_points 64 = .ok (.aload 6, 2) := by decide +kernel
theorem dX7_points_66 : decode cX7_points 66 = .ok (.ifnull 8, 3) := by decide +kernel
theorem dX7_points_69 : decode cX7_points 69 = .ok (.iload 7, 2) := by decide +kernel
theorem dX7_points_71 : decode cX7_points 71 = .ok (.ifCond .eq 10, 3) := by decide +kernel
theorem dX7_points_74 : decode cX7_points 74 = .ok (.aload_n 0, 1) := by decide +kernel
theorem dX7_points_75 : decode cX7_points 75 = .ok (.iload 7, 2) := by decide +kernel
theorem dX7_points_77 : decode cX7_points 77 = .ok (.invokevirtual 64, 3) := by decide +kernel
theorem dX7_points_80 : decode cX7_points 80 = .ok (.ireturn, 1) := by decide +kernel
theorem dX7_points_81 : decode cX7_points 81 = .ok (.aload 6, 2) := by decide +kernel
theorem dX7_points_83 : decode cX7_points 83 = .ok (.iload 4, 2) := by decide +kernel
theorem dX7_points_85 : decode cX7_points 85 = .ok (.invokevirtual 286, 3) := by decide +kernel
theorem dX7_points_88 : decode cX7_points 88 = .ok (.ifCond .eq 15, 3) := by decide +kernel
theorem dX7_points_91 : decode cX7_points 91 = .ok (.aload 6, 2) := by decide +kernel
theorem dX7_points_93 : decode cX7_points 93 = .ok (.iload 4, 2) := by decide +kernel
theorem dX7_points_95 : decode cX7_points 95 = .ok (.iconst 2, 1) := by decide +kernel
theorem dX7_points_96 : decode cX7_points 96 = .ok (.iadd, 1) := by decide +kernel
theorem dX7_points_97 : decode cX7_points 97 = .ok (.invokevirtual 286, 3) := by decide +kernel
theorem dX7_points_100 : decode cX7_points 100 = .ok (.ifCond .ne 10, 3) := by decide +kernel
theorem dX7_points_103 : decode cX7_points 103 = .ok (.aload_n 0, 1) := by decide +kernel
theorem dX7_points_104 : decode cX7_points 104 = .ok (.bipush 12, 2) := by decide +kernel
theorem dX7_points_106 : decode cX7_points 106 = .ok (.invokevirtual 64, 3) := by decide +kernel
theorem dX7_points_109 : decode cX7_points 109 = .ok (.ireturn, 1) := by decide +kernel
theorem dX7_points_110 : decode cX7_points 110 = .ok (.aload 6, 2) := by decide +kernel
theorem dX7_points_112 : decode cX7_points 112 = .ok (.getfield 287, 3) := by decide +kernel
theorem dX7_points_115 : decode cX7_points 115 = .ok (.iload 4, 2) := by decide +kernel
theorem dX7_points_117 : decode cX7_points 117 = .ok (.iaload, 1) := by decide +kernel
theorem dX7_points_118 : decode cX7_points 118 = .ok (.istore 8, 2) := by decide +kernel
theorem dX7_points_120 : decode cX7_points 120 = .ok (.aload 6, 2) := by decide +kernel
theorem dX7_points_122 : decode cX7_points 122 = .ok (.getfield 287, 3) := by decide +kernel
theorem dX7_points_125 : decode cX7_points 125 = .ok (.iload 4, 2) := by decide +kernel
theorem dX7_points_127 : decode cX7_points 127 = .ok (.iconst 1, 1) := by decide +kernel
theorem dX7_points_128 : decode cX7_points 128 = .ok (.iadd, 1) := by decide +kernel
theorem dX7_points_129 : decode cX7_points 129 = .ok (.iaload, 1) := by decide +kernel
theorem dX7_points_130 : decode cX7_points 130 = .ok (.istore 9, 2) := by decide +kernel
theorem dX7_points_132 : decode cX7_points 132 = .ok (.aload 6, 2) := by decide +kernel
theorem dX7_points_134 : decode cX7_points 134 = .ok (.getfield 287, 3) := by decide +kernel
theorem dX7_points_137 : decode cX7_points 137 = .ok (.iload 4, 2) := by decide +kernel
theorem dX7_points_139 : decode cX7_points 139 = .ok (.iconst 2, 1) := by decide +kernel
theorem dX7_points_140 : decode cX7_points 140 = .ok (.iadd, 1) := by decide +kernel
theorem dX7_points_141 : decode cX7_points 141 = .ok (.iaload, 1) := by decide +kernel
theorem dX7_points_142 : decode cX7_points 142 = .ok (.istore 10, 2) := by decide +kernel
theorem dX7_points_144 : decode cX7_points 144 = .ok (.iload 8, 2) := by decide +kernel
theorem dX7_points_146 : decode cX7_points 146 = .ok (.iload 9, 2) := by decide +kernel
theorem dX7_points_148 : decode cX7_points 148 = .ok (.iload 10, 2) := by decide +kernel
theorem dX7_points_150 : decode cX7_points 150 = .ok (.invokestatic 60, 3) := by decide +kernel
theorem dX7_points_153 : decode cX7_points 153 = .ok (.ifCond .eq 13, 3) := by decide +kernel
theorem dX7_points_156 : decode cX7_points 156 = .ok (.aload 5, 2) := by decide +kernel
theorem dX7_points_158 : decode cX7_points 158 = .ok (.iload 8, 2) := by decide +kernel
theorem dX7_points_160 : decode cX7_points 160 = .ok (.invokevirtual 72, 3) := by decide +kernel
theorem dX7_points_163 : decode cX7_points 163 = .ok (.ifCond .eq 9, 3) := by decide +kernel
theorem dX7_points_166 : decode cX7_points 166 = .ok (.aload_n 0, 1) := by decide +kernel
theorem dX7_points_167 : decode cX7_points 167 = .ok (.iconst 3, 1) := by decide +kernel
theorem dX7_points_168 : decode cX7_points 168 = .ok (.invokevirtual 64, 3) := by decide +kernel
theorem dX7_points_171 : decode cX7_points 171 = .ok (.ireturn, 1) := by decide +kernel
theorem dX7_points_172 : decode cX7_points 172 = .ok (.aload_n 0, 1) := by decide +kernel
theorem dX7_points_173 : decode cX7_points 173 = .ok (.aload 5, 2) := by decide +kernel
theorem dX7_points_175 : decode cX7_points 175 = .ok (.iload 8, 2) := by decide +kernel
theorem dX7_points_177 : decode cX7_points 177 = .ok (.iload 9, 2) := by decide +kernel
theorem dX7_points_179 : decode cX7_points 179 = .ok (.iload 10, 2) := by decide +kernel
theorem dX7_points_181 : decode cX7_points 181 = .ok (.invokevirtual 76, 3) := by decide +kernel
theorem dX7_points_184 : decode cX7_points 184 = .ok (.invokevirtual 80, 3) := by decide +kernel
theorem dX7_points_187 : decode cX7_points 187 = .ok (.ireturn, 1) := by decide +kernel
theorem dX7_isSheet_0 : decode cX7_isSheet 0 = .ok (.iload_n 0, 1) := by decide +kernel
theorem dX7_isSheet_1 : decode cX7_isSheet 1 = .ok (.ifCond .lt 12, 3) := by decide +kernel
theorem dX7_isSheet_4 : decode cX7_isSheet 4 = .ok (.iload_n 0, 1) := by decide +kernel
theorem dX7_isSheet_5 : decode cX7_isSheet 5 = .ok (.iconst 4, 1) := by decide +kernel
theorem dX7_isSheet_6 : decode cX7_isSheet 6 = .ok (.if_icmp .ge 7, 3) := by decide +kernel
theorem dX7_isSheet_9 : decode cX7_isSheet 9 = .ok (.iconst 1, 1) := by decide +kernel
theorem dX7_isSheet_10 : decode cX7_isSheet 10 = .ok (.goto 4, 3) := by decide +kernel
theorem dX7_isSheet_13 : decode cX7_isSheet 13 = .ok (.iconst 0, 1) := by decide +kernel
theorem dX7_isSheet_14 : decode cX7_isSheet 14 = .ok (.ireturn, 1) := by decide +kernel
theorem dX7_statusOf_0 : decode cX7_statusOf 0 = .ok (.aload_n 0, 1) := by decide +kernel
theorem dX7_statusOf_1 : decode cX7_statusOf 1 = .ok (.ifnonnull 6, 3) := by decide +kernel
theorem dX7_statusOf_4 : decode cX7_statusOf 4 = .ok (.bipush 10, 2) := by decide +kernel
theorem dX7_statusOf_6 : decode cX7_statusOf 6 = .ok (.ireturn, 1) := by decide +kernel
theorem dX7_statusOf_7 : decode cX7_statusOf 7 = .ok (.aload_n 0, 1) := by decide +kernel
theorem dX7_statusOf_8 : decode cX7_statusOf 8 = .ok (.getfield 294, 3) := by decide +kernel
theorem dX7_statusOf_11 : decode cX7_statusOf 11 = .ok (.iload_n 1, 1) := by decide +kernel
theorem dX7_statusOf_12 : decode cX7_statusOf 12 = .ok (.if_icmp .ne 7, 3) := by decide +kernel
theorem dX7_statusOf_15 : decode cX7_statusOf 15 = .ok (.iconst 0, 1) := by decide +kernel
theorem dX7_statusOf_16 : decode cX7_statusOf 16 = .ok (.goto 5, 3) := by decide +kernel
theorem dX7_statusOf_19 : decode cX7_statusOf 19 = .ok (.bipush 11, 2) := by decide +kernel
theorem dX7_statusOf_21 : decode cX7_statusOf 21 = .ok (.ireturn, 1) := by decide +kernel
theorem dX7_forge_0 : decode cX7_forge 0 = .ok (.iload_n 2, 1) := by decide +kernel
theorem dX7_forge_1 : decode cX7_forge 1 = .ok (.bipush (-100), 2) := by decide +kernel
theorem dX7_forge_3 : decode cX7_forge 3 = .ok (.bipush 100, 2) := by decide +kernel
theorem dX7_forge_5 : decode cX7_forge 5 = .ok (.invokestatic 101, 3) := by decide +kernel
theorem dX7_forge_8 : decode cX7_forge 8 = .ok (.ifCond .eq 14, 3) := by decide +kernel
theorem dX7_forge_11 : decode cX7_forge 11 = .ok (.iload_n 3, 1) := by decide +kernel
theorem dX7_forge_12 : decode cX7_forge 12 = .ok (.bipush (-100), 2) := by decide +kernel
theorem dX7_forge_14 : decode cX7_forge 14 = .ok (.bipush 100, 2) := by decide +kernel
theorem dX7_forge_16 : decode cX7_forge 16 = .ok (.invokestatic 101, 3) := by decide +kernel
theorem dX7_forge_19 : decode cX7_forge 19 = .ok (.ifCond .ne 9, 3) := by decide +kernel
theorem dX7_forge_22 : decode cX7_forge 22 = .ok (.aload_n 0, 1) := by decide +kernel
theorem dX7_forge_23 : decode cX7_forge 23 = .ok (.iconst 1, 1) := by decide +kernel
theorem dX7_forge_24 : decode cX7_forge 24 = .ok (.invokevirtual 64, 3) := by decide +kernel
theorem dX7_forge_27 : decode cX7_forge 27 = .ok (.ireturn, 1) := by decide +kernel
theorem dX7_forge_28 : decode cX7_forge 28 = .ok (.iload_n 1, 1) := by decide +kernel
theorem dX7_forge_29 : decode cX7_forge 29 = .ok (.tableswitch 177 0 6 #[43, 64, 83, 99, 115, 131, 154], 43) := by decide +kernel
theorem dX7_forge_72 : decode cX7_forge 72 = .ok (.aload_n 0, 1) := by decide +kernel
theorem dX7_forge_73 : decode cX7_forge 73 = .ok (.aload_n 0, 1) := by decide +kernel
theorem dX7_forge_74 : decode cX7_forge 74 = .ok (.getfield 17, 3) := by decide +kernel
theorem dX7_forge_77 : decode cX7_forge 77 = .ok (.iload_n 3, 1) := by decide +kernel
theorem dX7_forge_78 : decode cX7_forge 78 = .ok (.bipush 10, 2) := by decide +kernel
theorem dX7_forge_80 : decode cX7_forge 80 = .ok (.invokestatic 297, 3) := by decide +kernel
theorem dX7_forge_83 : decode cX7_forge 83 = .ok (.aaload, 1) := by decide +kernel
theorem dX7_forge_84 : decode cX7_forge 84 = .ok (.iload_n 2, 1) := by decide +kernel
theorem dX7_forge_85 : decode cX7_forge 85 = .ok (.iconst 5, 1) := by decide +kernel
theorem dX7_forge_86 : decode cX7_forge 86 = .ok (.invokestatic 297, 3) := by decide +kernel
theorem dX7_forge_89 : decode cX7_forge 89 = .ok (.invokevirtual 303, 3) := by decide +kernel
theorem dX7_forge_92 : decode cX7_forge 92 = .ok (.ireturn, 1) := by decide +kernel
theorem dX7_forge_93 : decode cX7_forge 93 = .ok (.iload_n 2, 1) := by decide +kernel
theorem dX7_forge_94 : decode cX7_forge 94 = .ok (.ifCond .ge 12, 3) := by decide +kernel
theorem dX7_forge_97 : decode cX7_forge 97 = .ok (.aload_n 0, 1) := by decide +kernel
theorem dX7_forge_98 : decode cX7_forge 98 = .ok (.bipush 13, 2) := by decide +kernel
theorem dX7_forge_100 : decode cX7_forge 100 = .ok (.invokevirtual 64, 3) := by decide +kernel
theorem dX7_forge_103 : decode cX7_forge 103 = .ok (.goto 8, 3) := by decide +kernel
theorem dX7_forge_106 : decode cX7_forge 106 = .ok (.aload_n 0, 1) := by decide +kernel
theorem dX7_forge_107 : decode cX7_forge 107 = .ok (.iload_n 2, 1) := by decide +kernel
theorem dX7_forge_108 : decode cX7_forge 108 = .ok (.invokevirtual 80, 3) := by decide +kernel
theorem dX7_forge_111 : decode cX7_forge 111 = .ok (.ireturn, 1) := by decide +kernel
theorem dX7_forge_112 : decode cX7_forge 112 = .ok (.aload_n 0, 1) := by decide +kernel
theorem dX7_forge_113 : decode cX7_forge 113 = .ok (.aload_n 0, 1) := by decide +kernel
theorem dX7_forge_114 : decode cX7_forge 114 = .ok (.getfield 23, 3) := by decide +kernel
theorem dX7_forge_117 : decode cX7_forge 117 = .ok (.iload_n 3, 1) := by decide +kernel
theorem dX7_forge_118 : decode cX7_forge 118 = .ok (.iconst 4, 1) := by decide +kernel
theorem dX7_forge_119 : decode cX7_forge 119 = .ok (.invokestatic 297, 3) := by decide +kernel
theorem dX7_forge_122 : decode cX7_forge 122 = .ok (.aaload, 1) := by decide +kernel
theorem dX7_forge_123 : decode cX7_forge 123 = .ok (.iload_n 2, 1) := by decide +kernel
theorem dX7_forge_124 : decode cX7_forge 124 = .ok (.invokevirtual 307, 3) := by decide +kernel
theorem dX7_forge_127 : decode cX7_forge 127 = .ok (.ireturn, 1) := by decide +kernel
theorem dX7_forge_128 : decode cX7_forge 128 = .ok (.aload_n 0, 1) := by decide +kernel
theorem dX7_forge_129 : decode cX7_forge 129 = .ok (.aload_n 0, 1) := by decide +kernel
theorem dX7_forge_130 : decode cX7_forge 130 = .ok (.getfield 23, 3) := by decide +kernel
theorem dX7_forge_133 : decode cX7_forge 133 = .ok (.iload_n 3, 1) := by decide +kernel
theorem dX7_forge_134 : decode cX7_forge 134 = .ok (.iconst 4, 1) := by decide +kernel
theorem dX7_forge_135 : decode cX7_forge 135 = .ok (.invokestatic 297, 3) := by decide +kernel
theorem dX7_forge_138 : decode cX7_forge 138 = .ok (.aaload, 1) := by decide +kernel
theorem dX7_forge_139 : decode cX7_forge 139 = .ok (.iload_n 2, 1) := by decide +kernel
theorem dX7_forge_140 : decode cX7_forge 140 = .ok (.invokevirtual 310, 3) := by decide +kernel
theorem dX7_forge_143 : decode cX7_forge 143 = .ok (.ireturn, 1) := by decide +kernel
theorem dX7_forge_144 : decode cX7_forge 144 = .ok (.aload_n 0, 1) := by decide +kernel
theorem dX7_forge_145 : decode cX7_forge 145 = .ok (.aload_n 0, 1) := by decide +kernel
theorem dX7_forge_146 : decode cX7_forge 146 = .ok (.getfield 17, 3) := by decide +kernel
theorem dX7_forge_149 : decode cX7_forge 149 = .ok (.iload_n 3, 1) := by decide +kernel
theorem dX7_forge_150 : decode cX7_forge 150 = .ok (.bipush 10, 2) := by decide +kernel
theorem dX7_forge_152 : decode cX7_forge 152 = .ok (.invokestatic 297, 3) := by decide +kernel
theorem dX7_forge_155 : decode cX7_forge 155 = .ok (.aaload, 1) := by decide +kernel
theorem dX7_forge_156 : decode cX7_forge 156 = .ok (.invokevirtual 313, 3) := by decide +kernel
theorem dX7_forge_159 : decode cX7_forge 159 = .ok (.ireturn, 1) := by decide +kernel
theorem dX7_forge_160 : decode cX7_forge 160 = .ok (.iload_n 2, 1) := by decide +kernel
theorem dX7_forge_161 : decode cX7_forge 161 = .ok (.ifCond .ne 12, 3) := by decide +kernel
theorem dX7_forge_164 : decode cX7_forge 164 = .ok (.aload_n 0, 1) := by decide +kernel
theorem dX7_forge_165 : decode cX7_forge 165 = .ok (.bipush 15, 2) := by decide +kernel
theorem dX7_forge_167 : decode cX7_forge 167 = .ok (.invokevirtual 64, 3) := by decide +kernel
theorem dX7_forge_170 : decode cX7_forge 170 = .ok (.goto 12, 3) := by decide +kernel
theorem dX7_forge_173 : decode cX7_forge 173 = .ok (.aload_n 0, 1) := by decide +kernel
theorem dX7_forge_174 : decode cX7_forge 174 = .ok (.sipush 1000, 3) := by decide +kernel
theorem dX7_forge_177 : decode cX7_forge 177 = .ok (.iload_n 2, 1) := by decide +kernel
theorem dX7_forge_178 : decode cX7_forge 178 = .ok (.idiv, 1) := by decide +kernel
theorem dX7_forge_179 : decode cX7_forge 179 = .ok (.invokevirtual 80, 3) := by decide +kernel
theorem dX7_forge_182 : decode cX7_forge 182 = .ok (.ireturn, 1) := by decide +kernel
theorem dX7_forge_183 : decode cX7_forge 183 = .ok (.iload_n 2, 1) := by decide +kernel
theorem dX7_forge_184 : decode cX7_forge 184 = .ok (.iconst 2, 1) := by decide +kernel
theorem dX7_forge_185 : decode cX7_forge 185 = .ok (.invokestatic 297, 3) := by decide +kernel
theorem dX7_forge_188 : decode cX7_forge 188 = .ok (.ifCond .ne 12, 3) := by decide +kernel
theorem dX7_forge_191 : decode cX7_forge 191 = .ok (.aload_n 0, 1) := by decide +kernel
theorem dX7_forge_192 : decode cX7_forge 192 = .ok (.bipush 10, 2) := by decide +kernel
theorem dX7_forge_194 : decode cX7_forge 194 = .ok (.invokevirtual 64, 3) := by decide +kernel
theorem dX7_forge_197 : decode cX7_forge 197 = .ok (.goto 8, 3) := by decide +kernel
theorem dX7_forge_200 : decode cX7_forge 200 = .ok (.aload_n 0, 1) := by decide +kernel
theorem dX7_forge_201 : decode cX7_forge 201 = .ok (.iconst 1, 1) := by decide +kernel
theorem dX7_forge_202 : decode cX7_forge 202 = .ok (.invokevirtual 80, 3) := by decide +kernel
theorem dX7_forge_205 : decode cX7_forge 205 = .ok (.ireturn, 1) := by decide +kernel
theorem dX7_forge_206 : decode cX7_forge 206 = .ok (.aload_n 0, 1) := by decide +kernel
theorem dX7_forge_207 : decode cX7_forge 207 = .ok (.iconst 1, 1) := by decide +kernel
theorem dX7_forge_208 : decode cX7_forge 208 = .ok (.invokevirtual 64, 3) := by decide +kernel
theorem dX7_forge_211 : decode cX7_forge 211 = .ok (.ireturn, 1) := by decide +kernel
theorem dX7_forgeKind_0 : decode cX7_forgeKind 0 = .ok (.aload_n 1, 1) := by decide +kernel
theorem dX7_forgeKind_1 : decode cX7_forgeKind 1 = .ok (.ifnonnull 10, 3) := by decide +kernel
theorem dX7_forgeKind_4 : decode cX7_forgeKind 4 = .ok (.aload_n 0, 1) := by decide +kernel
theorem dX7_forgeKind_5 : decode cX7_forgeKind 5 = .ok (.bipush 10, 2) := by decide +kernel
theorem dX7_forgeKind_7 : decode cX7_forgeKind 7 = .ok (.invokevirtual 64, 3) := by decide +kernel
theorem dX7_forgeKind_10 : decode cX7_forgeKind 10 = .ok (.ireturn, 1) := by decide +kernel
theorem dX7_forgeKind_11 : decode cX7_forgeKind 11 = .ok (.aload_n 1, 1) := by decide +kernel
theorem dX7_forgeKind_12 : decode cX7_forgeKind 12 = .ok (.getfield 176, 3) := by decide +kernel
theorem dX7_forgeKind_15 : decode cX7_forgeKind 15 = .ok (.iload_n 2, 1) := by decide +kernel
theorem dX7_forgeKind_16 : decode cX7_forgeKind 16 = .ok (.invokestatic 316, 3) := by decide +kernel
theorem dX7_forgeKind_19 : decode cX7_forgeKind 19 = .ok (.ifCond .eq 14, 3) := by decide +kernel
theorem dX7_forgeKind_22 : decode cX7_forgeKind 22 = .ok (.aload_n 0, 1) := by decide +kernel
theorem dX7_forgeKind_23 : decode cX7_forgeKind 23 = .ok (.aload_n 1, 1) := by decide +kernel
theorem dX7_forgeKind_24 : decode cX7_forgeKind 24 = .ok (.getfield 176, 3) := by decide +kernel
theorem dX7_forgeKind_27 : decode cX7_forgeKind 27 = .ok (.invokevirtual 80, 3) := by decide +kernel
theorem dX7_forgeKind_30 : decode cX7_forgeKind 30 = .ok (.goto 9, 3) := by decide +kernel
theorem dX7_forgeKind_33 : decode cX7_forgeKind 33 = .ok (.aload_n 0, 1) := by decide +kernel
theorem dX7_forgeKind_34 : decode cX7_forgeKind 34 = .ok (.bipush 11, 2) := by decide +kernel
theorem dX7_forgeKind_36 : decode cX7_forgeKind 36 = .ok (.invokevirtual 64, 3) := by decide +kernel
theorem dX7_forgeKind_39 : decode cX7_forgeKind 39 = .ok (.ireturn, 1) := by decide +kernel
theorem dX7_forgeNumber_0 : decode cX7_forgeNumber 0 = .ok (.aload_n 1, 1) := by decide +kernel
theorem dX7_forgeNumber_1 : decode cX7_forgeNumber 1 = .ok (.iconst 1, 1) := by decide +kernel
theorem dX7_forgeNumber_2 : decode cX7_forgeNumber 2 = .ok (.invokestatic 290, 3) := by decide +kernel
theorem dX7_forgeNumber_5 : decode cX7_forgeNumber 5 = .ok (.istore_n 3, 1) := by decide +kernel
theorem dX7_forgeNumber_6 : decode cX7_forgeNumber 6 = .ok (.aload_n 1, 1) := by decide +kernel
theorem dX7_forgeNumber_7 : decode cX7_forgeNumber 7 = .ok (.ifnull 7, 3) := by decide +kernel
theorem dX7_forgeNumber_10 : decode cX7_forgeNumber 10 = .ok (.iload_n 3, 1) := by decide +kernel
theorem dX7_forgeNumber_11 : decode cX7_forgeNumber 11 = .ok (.ifCond .eq 9, 3) := by decide +kernel
theorem dX7_forgeNumber_14 : decode cX7_forgeNumber 14 = .ok (.aload_n 0, 1) := by decide +kernel
theorem dX7_forgeNumber_15 : decode cX7_forgeNumber 15 = .ok (.iload_n 3, 1) := by decide +kernel
theorem dX7_forgeNumber_16 : decode cX7_forgeNumber 16 = .ok (.invokevirtual 64, 3) := by decide +kernel
theorem dX7_forgeNumber_19 : decode cX7_forgeNumber 19 = .ok (.ireturn, 1) := by decide +kernel
theorem dX7_forgeNumber_20 : decode cX7_forgeNumber 20 = .ok (.aload_n 1, 1) := by decide +kernel
theorem dX7_forgeNumber_21 : decode cX7_forgeNumber 21 = .ok (.iload_n 2, 1) := by decide +kernel
theorem dX7_forgeNumber_22 : decode cX7_forgeNumber 22 = .ok (.invokevirtual 286, 3) := by decide +kernel
theorem dX7_forgeNumber_25 : decode cX7_forgeNumber 25 = .ok (.ifCond .eq 16, 3) := by decide +kernel
theorem dX7_forgeNumber_28 : decode cX7_forgeNumber 28 = .ok (.aload_n 0, 1) := by decide +kernel
theorem dX7_forgeNumber_29 : decode cX7_forgeNumber 29 = .ok (.aload_n 1, 1) := by decide +kernel
theorem dX7_forgeNumber_30 : decode cX7_forgeNumber 30 = .ok (.getfield 287, 3) := by decide +kernel
theorem dX7_forgeNumber_33 : decode cX7_forgeNumber 33 = .ok (.iload_n 2, 1) := by decide +kernel
theorem dX7_forgeNumber_34 : decode cX7_forgeNumber 34 = .ok (.iaload, 1) := by decide +kernel
theorem dX7_forgeNumber_35 : decode cX7_forgeNumber 35 = .ok (.invokevirtual 80, 3) := by decide +kernel
theorem dX7_forgeNumber_38 : decode cX7_forgeNumber 38 = .ok (.goto 9, 3) := by decide +kernel
theorem dX7_forgeNumber_41 : decode cX7_forgeNumber 41 = .ok (.aload_n 0, 1) := by decide +kernel
theorem dX7_forgeNumber_42 : decode cX7_forgeNumber 42 = .ok (.bipush 12, 2) := by decide +kernel
theorem dX7_forgeNumber_44 : decode cX7_forgeNumber 44 = .ok (.invokevirtual 64, 3) := by decide +kernel
theorem dX7_forgeNumber_47 : decode cX7_forgeNumber 47 = .ok (.ireturn, 1) := by decide +kernel
theorem dX7_forgeCopy_0 : decode cX7_forgeCopy 0 = .ok (.aload_n 1, 1) := by decide +kernel
theorem dX7_forgeCopy_1 : decode cX7_forgeCopy 1 = .ok (.iconst 0, 1) := by decide +kernel
theorem dX7_forgeCopy_2 : decode cX7_forgeCopy 2 = .ok (.invokestatic 290, 3) := by decide +kernel
theorem dX7_forgeCopy_5 : decode cX7_forgeCopy 5 = .ok (.istore_n 3, 1) := by decide +kernel
theorem dX7_forgeCopy_6 : decode cX7_forgeCopy 6 = .ok (.aload_n 1, 1) := by decide +kernel
theorem dX7_forgeCopy_7 : decode cX7_forgeCopy 7 = .ok (.ifnull 7, 3) := by decide +kernel
theorem dX7_forgeCopy_10 : decode cX7_forgeCopy 10 = .ok (.iload_n 3, 1) := by decide +kernel
theorem dX7_forgeCopy_11 : decode cX7_forgeCopy 11 = .ok (.ifCond .eq 9, 3) := by decide +kernel
theorem dX7_forgeCopy_14 : decode cX7_forgeCopy 14 = .ok (.aload_n 0, 1) := by decide +kernel
theorem dX7_forgeCopy_15 : decode cX7_forgeCopy 15 = .ok (.iload_n 3, 1) := by decide +kernel
theorem dX7_forgeCopy_16 : decode cX7_forgeCopy 16 = .ok (.invokevirtual 64, 3) := by decide +kernel
theorem dX7_forgeCopy_19 : decode cX7_forgeCopy 19 = .ok (.ireturn, 1) := by decide +kernel
theorem dX7_forgeCopy_20 : decode cX7_forgeCopy 20 = .ok (.iload_n 2, 1) := by decide +kernel
theorem dX7_forgeCopy_21 : decode cX7_forgeCopy 21 = .ok (.ifCond .lt 22, 3) := by decide +kernel
theorem dX7_forgeCopy_24 : decode cX7_forgeCopy 24 = .ok (.iconst 1, 1) := by decide +kernel
theorem dX7_forgeCopy_25 : decode cX7_forgeCopy 25 = .ok (.iload_n 2, 1) := by decide +kernel
theorem dX7_forgeCopy_26 : decode cX7_forgeCopy 26 = .ok (.iadd, 1) := by decide +kernel
theorem dX7_forgeCopy_27 : decode cX7_forgeCopy 27 = .ok (.aload_n 1, 1) := by decide +kernel
theorem dX7_forgeCopy_28 : decode cX7_forgeCopy 28 = .ok (.getfield 287, 3) := by decide +kernel
theorem dX7_forgeCopy_31 : decode cX7_forgeCopy 31 = .ok (.arraylength, 1) := by decide +kernel
theorem dX7_forgeCopy_32 : decode cX7_forgeCopy 32 = .ok (.if_icmp .gt 11, 3) := by decide +kernel
theorem dX7_forgeCopy_35 : decode cX7_forgeCopy 35 = .ok (.iload_n 2, 1) := by decide +kernel
theorem dX7_forgeCopy_36 : decode cX7_forgeCopy 36 = .ok (.iload_n 2, 1) := by decide +kernel
theorem dX7_forgeCopy_37 : decode cX7_forgeCopy 37 = .ok (.iadd, 1) := by decide +kernel
theorem dX7_forgeCopy_38 : decode cX7_forgeCopy 38 = .ok (.bipush 6, 2) := by decide +kernel
theorem dX7_forgeCopy_40 : decode cX7_forgeCopy 40 = .ok (.if_icmp .le 10, 3) := by decide +kernel
theorem dX7_forgeCopy_43 : decode cX7_forgeCopy 43 = .ok (.aload_n 0, 1) := by decide +kernel
theorem dX7_forgeCopy_44 : decode cX7_forgeCopy 44 = .ok (.bipush 12, 2) := by decide +kernel
theorem dX7_forgeCopy_46 : decode cX7_forgeCopy 46 = .ok (.invokevirtual 64, 3) := by decide +kernel
theorem dX7_forgeCopy_49 : decode cX7_forgeCopy 49 = .ok (.ireturn, 1) := by decide +kernel
theorem dX7_forgeCopy_50 : decode cX7_forgeCopy 50 = .ok (.iconst 0, 1) := by decide +kernel
theorem dX7_forgeCopy_51 : decode cX7_forgeCopy 51 = .ok (.istore 4, 2) := by decide +kernel
theorem dX7_forgeCopy_53 : decode cX7_forgeCopy 53 = .ok (.iconst 1, 1) := by decide +kernel
theorem dX7_forgeCopy_54 : decode cX7_forgeCopy 54 = .ok (.istore 5, 2) := by decide +kernel
theorem dX7_forgeCopy_56 : decode cX7_forgeCopy 56 = .ok (.iload 5, 2) := by decide +kernel
theorem dX7_forgeCopy_58 : decode cX7_forgeCopy 58 = .ok (.iload_n 2, 1) := by decide +kernel
theorem dX7_forgeCopy_59 : decode cX7_forgeCopy 59 = .ok (.if_icmp .gt 21, 3) := by decide +kernel
theorem dX7_forgeCopy_62 : decode cX7_forgeCopy 62 = .ok (.iload 4, 2) := by decide +kernel
theorem dX7_forgeCopy_64 : decode cX7_forgeCopy 64 = .ok (.aload_n 1, 1) := by decide +kernel
theorem dX7_forgeCopy_65 : decode cX7_forgeCopy 65 = .ok (.getfield 287, 3) := by decide +kernel
theorem dX7_forgeCopy_68 : decode cX7_forgeCopy 68 = .ok (.iload 5, 2) := by decide +kernel
theorem dX7_forgeCopy_70 : decode cX7_forgeCopy 70 = .ok (.iaload, 1) := by decide +kernel
theorem dX7_forgeCopy_71 : decode cX7_forgeCopy 71 = .ok (.iadd, 1) := by decide +kernel
theorem dX7_forgeCopy_72 : decode cX7_forgeCopy 72 = .ok (.istore 4, 2) := by decide +kernel
theorem dX7_forgeCopy_74 : decode cX7_forgeCopy 74 = .ok (.iinc 5 1, 3) := by decide +kernel
theorem dX7_forgeCopy_77 : decode cX7_forgeCopy 77 = .ok (.goto (-21), 3) := by decide +kernel
theorem dX7_forgeCopy_80 : decode cX7_forgeCopy 80 = .ok (.aload_n 0, 1) := by decide +kernel
theorem dX7_forgeCopy_81 : decode cX7_forgeCopy 81 = .ok (.iload 4, 2) := by decide +kernel
theorem dX7_forgeCopy_83 : decode cX7_forgeCopy 83 = .ok (.invokevirtual 80, 3) := by decide +kernel
theorem dX7_forgeCopy_86 : decode cX7_forgeCopy 86 = .ok (.ireturn, 1) := by decide +kernel
theorem dX7_forgeRowOfLines_0 : decode cX7_forgeRowOfLines 0 = .ok (.aload_n 1, 1) := by decide +kernel
theorem dX7_forgeRowOfLines_1 : decode cX7_forgeRowOfLines 1 = .ok (.ifnonnull 9, 3) := by decide +kernel
theorem dX7_forgeRowOfLines_4 : decode cX7_forgeRowOfLines 4 = .ok (.aload_n 0, 1) := by decide +kernel
theorem dX7_forgeRowOfLines_5 : decode cX7_forgeRowOfLines 5 = .ok (.iconst 0, 1) := by decide +kernel
theorem dX7_forgeRowOfLines_6 : decode cX7_forgeRowOfLines 6 = .ok (.invokevirtual 80, 3) := by decide +kernel
theorem dX7_forgeRowOfLines_9 : decode cX7_forgeRowOfLines 9 = .ok (.ireturn, 1) := by decide +kernel
theorem dX7_forgeRowOfLines_10 : decode cX7_forgeRowOfLines 10 = .ok (.aload_n 1, 1) := by decide +kernel
theorem dX7_forgeRowOfLines_11 : decode cX7_forgeRowOfLines 11 = .ok (.getfield 176, 3) := by decide +kernel
theorem dX7_forgeRowOfLines_14 : decode cX7_forgeRowOfLines 14 = .ok (.iconst 1, 1) := by decide +kernel
theorem dX7_forgeRowOfLines_15 : decode cX7_forgeRowOfLines 15 = .ok (.invokestatic 316, 3) := by decide +kernel
theorem dX7_forgeRowOfLines_18 : decode cX7_forgeRowOfLines 18 = .ok (.ifCond .eq 14, 3) := by decide +kernel
theorem dX7_forgeRowOfLines_21 : decode cX7_forgeRowOfLines 21 = .ok (.aload_n 0, 1) := by decide +kernel
theorem dX7_forgeRowOfLines_22 : decode cX7_forgeRowOfLines 22 = .ok (.aload_n 1, 1) := by decide +kernel
theorem dX7_forgeRowOfLines_23 : decode cX7_forgeRowOfLines 23 = .ok (.getfield 176, 3) := by decide +kernel
theorem dX7_forgeRowOfLines_26 : decode cX7_forgeRowOfLines 26 = .ok (.invokevirtual 80, 3) := by decide +kernel
theorem dX7_forgeRowOfLines_29 : decode cX7_forgeRowOfLines 29 = .ok (.goto 9, 3) := by decide +kernel
theorem dX7_forgeRowOfLines_32 : decode cX7_forgeRowOfLines 32 = .ok (.aload_n 0, 1) := by decide +kernel
theorem dX7_forgeRowOfLines_33 : decode cX7_forgeRowOfLines 33 = .ok (.bipush 14, 2) := by decide +kernel
theorem dX7_forgeRowOfLines_35 : decode cX7_forgeRowOfLines 35 = .ok (.invokevirtual 64, 3) := by decide +kernel
theorem dX7_forgeRowOfLines_38 : decode cX7_forgeRowOfLines 38 = .ok (.ireturn, 1) := by decide +kernel
theorem dX7_isKindOrUnder_0 : decode cX7_isKindOrUnder 0 = .ok (.iload_n 0, 1) := by decide +kernel
theorem dX7_isKindOrUnder_1 : decode cX7_isKindOrUnder 1 = .ok (.istore_n 2, 1) := by decide +kernel
theorem dX7_isKindOrUnder_2 : decode cX7_isKindOrUnder 2 = .ok (.iconst 0, 1) := by decide +kernel
theorem dX7_isKindOrUnder_3 : decode cX7_isKindOrUnder 3 = .ok (.istore_n 3, 1) := by decide +kernel
theorem dX7_isKindOrUnder_4 : decode cX7_isKindOrUnder 4 = .ok (.iload_n 3, 1) := by decide +kernel
theorem dX7_isKindOrUnder_5 : decode cX7_isKindOrUnder 5 = .ok (.iconst 5, 1) := by decide +kernel
theorem dX7_isKindOrUnder_6 : decode cX7_isKindOrUnder 6 = .ok (.if_icmp .ge 31, 3) := by decide +kernel
theorem dX7_isKindOrUnder_9 : decode cX7_isKindOrUnder 9 = .ok (.iload_n 2, 1) := by decide +kernel
theorem dX7_isKindOrUnder_10 : decode cX7_isKindOrUnder 10 = .ok (.ifCond .lt 27, 3) := by decide +kernel
theorem dX7_isKindOrUnder_13 : decode cX7_isKindOrUnder 13 = .ok (.iload_n 2, 1) := by decide +kernel
theorem dX7_isKindOrUnder_14 : decode cX7_isKindOrUnder 14 = .ok (.iconst 5, 1) := by decide +kernel
theorem dX7_isKindOrUnder_15 : decode cX7_isKindOrUnder 15 = .ok (.if_icmp .ge 22, 3) := by decide +kernel
theorem dX7_isKindOrUnder_18 : decode cX7_isKindOrUnder 18 = .ok (.iload_n 2, 1) := by decide +kernel
theorem dX7_isKindOrUnder_19 : decode cX7_isKindOrUnder 19 = .ok (.iload_n 1, 1) := by decide +kernel
theorem dX7_isKindOrUnder_20 : decode cX7_isKindOrUnder 20 = .ok (.if_icmp .ne 5, 3) := by decide +kernel
theorem dX7_isKindOrUnder_23 : decode cX7_isKindOrUnder 23 = .ok (.iconst 1, 1) := by decide +kernel
theorem dX7_isKindOrUnder_24 : decode cX7_isKindOrUnder 24 = .ok (.ireturn, 1) := by decide +kernel
theorem dX7_isKindOrUnder_25 : decode cX7_isKindOrUnder 25 = .ok (.getstatic 319, 3) := by decide +kernel
theorem dX7_isKindOrUnder_28 : decode cX7_isKindOrUnder 28 = .ok (.iload_n 2, 1) := by decide +kernel
theorem dX7_isKindOrUnder_29 : decode cX7_isKindOrUnder 29 = .ok (.iaload, 1) := by decide +kernel
theorem dX7_isKindOrUnder_30 : decode cX7_isKindOrUnder 30 = .ok (.istore_n 2, 1) := by decide +kernel
theorem dX7_isKindOrUnder_31 : decode cX7_isKindOrUnder 31 = .ok (.iinc 3 1, 3) := by decide +kernel
theorem dX7_isKindOrUnder_34 : decode cX7_isKindOrUnder 34 = .ok (.goto (-30), 3) := by decide +kernel
theorem dX7_isKindOrUnder_37 : decode cX7_isKindOrUnder 37 = .ok (.iconst 0, 1) := by decide +kernel
theorem dX7_isKindOrUnder_38 : decode cX7_isKindOrUnder 38 = .ok (.ireturn, 1) := by decide +kernel
theorem dX7_status_0 : decode cX7_status 0 = .ok (.aload_n 0, 1) := by decide +kernel
theorem dX7_status_1 : decode cX7_status 1 = .ok (.getfield 52, 3) := by decide +kernel
theorem dX7_status_4 : decode cX7_status 4 = .ok (.ireturn, 1) := by decide +kernel
theorem dX7_refuse_0 : decode cX7_refuse 0 = .ok (.aload_n 0, 1) := by decide +kernel
theorem dX7_refuse_1 : decode cX7_refuse 1 = .ok (.iload_n 1, 1) := by decide +kernel
theorem dX7_refuse_2 : decode cX7_refuse 2 = .ok (.putfield 52, 3) := by decide +kernel
theorem dX7_refuse_5 : decode cX7_refuse 5 = .ok (.iconst (-1), 1) := by decide +kernel
theorem dX7_refuse_6 : decode cX7_refuse 6 = .ok (.ireturn, 1) := by decide +kernel
theorem dX7_done_0 : decode cX7_done 0 = .ok (.aload_n 0, 1) := by decide +kernel
theorem dX7_done_1 : decode cX7_done 1 = .ok (.iconst 0, 1) := by decide +kernel
theorem dX7_done_2 : decode cX7_done 2 = .ok (.putfield 52, 3) := by decide +kernel
theorem dX7_done_5 : decode cX7_done 5 = .ok (.iload_n 1, 1) := by decide +kernel
theorem dX7_done_6 : decode cX7_done 6 = .ok (.ireturn, 1) := by decide +kernel
theorem dX7_setAt_0 : decode cX7_setAt 0 = .ok (.iload_n 1, 1) := by decide +kernel
theorem dX7_setAt_1 : decode cX7_setAt 1 = .ok (.ifCond .lt 18, 3) := by decide +kernel
theorem dX7_setAt_4 : decode cX7_setAt 4 = .ok (.iload_n 1, 1) := by decide +kernel
theorem dX7_setAt_5 : decode cX7_setAt 5 = .ok (.bipush 6, 2) := by decide +kernel
theorem dX7_setAt_7 : decode cX7_setAt 7 = .ok (.if_icmp .ge 12, 3) := by decide +kernel
theorem dX7_setAt_10 : decode cX7_setAt 10 = .ok (.aload_n 0, 1) := by decide +kernel
theorem dX7_setAt_11 : decode cX7_setAt 11 = .ok (.getfield 11, 3) := by decide +kernel
theorem dX7_setAt_14 : decode cX7_setAt 14 = .ok (.iload_n 1, 1) := by decide +kernel
theorem dX7_setAt_15 : decode cX7_setAt 15 = .ok (.aaload, 1) := by decide +kernel
theorem dX7_setAt_16 : decode cX7_setAt 16 = .ok (.goto 4, 3) := by decide +kernel
theorem dX7_setAt_19 : decode cX7_setAt 19 = .ok (.aconst_null, 1) := by decide +kernel
theorem dX7_setAt_20 : decode cX7_setAt 20 = .ok (.areturn, 1) := by decide +kernel
theorem dX7_fitAt_0 : decode cX7_fitAt 0 = .ok (.iload_n 1, 1) := by decide +kernel
theorem dX7_fitAt_1 : decode cX7_fitAt 1 = .ok (.ifCond .lt 18, 3) := by decide +kernel
theorem dX7_fitAt_4 : decode cX7_fitAt 4 = .ok (.iload_n 1, 1) := by decide +kernel
theorem dX7_fitAt_5 : decode cX7_fitAt 5 = .ok (.bipush 10, 2) := by decide +kernel
theorem dX7_fitAt_7 : decode cX7_fitAt 7 = .ok (.if_icmp .ge 12, 3) := by decide +kernel
theorem dX7_fitAt_10 : decode cX7_fitAt 10 = .ok (.aload_n 0, 1) := by decide +kernel
theorem dX7_fitAt_11 : decode cX7_fitAt 11 = .ok (.getfield 17, 3) := by decide +kernel
theorem dX7_fitAt_14 : decode cX7_fitAt 14 = .ok (.iload_n 1, 1) := by decide +kernel
theorem dX7_fitAt_15 : decode cX7_fitAt 15 = .ok (.aaload, 1) := by decide +kernel
theorem dX7_fitAt_16 : decode cX7_fitAt 16 = .ok (.goto 4, 3) := by decide +kernel
theorem dX7_fitAt_19 : decode cX7_fitAt 19 = .ok (.aconst_null, 1) := by decide +kernel
theorem dX7_fitAt_20 : decode cX7_fitAt 20 = .ok (.areturn, 1) := by decide +kernel
theorem dX7_isWithin_0 : decode cX7_isWithin 0 = .ok (.iload_n 0, 1) := by decide +kernel
theorem dX7_isWithin_1 : decode cX7_isWithin 1 = .ok (.iload_n 1, 1) := by decide +kernel
theorem dX7_isWithin_2 : decode cX7_isWithin 2 = .ok (.if_icmp .lt 12, 3) := by decide +kernel
theorem dX7_isWithin_5 : decode cX7_isWithin 5 = .ok (.iload_n 0, 1) := by decide +kernel
theorem dX7_isWithin_6 : decode cX7_isWithin 6 = .ok (.iload_n 2, 1) := by decide +kernel
theorem dX7_isWithin_7 : decode cX7_isWithin 7 = .ok (.if_icmp .gt 7, 3) := by decide +kernel
theorem dX7_isWithin_10 : decode cX7_isWithin 10 = .ok (.iconst 1, 1) := by decide +kernel
theorem dX7_isWithin_11 : decode cX7_isWithin 11 = .ok (.goto 4, 3) := by decide +kernel
theorem dX7_isWithin_14 : decode cX7_isWithin 14 = .ok (.iconst 0, 1) := by decide +kernel
theorem dX7_isWithin_15 : decode cX7_isWithin 15 = .ok (.ireturn, 1) := by decide +kernel
theorem dX7_lowestTerms_0 : decode cX7_lowestTerms 0 = .ok (.iload 4, 2) := by decide +kernel
theorem dX7_lowestTerms_2 : decode cX7_lowestTerms 2 = .ok (.ifCond .eq 13, 3) := by decide +kernel
theorem dX7_lowestTerms_5 : decode cX7_lowestTerms 5 = .ok (.iload 4, 2) := by decide +kernel
theorem dX7_lowestTerms_7 : decode cX7_lowestTerms 7 = .ok (.iconst 1, 1) := by decide +kernel
theorem dX7_lowestTerms_8 : decode cX7_lowestTerms 8 = .ok (.if_icmp .eq 7, 3) := by decide +kernel
theorem dX7_lowestTerms_11 : decode cX7_lowestTerms 11 = .ok (.ldc2_w 89, 3) := by decide +kernel
theorem dX7_lowestTerms_14 : decode cX7_lowestTerms 14 = .ok (.lreturn, 1) := by decide +kernel
theorem dX7_lowestTerms_15 : decode cX7_lowestTerms 15 = .ok (.iload 4, 2) := by decide +kernel
theorem dX7_lowestTerms_17 : decode cX7_lowestTerms 17 = .ok (.ifCond .ne 7, 3) := by decide +kernel
theorem dX7_lowestTerms_20 : decode cX7_lowestTerms 20 = .ok (.lload_n 0, 1) := by decide +kernel
theorem dX7_lowestTerms_21 : decode cX7_lowestTerms 21 = .ok (.goto 4, 3) := by decide +kernel
theorem dX7_lowestTerms_24 : decode cX7_lowestTerms 24 = .ok (.lload_n 2, 1) := by decide +kernel
theorem dX7_lowestTerms_25 : decode cX7_lowestTerms 25 = .ok (.lstore 5, 2) := by decide +kernel
theorem dX7_lowestTerms_27 : decode cX7_lowestTerms 27 = .ok (.lload_n 0, 1) := by decide +kernel
theorem dX7_lowestTerms_28 : decode cX7_lowestTerms 28 = .ok (.lload_n 2, 1) := by decide +kernel
theorem dX7_lowestTerms_29 : decode cX7_lowestTerms 29 = .ok (.invokestatic 322, 3) := by decide +kernel
theorem dX7_lowestTerms_32 : decode cX7_lowestTerms 32 = .ok (.lstore 7, 2) := by decide +kernel
theorem dX7_lowestTerms_34 : decode cX7_lowestTerms 34 = .ok (.lload 7, 2) := by decide +kernel
theorem dX7_lowestTerms_36 : decode cX7_lowestTerms 36 = .ok (.lconst 1, 1) := by decide +kernel
theorem dX7_lowestTerms_37 : decode cX7_lowestTerms 37 = .ok (.lcmp, 1) := by decide +kernel
theorem dX7_lowestTerms_38 : decode cX7_lowestTerms 38 = .ok (.ifCond .le 11, 3) := by decide +kernel
theorem dX7_lowestTerms_41 : decode cX7_lowestTerms 41 = .ok (.lload 5, 2) := by decide +kernel
theorem dX7_lowestTerms_43 : decode cX7_lowestTerms 43 = .ok (.lload 7, 2) := by decide +kernel
theorem dX7_lowestTerms_45 : decode cX7_lowestTerms 45 = .ok (.ldiv, 1) := by decide +kernel
theorem dX7_lowestTerms_46 : decode cX7_lowestTerms 46 = .ok (.goto 5, 3) := by decide +kernel
theorem dX7_lowestTerms_49 : decode cX7_lowestTerms 49 = .ok (.lload 5, 2) := by decide +kernel
theorem dX7_lowestTerms_51 : decode cX7_lowestTerms 51 = .ok (.lreturn, 1) := by decide +kernel
theorem dX7_commonDivisor_0 : decode cX7_commonDivisor 0 = .ok (.lload_n 0, 1) := by decide +kernel
theorem dX7_commonDivisor_1 : decode cX7_commonDivisor 1 = .ok (.lconst 0, 1) := by decide +kernel
theorem dX7_commonDivisor_2 : decode cX7_commonDivisor 2 = .ok (.lcmp, 1) := by decide +kernel
theorem dX7_commonDivisor_3 : decode cX7_commonDivisor 3 = .ok (.ifCond .ge 8, 3) := by decide +kernel
theorem dX7_commonDivisor_6 : decode cX7_commonDivisor 6 = .ok (.lload_n 0, 1) := by decide +kernel
theorem dX7_commonDivisor_7 : decode cX7_commonDivisor 7 = .ok (.lneg, 1) := by decide +kernel
theorem dX7_commonDivisor_8 : decode cX7_commonDivisor 8 = .ok (.goto 4, 3) := by decide +kernel
theorem dX7_commonDivisor_11 : decode cX7_commonDivisor 11 = .ok (.lload_n 0, 1) := by decide +kernel
theorem dX7_commonDivisor_12 : decode cX7_commonDivisor 12 = .ok (.lstore 4, 2) := by decide +kernel
theorem dX7_commonDivisor_14 : decode cX7_commonDivisor 14 = .ok (.lload_n 2, 1) := by decide +kernel
theorem dX7_commonDivisor_15 : decode cX7_commonDivisor 15 = .ok (.lconst 0, 1) := by decide +kernel
theorem dX7_commonDivisor_16 : decode cX7_commonDivisor 16 = .ok (.lcmp, 1) := by decide +kernel
theorem dX7_commonDivisor_17 : decode cX7_commonDivisor 17 = .ok (.ifCond .ge 8, 3) := by decide +kernel
theorem dX7_commonDivisor_20 : decode cX7_commonDivisor 20 = .ok (.lload_n 2, 1) := by decide +kernel
theorem dX7_commonDivisor_21 : decode cX7_commonDivisor 21 = .ok (.lneg, 1) := by decide +kernel
theorem dX7_commonDivisor_22 : decode cX7_commonDivisor 22 = .ok (.goto 4, 3) := by decide +kernel
theorem dX7_commonDivisor_25 : decode cX7_commonDivisor 25 = .ok (.lload_n 2, 1) := by decide +kernel
theorem dX7_commonDivisor_26 : decode cX7_commonDivisor 26 = .ok (.lstore 6, 2) := by decide +kernel
theorem dX7_commonDivisor_28 : decode cX7_commonDivisor 28 = .ok (.iconst 0, 1) := by decide +kernel
theorem dX7_commonDivisor_29 : decode cX7_commonDivisor 29 = .ok (.istore 8, 2) := by decide +kernel
theorem dX7_commonDivisor_31 : decode cX7_commonDivisor 31 = .ok (.iload 8, 2) := by decide +kernel
theorem dX7_commonDivisor_33 : decode cX7_commonDivisor 33 = .ok (.sipush 200, 3) := by decide +kernel
theorem dX7_commonDivisor_36 : decode cX7_commonDivisor 36 = .ok (.if_icmp .ge 31, 3) := by decide +kernel
theorem dX7_commonDivisor_39 : decode cX7_commonDivisor 39 = .ok (.lload 6, 2) := by decide +kernel
theorem dX7_commonDivisor_41 : decode cX7_commonDivisor 41 = .ok (.lconst 0, 1) := by decide +kernel
theorem dX7_commonDivisor_42 : decode cX7_commonDivisor 42 = .ok (.lcmp, 1) := by decide +kernel
theorem dX7_commonDivisor_43 : decode cX7_commonDivisor 43 = .ok (.ifCond .eq 24, 3) := by decide +kernel
theorem dX7_commonDivisor_46 : decode cX7_commonDivisor 46 = .ok (.lload 4, 2) := by decide +kernel
theorem dX7_commonDivisor_48 : decode cX7_commonDivisor 48 = .ok (.lload 6, 2) := by decide +kernel
theorem dX7_commonDivisor_50 : decode cX7_commonDivisor 50 = .ok (.lrem, 1) := by decide +kernel
theorem dX7_commonDivisor_51 : decode cX7_commonDivisor 51 = .ok (.lstore 9, 2) := by decide +kernel
theorem dX7_commonDivisor_53 : decode cX7_commonDivisor 53 = .ok (.lload 6, 2) := by decide +kernel
theorem dX7_commonDivisor_55 : decode cX7_commonDivisor 55 = .ok (.lstore 4, 2) := by decide +kernel
theorem dX7_commonDivisor_57 : decode cX7_commonDivisor 57 = .ok (.lload 9, 2) := by decide +kernel
theorem dX7_commonDivisor_59 : decode cX7_commonDivisor 59 = .ok (.lstore 6, 2) := by decide +kernel
theorem dX7_commonDivisor_61 : decode cX7_commonDivisor 61 = .ok (.iinc 8 1, 3) := by decide +kernel
theorem dX7_commonDivisor_64 : decode cX7_commonDivisor 64 = .ok (.goto (-33), 3) := by decide +kernel
theorem dX7_commonDivisor_67 : decode cX7_commonDivisor 67 = .ok (.lload 4, 2) := by decide +kernel
theorem dX7_commonDivisor_69 : decode cX7_commonDivisor 69 = .ok (.lreturn, 1) := by decide +kernel
