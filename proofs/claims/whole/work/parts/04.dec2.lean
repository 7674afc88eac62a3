theorem dX4_init_0 : decode cX4_init 0 = .ok (.aload_n 0, 1) := by decide +kernel
theorem dX4_init_1 : decode cX4_init 1 = .ok (.invokespecial 3, 3) := by decide +kernel
theorem dX4_init_4 : decode cX4_init 4 = .ok (.aload_n 0, 1) := by decide +kernel
theorem dX4_init_5 : decode cX4_init 5 = .ok (.bipush 8, 2) := by decide +kernel
theorem dX4_init_7 : decode cX4_init 7 = .ok (.newarray .int, 2) := by decide +kernel
theorem dX4_init_9 : decode cX4_init 9 = .ok (.putfield 9, 3) := by decide +kernel
theorem dX4_init_12 : decode cX4_init 12 = .ok (.aload_n 0, 1) := by decide +kernel
theorem dX4_init_13 : decode cX4_init 13 = .ok (.bipush 64, 2) := by decide +kernel
theorem dX4_init_15 : decode cX4_init 15 = .ok (.newarray .int, 2) := by decide +kernel
theorem dX4_init_17 : decode cX4_init 17 = .ok (.putfield 15, 3) := by decide +kernel
theorem dX4_init_20 : decode cX4_init 20 = .ok (.aload_n 0, 1) := by decide +kernel
theorem dX4_init_21 : decode cX4_init 21 = .ok (.bipush 8, 2) := by decide +kernel
theorem dX4_init_23 : decode cX4_init 23 = .ok (.newarray .int, 2) := by decide +kernel
theorem dX4_init_25 : decode cX4_init 25 = .ok (.putfield 18, 3) := by decide +kernel
theorem dX4_init_28 : decode cX4_init 28 = .ok (.aload_n 0, 1) := by decide +kernel
theorem dX4_init_29 : decode cX4_init 29 = .ok (.bipush 8, 2) := by decide +kernel
theorem dX4_init_31 : decode cX4_init 31 = .ok (.newarray .int, 2) := by decide +kernel
theorem dX4_init_33 : decode cX4_init 33 = .ok (.putfield 21, 3) := by decide +kernel
theorem dX4_init_36 : decode cX4_init 36 = .ok (.aload_n 0, 1) := by decide +kernel
theorem dX4_init_37 : decode cX4_init 37 = .ok (.bipush 8, 2) := by decide +kernel
theorem dX4_init_39 : decode cX4_init 39 = .ok (.newarray .int, 2) := by decide +kernel
theorem dX4_init_41 : decode cX4_init 41 = .ok (.putfield 24, 3) := by decide +kernel
theorem dX4_init_44 : decode cX4_init 44 = .ok (.aload_n 0, 1) := by decide +kernel
theorem dX4_init_45 : decode cX4_init 45 = .ok (.sipush 256, 3) := by decide +kernel
theorem dX4_init_48 : decode cX4_init 48 = .ok (.newarray .int, 2) := by decide +kernel
theorem dX4_init_50 : decode cX4_init 50 = .ok (.putfield 27, 3) := by decide +kernel
theorem dX4_init_53 : decode cX4_init 53 = .ok (.aload_n 0, 1) := by decide +kernel
theorem dX4_init_54 : decode cX4_init 54 = .ok (.bipush 8, 2) := by decide +kernel
theorem dX4_init_56 : decode cX4_init 56 = .ok (.newarray .long, 2) := by decide +kernel
theorem dX4_init_58 : decode cX4_init 58 = .ok (.putfield 30, 3) := by decide +kernel
theorem dX4_init_61 : decode cX4_init 61 = .ok (.aload_n 0, 1) := by decide +kernel
theorem dX4_init_62 : decode cX4_init 62 = .ok (.bipush 8, 2) := by decide +kernel
theorem dX4_init_64 : decode cX4_init 64 = .ok (.newarray .long, 2) := by decide +kernel
theorem dX4_init_66 : decode cX4_init 66 = .ok (.putfield 34, 3) := by decide +kernel
theorem dX4_init_69 : decode cX4_init 69 = .ok (.aload_n 0, 1) := by decide +kernel
theorem dX4_init_70 : decode cX4_init 70 = .ok (.aload_n 1, 1) := by decide +kernel
theorem dX4_init_71 : decode cX4_init 71 = .ok (.putfield 37, 3) := by decide +kernel
theorem dX4_init_74 : decode cX4_init 74 = .ok (.aload_n 0, 1) := by decide +kernel
theorem dX4_init_75 : decode cX4_init 75 = .ok (.aload_n 2, 1) := by decide +kernel
theorem dX4_init_76 : decode cX4_init 76 = .ok (.putfield 41, 3) := by decide +kernel
theorem dX4_init_79 : decode cX4_init 79 = .ok (.return_, 1) := by decide +kernel
theorem dX4_holds_0 : decode cX4_holds 0 = .ok (.aload_n 0, 1) := by decide +kernel
theorem dX4_holds_1 : decode cX4_holds 1 = .ok (.getfield 41, 3) := by decide +kernel
theorem dX4_holds_4 : decode cX4_holds 4 = .ok (.getfield 45, 3) := by decide +kernel
theorem dX4_holds_7 : decode cX4_holds 7 = .ok (.iload_n 1, 1) := by decide +kernel
theorem dX4_holds_8 : decode cX4_holds 8 = .ok (.iaload, 1) := by decide +kernel
theorem dX4_holds_9 : decode cX4_holds 9 = .ok (.ifCond .le 7, 3) := by decide +kernel
theorem dX4_holds_12 : decode cX4_holds 12 = .ok (.iconst 1, 1) := by decide +kernel
theorem dX4_holds_13 : decode cX4_holds 13 = .ok (.goto 4, 3) := by decide +kernel
theorem dX4_holds_16 : decode cX4_holds 16 = .ok (.iconst 0, 1) := by decide +kernel
theorem dX4_holds_17 : decode cX4_holds 17 = .ok (.ireturn, 1) := by decide +kernel
theorem dX4_roadsAt_0 : decode cX4_roadsAt 0 = .ok (.iconst 0, 1) := by decide +kernel
theorem dX4_roadsAt_1 : decode cX4_roadsAt 1 = .ok (.istore_n 2, 1) := by decide +kernel
theorem dX4_roadsAt_2 : decode cX4_roadsAt 2 = .ok (.iconst 0, 1) := by decide +kernel
theorem dX4_roadsAt_3 : decode cX4_roadsAt 3 = .ok (.istore_n 3, 1) := by decide +kernel
theorem dX4_roadsAt_4 : decode cX4_roadsAt 4 = .ok (.iload_n 3, 1) := by decide +kernel
theorem dX4_roadsAt_5 : decode cX4_roadsAt 5 = .ok (.aload_n 0, 1) := by decide +kernel
theorem dX4_roadsAt_6 : decode cX4_roadsAt 6 = .ok (.getfield 37, 3) := by decide +kernel
theorem dX4_roadsAt_9 : decode cX4_roadsAt 9 = .ok (.getfield 50, 3) := by decide +kernel
theorem dX4_roadsAt_12 : decode cX4_roadsAt 12 = .ok (.if_icmp .ge 32, 3) := by decide +kernel
theorem dX4_roadsAt_15 : decode cX4_roadsAt 15 = .ok (.aload_n 0, 1) := by decide +kernel
theorem dX4_roadsAt_16 : decode cX4_roadsAt 16 = .ok (.iload_n 3, 1) := by decide +kernel
theorem dX4_roadsAt_17 : decode cX4_roadsAt 17 = .ok (.invokevirtual 56, 3) := by decide +kernel
theorem dX4_roadsAt_20 : decode cX4_roadsAt 20 = .ok (.ifCond .eq 18, 3) := by decide +kernel
theorem dX4_roadsAt_23 : decode cX4_roadsAt 23 = .ok (.aload_n 0, 1) := by decide +kernel
theorem dX4_roadsAt_24 : decode cX4_roadsAt 24 = .ok (.getfield 37, 3) := by decide +kernel
theorem dX4_roadsAt_27 : decode cX4_roadsAt 27 = .ok (.iload_n 3, 1) := by decide +kernel
theorem dX4_roadsAt_28 : decode cX4_roadsAt 28 = .ok (.iload_n 1, 1) := by decide +kernel
theorem dX4_roadsAt_29 : decode cX4_roadsAt 29 = .ok (.invokevirtual 60, 3) := by decide +kernel
theorem dX4_roadsAt_32 : decode cX4_roadsAt 32 = .ok (.ifCond .eq 6, 3) := by decide +kernel
theorem dX4_roadsAt_35 : decode cX4_roadsAt 35 = .ok (.iinc 2 1, 3) := by decide +kernel
theorem dX4_roadsAt_38 : decode cX4_roadsAt 38 = .ok (.iinc 3 1, 3) := by decide +kernel
theorem dX4_roadsAt_41 : decode cX4_roadsAt 41 = .ok (.goto (-37), 3) := by decide +kernel
theorem dX4_roadsAt_44 : decode cX4_roadsAt 44 = .ok (.iload_n 2, 1) := by decide +kernel
theorem dX4_roadsAt_45 : decode cX4_roadsAt 45 = .ok (.ireturn, 1) := by decide +kernel
theorem dX4_spread_0 : decode cX4_spread 0 = .ok (.aload_n 0, 1) := by decide +kernel
theorem dX4_spread_1 : decode cX4_spread 1 = .ok (.getfield 9, 3) := by decide +kernel
theorem dX4_spread_4 : decode cX4_spread 4 = .ok (.ldc 64, 2) := by decide +kernel
theorem dX4_spread_6 : decode cX4_spread 6 = .ok (.invokestatic 65, 3) := by decide +kernel
theorem dX4_spread_9 : decode cX4_spread 9 = .ok (.aload_n 0, 1) := by decide +kernel
theorem dX4_spread_10 : decode cX4_spread 10 = .ok (.getfield 9, 3) := by decide +kernel
theorem dX4_spread_13 : decode cX4_spread 13 = .ok (.iload_n 1, 1) := by decide +kernel
theorem dX4_spread_14 : decode cX4_spread 14 = .ok (.iconst 0, 1) := by decide +kernel
theorem dX4_spread_15 : decode cX4_spread 15 = .ok (.iastore, 1) := by decide +kernel
theorem dX4_spread_16 : decode cX4_spread 16 = .ok (.iconst 1, 1) := by decide +kernel
theorem dX4_spread_17 : decode cX4_spread 17 = .ok (.istore 4, 2) := by decide +kernel
theorem dX4_spread_19 : decode cX4_spread 19 = .ok (.iload 4, 2) := by decide +kernel
theorem dX4_spread_21 : decode cX4_spread 21 = .ok (.bipush 8, 2) := by decide +kernel
theorem dX4_spread_23 : decode cX4_spread 23 = .ok (.if_icmp .ge 144, 3) := by decide +kernel
theorem dX4_spread_26 : decode cX4_spread 26 = .ok (.iconst 0, 1) := by decide +kernel
theorem dX4_spread_27 : decode cX4_spread 27 = .ok (.istore 5, 2) := by decide +kernel
theorem dX4_spread_29 : decode cX4_spread 29 = .ok (.iload 5, 2) := by decide +kernel
theorem dX4_spread_31 : decode cX4_spread 31 = .ok (.aload_n 0, 1) := by decide +kernel
theorem dX4_spread_32 : decode cX4_spread 32 = .ok (.getfield 37, 3) := by decide +kernel
theorem dX4_spread_35 : decode cX4_spread 35 = .ok (.getfield 50, 3) := by decide +kernel
theorem dX4_spread_38 : decode cX4_spread 38 = .ok (.if_icmp .ge 123, 3) := by decide +kernel
theorem dX4_spread_41 : decode cX4_spread 41 = .ok (.iload 5, 2) := by decide +kernel
theorem dX4_spread_43 : decode cX4_spread 43 = .ok (.iload_n 3, 1) := by decide +kernel
theorem dX4_spread_44 : decode cX4_spread 44 = .ok (.if_icmp .eq 111, 3) := by decide +kernel
theorem dX4_spread_47 : decode cX4_spread 47 = .ok (.aload_n 0, 1) := by decide +kernel
theorem dX4_spread_48 : decode cX4_spread 48 = .ok (.getfield 41, 3) := by decide +kernel
theorem dX4_spread_51 : decode cX4_spread 51 = .ok (.getfield 45, 3) := by decide +kernel
theorem dX4_spread_54 : decode cX4_spread 54 = .ok (.iload 5, 2) := by decide +kernel
theorem dX4_spread_56 : decode cX4_spread 56 = .ok (.iaload, 1) := by decide +kernel
theorem dX4_spread_57 : decode cX4_spread 57 = .ok (.iload_n 2, 1) := by decide +kernel
theorem dX4_spread_58 : decode cX4_spread 58 = .ok (.if_icmp .lt 97, 3) := by decide +kernel
theorem dX4_spread_61 : decode cX4_spread 61 = .ok (.aload_n 0, 1) := by decide +kernel
theorem dX4_spread_62 : decode cX4_spread 62 = .ok (.getfield 37, 3) := by decide +kernel
theorem dX4_spread_65 : decode cX4_spread 65 = .ok (.getfield 71, 3) := by decide +kernel
theorem dX4_spread_68 : decode cX4_spread 68 = .ok (.iload 5, 2) := by decide +kernel
theorem dX4_spread_70 : decode cX4_spread 70 = .ok (.iaload, 1) := by decide +kernel
theorem dX4_spread_71 : decode cX4_spread 71 = .ok (.istore 6, 2) := by decide +kernel
theorem dX4_spread_73 : decode cX4_spread 73 = .ok (.aload_n 0, 1) := by decide +kernel
theorem dX4_spread_74 : decode cX4_spread 74 = .ok (.getfield 37, 3) := by decide +kernel
theorem dX4_spread_77 : decode cX4_spread 77 = .ok (.getfield 74, 3) := by decide +kernel
theorem dX4_spread_80 : decode cX4_spread 80 = .ok (.iload 5, 2) := by decide +kernel
theorem dX4_spread_82 : decode cX4_spread 82 = .ok (.iaload, 1) := by decide +kernel
theorem dX4_spread_83 : decode cX4_spread 83 = .ok (.istore 7, 2) := by decide +kernel
theorem dX4_spread_85 : decode cX4_spread 85 = .ok (.aload_n 0, 1) := by decide +kernel
theorem dX4_spread_86 : decode cX4_spread 86 = .ok (.getfield 9, 3) := by decide +kernel
theorem dX4_spread_89 : decode cX4_spread 89 = .ok (.iload 6, 2) := by decide +kernel
theorem dX4_spread_91 : decode cX4_spread 91 = .ok (.aload_n 0, 1) := by decide +kernel
theorem dX4_spread_92 : decode cX4_spread 92 = .ok (.getfield 9, 3) := by decide +kernel
theorem dX4_spread_95 : decode cX4_spread 95 = .ok (.iload 6, 2) := by decide +kernel
theorem dX4_spread_97 : decode cX4_spread 97 = .ok (.iaload, 1) := by decide +kernel
theorem dX4_spread_98 : decode cX4_spread 98 = .ok (.aload_n 0, 1) := by decide +kernel
theorem dX4_spread_99 : decode cX4_spread 99 = .ok (.getfield 9, 3) := by decide +kernel
theorem dX4_spread_102 : decode cX4_spread 102 = .ok (.iload 7, 2) := by decide +kernel
theorem dX4_spread_104 : decode cX4_spread 104 = .ok (.iaload, 1) := by decide +kernel
theorem dX4_spread_105 : decode cX4_spread 105 = .ok (.aload_n 0, 1) := by decide +kernel
theorem dX4_spread_106 : decode cX4_spread 106 = .ok (.getfield 37, 3) := by decide +kernel
theorem dX4_spread_109 : decode cX4_spread 109 = .ok (.getfield 77, 3) := by decide +kernel
theorem dX4_spread_112 : decode cX4_spread 112 = .ok (.iload 5, 2) := by decide +kernel
theorem dX4_spread_114 : decode cX4_spread 114 = .ok (.iaload, 1) := by decide +kernel
theorem dX4_spread_115 : decode cX4_spread 115 = .ok (.iadd, 1) := by decide +kernel
theorem dX4_spread_116 : decode cX4_spread 116 = .ok (.invokestatic 80, 3) := by decide +kernel
theorem dX4_spread_119 : decode cX4_spread 119 = .ok (.iastore, 1) := by decide +kernel
theorem dX4_spread_120 : decode cX4_spread 120 = .ok (.aload_n 0, 1) := by decide +kernel
theorem dX4_spread_121 : decode cX4_spread 121 = .ok (.getfield 9, 3) := by decide +kernel
theorem dX4_spread_124 : decode cX4_spread 124 = .ok (.iload 7, 2) := by decide +kernel
theorem dX4_spread_126 : decode cX4_spread 126 = .ok (.aload_n 0, 1) := by decide +kernel
theorem dX4_spread_127 : decode cX4_spread 127 = .ok (.getfield 9, 3) := by decide +kernel
theorem dX4_spread_130 : decode cX4_spread 130 = .ok (.iload 7, 2) := by decide +kernel
theorem dX4_spread_132 : decode cX4_spread 132 = .ok (.iaload, 1) := by decide +kernel
theorem dX4_spread_133 : decode cX4_spread 133 = .ok (.aload_n 0, 1) := by decide +kernel
theorem dX4_spread_134 : decode cX4_spread 134 = .ok (.getfield 9, 3) := by decide +kernel
theorem dX4_spread_137 : decode cX4_spread 137 = .ok (.iload 6, 2) := by decide +kernel
theorem dX4_spread_139 : decode cX4_spread 139 = .ok (.iaload, 1) := by decide +kernel
theorem dX4_spread_140 : decode cX4_spread 140 = .ok (.aload_n 0, 1) := by decide +kernel
theorem dX4_spread_141 : decode cX4_spread 141 = .ok (.getfield 37, 3) := by decide +kernel
theorem dX4_spread_144 : decode cX4_spread 144 = .ok (.getfield 77, 3) := by decide +kernel
theorem dX4_spread_147 : decode cX4_spread 147 = .ok (.iload 5, 2) := by decide +kernel
theorem dX4_spread_149 : decode cX4_spread 149 = .ok (.iaload, 1) := by decide +kernel
theorem dX4_spread_150 : decode cX4_spread 150 = .ok (.iadd, 1) := by decide +kernel
theorem dX4_spread_151 : decode cX4_spread 151 = .ok (.invokestatic 80, 3) := by decide +kernel
theorem dX4_spread_154 : decode cX4_spread 154 = .ok (.iastore, 1) := by decide +kernel
theorem dX4_spread_155 : decode cX4_spread 155 = .ok (.iinc 5 1, 3) := by decide +kernel
theorem dX4_spread_158 : decode cX4_spread 158 = .ok (.goto (-129), 3) := by decide +kernel
theorem dX4_spread_161 : decode cX4_spread 161 = .ok (.iinc 4 1, 3) := by decide +kernel
theorem dX4_spread_164 : decode cX4_spread 164 = .ok (.goto (-145), 3) := by decide +kernel
theorem dX4_spread_167 : decode cX4_spread 167 = .ok (.return_, 1) := by decide +kernel
theorem dX4_milesBetween_0 : decode cX4_milesBetween 0 = .ok (.aload_n 0, 1) := by decide +kernel
theorem dX4_milesBetween_1 : decode cX4_milesBetween 1 = .ok (.iload_n 1, 1) := by decide +kernel
theorem dX4_milesBetween_2 : decode cX4_milesBetween 2 = .ok (.iload_n 3, 1) := by decide +kernel
theorem dX4_milesBetween_3 : decode cX4_milesBetween 3 = .ok (.iconst (-1), 1) := by decide +kernel
theorem dX4_milesBetween_4 : decode cX4_milesBetween 4 = .ok (.invokevirtual 86, 3) := by decide +kernel
theorem dX4_milesBetween_7 : decode cX4_milesBetween 7 = .ok (.aload_n 0, 1) := by decide +kernel
theorem dX4_milesBetween_8 : decode cX4_milesBetween 8 = .ok (.getfield 9, 3) := by decide +kernel
theorem dX4_milesBetween_11 : decode cX4_milesBetween 11 = .ok (.iload_n 2, 1) := by decide +kernel
theorem dX4_milesBetween_12 : decode cX4_milesBetween 12 = .ok (.iaload, 1) := by decide +kernel
theorem dX4_milesBetween_13 : decode cX4_milesBetween 13 = .ok (.ldc 64, 2) := by decide +kernel
theorem dX4_milesBetween_15 : decode cX4_milesBetween 15 = .ok (.if_icmp .ge 12, 3) := by decide +kernel
theorem dX4_milesBetween_18 : decode cX4_milesBetween 18 = .ok (.aload_n 0, 1) := by decide +kernel
theorem dX4_milesBetween_19 : decode cX4_milesBetween 19 = .ok (.getfield 9, 3) := by decide +kernel
theorem dX4_milesBetween_22 : decode cX4_milesBetween 22 = .ok (.iload_n 2, 1) := by decide +kernel
theorem dX4_milesBetween_23 : decode cX4_milesBetween 23 = .ok (.iaload, 1) := by decide +kernel
theorem dX4_milesBetween_24 : decode cX4_milesBetween 24 = .ok (.goto 4, 3) := by decide +kernel
theorem dX4_milesBetween_27 : decode cX4_milesBetween 27 = .ok (.iconst (-1), 1) := by decide +kernel
theorem dX4_milesBetween_28 : decode cX4_milesBetween 28 = .ok (.ireturn, 1) := by decide +kernel
theorem dX4_roadOfWay_0 : decode cX4_roadOfWay 0 = .ok (.aload_n 0, 1) := by decide +kernel
theorem dX4_roadOfWay_1 : decode cX4_roadOfWay 1 = .ok (.iload_n 2, 1) := by decide +kernel
theorem dX4_roadOfWay_2 : decode cX4_roadOfWay 2 = .ok (.iload_n 3, 1) := by decide +kernel
theorem dX4_roadOfWay_3 : decode cX4_roadOfWay 3 = .ok (.iconst (-1), 1) := by decide +kernel
theorem dX4_roadOfWay_4 : decode cX4_roadOfWay 4 = .ok (.invokevirtual 86, 3) := by decide +kernel
theorem dX4_roadOfWay_7 : decode cX4_roadOfWay 7 = .ok (.iload_n 1, 1) := by decide +kernel
theorem dX4_roadOfWay_8 : decode cX4_roadOfWay 8 = .ok (.istore 5, 2) := by decide +kernel
theorem dX4_roadOfWay_10 : decode cX4_roadOfWay 10 = .ok (.iconst 0, 1) := by decide +kernel
theorem dX4_roadOfWay_11 : decode cX4_roadOfWay 11 = .ok (.istore 6, 2) := by decide +kernel
theorem dX4_roadOfWay_13 : decode cX4_roadOfWay 13 = .ok (.iload 6, 2) := by decide +kernel
theorem dX4_roadOfWay_15 : decode cX4_roadOfWay 15 = .ok (.bipush 8, 2) := by decide +kernel
theorem dX4_roadOfWay_17 : decode cX4_roadOfWay 17 = .ok (.if_icmp .ge 50, 3) := by decide +kernel
theorem dX4_roadOfWay_20 : decode cX4_roadOfWay 20 = .ok (.aload_n 0, 1) := by decide +kernel
theorem dX4_roadOfWay_21 : decode cX4_roadOfWay 21 = .ok (.iload 5, 2) := by decide +kernel
theorem dX4_roadOfWay_23 : decode cX4_roadOfWay 23 = .ok (.iload_n 3, 1) := by decide +kernel
theorem dX4_roadOfWay_24 : decode cX4_roadOfWay 24 = .ok (.invokevirtual 90, 3) := by decide +kernel
theorem dX4_roadOfWay_27 : decode cX4_roadOfWay 27 = .ok (.istore 7, 2) := by decide +kernel
theorem dX4_roadOfWay_29 : decode cX4_roadOfWay 29 = .ok (.iload 7, 2) := by decide +kernel
theorem dX4_roadOfWay_31 : decode cX4_roadOfWay 31 = .ok (.iconst (-1), 1) := by decide +kernel
theorem dX4_roadOfWay_32 : decode cX4_roadOfWay 32 = .ok (.if_icmp .ne 6, 3) := by decide +kernel
theorem dX4_roadOfWay_35 : decode cX4_roadOfWay 35 = .ok (.bipush (-2), 2) := by decide +kernel
theorem dX4_roadOfWay_37 : decode cX4_roadOfWay 37 = .ok (.ireturn, 1) := by decide +kernel
theorem dX4_roadOfWay_38 : decode cX4_roadOfWay 38 = .ok (.iload 6, 2) := by decide +kernel
theorem dX4_roadOfWay_40 : decode cX4_roadOfWay 40 = .ok (.iload 4, 2) := by decide +kernel
theorem dX4_roadOfWay_42 : decode cX4_roadOfWay 42 = .ok (.if_icmp .ne 6, 3) := by decide +kernel
theorem dX4_roadOfWay_45 : decode cX4_roadOfWay 45 = .ok (.iload 7, 2) := by decide +kernel
theorem dX4_roadOfWay_47 : decode cX4_roadOfWay 47 = .ok (.ireturn, 1) := by decide +kernel
theorem dX4_roadOfWay_48 : decode cX4_roadOfWay 48 = .ok (.aload_n 0, 1) := by decide +kernel
theorem dX4_roadOfWay_49 : decode cX4_roadOfWay 49 = .ok (.getfield 37, 3) := by decide +kernel
theorem dX4_roadOfWay_52 : decode cX4_roadOfWay 52 = .ok (.iload 7, 2) := by decide +kernel
theorem dX4_roadOfWay_54 : decode cX4_roadOfWay 54 = .ok (.iload 5, 2) := by decide +kernel
theorem dX4_roadOfWay_56 : decode cX4_roadOfWay 56 = .ok (.invokevirtual 93, 3) := by decide +kernel
theorem dX4_roadOfWay_59 : decode cX4_roadOfWay 59 = .ok (.istore 5, 2) := by decide +kernel
theorem dX4_roadOfWay_61 : decode cX4_roadOfWay 61 = .ok (.iinc 6 1, 3) := by decide +kernel
theorem dX4_roadOfWay_64 : decode cX4_roadOfWay 64 = .ok (.goto (-51), 3) := by decide +kernel
theorem dX4_roadOfWay_67 : decode cX4_roadOfWay 67 = .ok (.bipush (-2), 2) := by decide +kernel
theorem dX4_roadOfWay_69 : decode cX4_roadOfWay 69 = .ok (.ireturn, 1) := by decide +kernel
theorem dX4_roadTowards_0 : decode cX4_roadTowards 0 = .ok (.iconst 0, 1) := by decide +kernel
theorem dX4_roadTowards_1 : decode cX4_roadTowards 1 = .ok (.istore_n 3, 1) := by decide +kernel
theorem dX4_roadTowards_2 : decode cX4_roadTowards 2 = .ok (.iload_n 3, 1) := by decide +kernel
theorem dX4_roadTowards_3 : decode cX4_roadTowards 3 = .ok (.aload_n 0, 1) := by decide +kernel
theorem dX4_roadTowards_4 : decode cX4_roadTowards 4 = .ok (.getfield 37, 3) := by decide +kernel
theorem dX4_roadTowards_7 : decode cX4_roadTowards 7 = .ok (.getfield 50, 3) := by decide +kernel
theorem dX4_roadTowards_10 : decode cX4_roadTowards 10 = .ok (.if_icmp .ge 80, 3) := by decide +kernel
theorem dX4_roadTowards_13 : decode cX4_roadTowards 13 = .ok (.aload_n 0, 1) := by decide +kernel
theorem dX4_roadTowards_14 : decode cX4_roadTowards 14 = .ok (.getfield 41, 3) := by decide +kernel
theorem dX4_roadTowards_17 : decode cX4_roadTowards 17 = .ok (.getfield 45, 3) := by decide +kernel
theorem dX4_roadTowards_20 : decode cX4_roadTowards 20 = .ok (.iload_n 3, 1) := by decide +kernel
theorem dX4_roadTowards_21 : decode cX4_roadTowards 21 = .ok (.iaload, 1) := by decide +kernel
theorem dX4_roadTowards_22 : decode cX4_roadTowards 22 = .ok (.iload_n 2, 1) := by decide +kernel
theorem dX4_roadTowards_23 : decode cX4_roadTowards 23 = .ok (.if_icmp .lt 61, 3) := by decide +kernel
theorem dX4_roadTowards_26 : decode cX4_roadTowards 26 = .ok (.aload_n 0, 1) := by decide +kernel
theorem dX4_roadTowards_27 : decode cX4_roadTowards 27 = .ok (.getfield 37, 3) := by decide +kernel
theorem dX4_roadTowards_30 : decode cX4_roadTowards 30 = .ok (.iload_n 3, 1) := by decide +kernel
theorem dX4_roadTowards_31 : decode cX4_roadTowards 31 = .ok (.iload_n 1, 1) := by decide +kernel
theorem dX4_roadTowards_32 : decode cX4_roadTowards 32 = .ok (.invokevirtual 60, 3) := by decide +kernel
theorem dX4_roadTowards_35 : decode cX4_roadTowards 35 = .ok (.ifCond .eq 49, 3) := by decide +kernel
theorem dX4_roadTowards_38 : decode cX4_roadTowards 38 = .ok (.aload_n 0, 1) := by decide +kernel
theorem dX4_roadTowards_39 : decode cX4_roadTowards 39 = .ok (.getfield 9, 3) := by decide +kernel
theorem dX4_roadTowards_42 : decode cX4_roadTowards 42 = .ok (.aload_n 0, 1) := by decide +kernel
theorem dX4_roadTowards_43 : decode cX4_roadTowards 43 = .ok (.getfield 37, 3) := by decide +kernel
theorem dX4_roadTowards_46 : decode cX4_roadTowards 46 = .ok (.iload_n 3, 1) := by decide +kernel
theorem dX4_roadTowards_47 : decode cX4_roadTowards 47 = .ok (.iload_n 1, 1) := by decide +kernel
theorem dX4_roadTowards_48 : decode cX4_roadTowards 48 = .ok (.invokevirtual 93, 3) := by decide +kernel
theorem dX4_roadTowards_51 : decode cX4_roadTowards 51 = .ok (.iaload, 1) := by decide +kernel
theorem dX4_roadTowards_52 : decode cX4_roadTowards 52 = .ok (.istore 4, 2) := by decide +kernel
theorem dX4_roadTowards_54 : decode cX4_roadTowards 54 = .ok (.iload 4, 2) := by decide +kernel
theorem dX4_roadTowards_56 : decode cX4_roadTowards 56 = .ok (.ldc 64, 2) := by decide +kernel
theorem dX4_roadTowards_58 : decode cX4_roadTowards 58 = .ok (.if_icmp .ge 26, 3) := by decide +kernel
theorem dX4_roadTowards_61 : decode cX4_roadTowards 61 = .ok (.iload 4, 2) := by decide +kernel
theorem dX4_roadTowards_63 : decode cX4_roadTowards 63 = .ok (.aload_n 0, 1) := by decide +kernel
theorem dX4_roadTowards_64 : decode cX4_roadTowards 64 = .ok (.getfield 37, 3) := by decide +kernel
theorem dX4_roadTowards_67 : decode cX4_roadTowards 67 = .ok (.getfield 77, 3) := by decide +kernel
theorem dX4_roadTowards_70 : decode cX4_roadTowards 70 = .ok (.iload_n 3, 1) := by decide +kernel
theorem dX4_roadTowards_71 : decode cX4_roadTowards 71 = .ok (.iaload, 1) := by decide +kernel
theorem dX4_roadTowards_72 : decode cX4_roadTowards 72 = .ok (.iadd, 1) := by decide +kernel
theorem dX4_roadTowards_73 : decode cX4_roadTowards 73 = .ok (.aload_n 0, 1) := by decide +kernel
theorem dX4_roadTowards_74 : decode cX4_roadTowards 74 = .ok (.getfield 9, 3) := by decide +kernel
theorem dX4_roadTowards_77 : decode cX4_roadTowards 77 = .ok (.iload_n 1, 1) := by decide +kernel
theorem dX4_roadTowards_78 : decode cX4_roadTowards 78 = .ok (.iaload, 1) := by decide +kernel
theorem dX4_roadTowards_79 : decode cX4_roadTowards 79 = .ok (.if_icmp .ne 5, 3) := by decide +kernel
theorem dX4_roadTowards_82 : decode cX4_roadTowards 82 = .ok (.iload_n 3, 1) := by decide +kernel
theorem dX4_roadTowards_83 : decode cX4_roadTowards 83 = .ok (.ireturn, 1) := by decide +kernel
theorem dX4_roadTowards_84 : decode cX4_roadTowards 84 = .ok (.iinc 3 1, 3) := by decide +kernel
theorem dX4_roadTowards_87 : decode cX4_roadTowards 87 = .ok (.goto (-85), 3) := by decide +kernel
theorem dX4_roadTowards_90 : decode cX4_roadTowards 90 = .ok (.iconst (-1), 1) := by decide +kernel
theorem dX4_roadTowards_91 : decode cX4_roadTowards 91 = .ok (.ireturn, 1) := by decide +kernel
theorem dX4_widthBetween_0 : decode cX4_widthBetween 0 = .ok (.aload_n 0, 1) := by decide +kernel
theorem dX4_widthBetween_1 : decode cX4_widthBetween 1 = .ok (.getfield 18, 3) := by decide +kernel
theorem dX4_widthBetween_4 : decode cX4_widthBetween 4 = .ok (.iconst (-1), 1) := by decide +kernel
theorem dX4_widthBetween_5 : decode cX4_widthBetween 5 = .ok (.invokestatic 65, 3) := by decide +kernel
theorem dX4_widthBetween_8 : decode cX4_widthBetween 8 = .ok (.aload_n 0, 1) := by decide +kernel
theorem dX4_widthBetween_9 : decode cX4_widthBetween 9 = .ok (.getfield 18, 3) := by decide +kernel
theorem dX4_widthBetween_12 : decode cX4_widthBetween 12 = .ok (.iload_n 1, 1) := by decide +kernel
theorem dX4_widthBetween_13 : decode cX4_widthBetween 13 = .ok (.bipush 99, 2) := by decide +kernel
theorem dX4_widthBetween_15 : decode cX4_widthBetween 15 = .ok (.iastore, 1) := by decide +kernel
theorem dX4_widthBetween_16 : decode cX4_widthBetween 16 = .ok (.iconst 1, 1) := by decide +kernel
theorem dX4_widthBetween_17 : decode cX4_widthBetween 17 = .ok (.istore_n 3, 1) := by decide +kernel
theorem dX4_widthBetween_18 : decode cX4_widthBetween 18 = .ok (.iload_n 3, 1) := by decide +kernel
theorem dX4_widthBetween_19 : decode cX4_widthBetween 19 = .ok (.bipush 8, 2) := by decide +kernel
theorem dX4_widthBetween_21 : decode cX4_widthBetween 21 = .ok (.if_icmp .ge 128, 3) := by decide +kernel
theorem dX4_widthBetween_24 : decode cX4_widthBetween 24 = .ok (.iconst 0, 1) := by decide +kernel
theorem dX4_widthBetween_25 : decode cX4_widthBetween 25 = .ok (.istore 4, 2) := by decide +kernel
theorem dX4_widthBetween_27 : decode cX4_widthBetween 27 = .ok (.iload 4, 2) := by decide +kernel
theorem dX4_widthBetween_29 : decode cX4_widthBetween 29 = .ok (.aload_n 0, 1) := by decide +kernel
theorem dX4_widthBetween_30 : decode cX4_widthBetween 30 = .ok (.getfield 37, 3) := by decide +kernel
theorem dX4_widthBetween_33 : decode cX4_widthBetween 33 = .ok (.getfield 50, 3) := by decide +kernel
theorem dX4_widthBetween_36 : decode cX4_widthBetween 36 = .ok (.if_icmp .ge 107, 3) := by decide +kernel
theorem dX4_widthBetween_39 : decode cX4_widthBetween 39 = .ok (.aload_n 0, 1) := by decide +kernel
theorem dX4_widthBetween_40 : decode cX4_widthBetween 40 = .ok (.getfield 37, 3) := by decide +kernel
theorem dX4_widthBetween_43 : decode cX4_widthBetween 43 = .ok (.getfield 71, 3) := by decide +kernel
theorem dX4_widthBetween_46 : decode cX4_widthBetween 46 = .ok (.iload 4, 2) := by decide +kernel
theorem dX4_widthBetween_48 : decode cX4_widthBetween 48 = .ok (.iaload, 1) := by decide +kernel
theorem dX4_widthBetween_49 : decode cX4_widthBetween 49 = .ok (.istore 5, 2) := by decide +kernel
theorem dX4_widthBetween_51 : decode cX4_widthBetween 51 = .ok (.aload_n 0, 1) := by decide +kernel
theorem dX4_widthBetween_52 : decode cX4_widthBetween 52 = .ok (.getfield 37, 3) := by decide +kernel
theorem dX4_widthBetween_55 : decode cX4_widthBetween 55 = .ok (.getfield 74, 3) := by decide +kernel
theorem dX4_widthBetween_58 : decode cX4_widthBetween 58 = .ok (.iload 4, 2) := by decide +kernel
theorem dX4_widthBetween_60 : decode cX4_widthBetween 60 = .ok (.iaload, 1) := by decide +kernel
theorem dX4_widthBetween_61 : decode cX4_widthBetween 61 = .ok (.istore 6, 2) := by decide +kernel
theorem dX4_widthBetween_63 : decode cX4_widthBetween 63 = .ok (.aload_n 0, 1) := by decide +kernel
theorem dX4_widthBetween_64 : decode cX4_widthBetween 64 = .ok (.getfield 18, 3) := by decide +kernel
theorem dX4_widthBetween_67 : decode cX4_widthBetween 67 = .ok (.iload 5, 2) := by decide +kernel
theorem dX4_widthBetween_69 : decode cX4_widthBetween 69 = .ok (.aload_n 0, 1) := by decide +kernel
theorem dX4_widthBetween_70 : decode cX4_widthBetween 70 = .ok (.getfield 18, 3) := by decide +kernel
theorem dX4_widthBetween_73 : decode cX4_widthBetween 73 = .ok (.iload 5, 2) := by decide +kernel
theorem dX4_widthBetween_75 : decode cX4_widthBetween 75 = .ok (.iaload, 1) := by decide +kernel
theorem dX4_widthBetween_76 : decode cX4_widthBetween 76 = .ok (.aload_n 0, 1) := by decide +kernel
theorem dX4_widthBetween_77 : decode cX4_widthBetween 77 = .ok (.getfield 18, 3) := by decide +kernel
theorem dX4_widthBetween_80 : decode cX4_widthBetween 80 = .ok (.iload 6, 2) := by decide +kernel
theorem dX4_widthBetween_82 : decode cX4_widthBetween 82 = .ok (.iaload, 1) := by decide +kernel
theorem dX4_widthBetween_83 : decode cX4_widthBetween 83 = .ok (.aload_n 0, 1) := by decide +kernel
theorem dX4_widthBetween_84 : decode cX4_widthBetween 84 = .ok (.getfield 41, 3) := by decide +kernel
theorem dX4_widthBetween_87 : decode cX4_widthBetween 87 = .ok (.getfield 45, 3) := by decide +kernel
theorem dX4_widthBetween_90 : decode cX4_widthBetween 90 = .ok (.iload 4, 2) := by decide +kernel
theorem dX4_widthBetween_92 : decode cX4_widthBetween 92 = .ok (.iaload, 1) := by decide +kernel
theorem dX4_widthBetween_93 : decode cX4_widthBetween 93 = .ok (.invokestatic 80, 3) := by decide +kernel
theorem dX4_widthBetween_96 : decode cX4_widthBetween 96 = .ok (.invokestatic 96, 3) := by decide +kernel
theorem dX4_widthBetween_99 : decode cX4_widthBetween 99 = .ok (.iastore, 1) := by decide +kernel
theorem dX4_widthBetween_100 : decode cX4_widthBetween 100 = .ok (.aload_n 0, 1) := by decide +kernel
theorem dX4_widthBetween_101 : decode cX4_widthBetween 101 = .ok (.getfield 18, 3) := by decide +kernel
theorem dX4_widthBetween_104 : decode cX4_widthBetween 104 = .ok (.iload 6, 2) := by decide +kernel
theorem dX4_widthBetween_106 : decode cX4_widthBetween 106 = .ok (.aload_n 0, 1) := by decide +kernel
theorem dX4_widthBetween_107 : decode cX4_widthBetween 107 = .ok (.getfield 18, 3) := by decide +kernel
theorem dX4_widthBetween_110 : decode cX4_widthBetween 110 = .ok (.iload 6, 2) := by decide +kernel
theorem dX4_widthBetween_112 : decode cX4_widthBetween 112 = .ok (.iaload, 1) := by decide +kernel
theorem dX4_widthBetween_113 : decode cX4_widthBetween 113 = .ok (.aload_n 0, 1) := by decide +kernel
theorem dX4_widthBetween_114 : decode cX4_widthBetween 114 = .ok (.getfield 18, 3) := by decide +kernel
theorem dX4_widthBetween_117 : decode cX4_widthBetween 117 = .ok (.iload 5, 2) := by decide +kernel
theorem dX4_widthBetween_119 : decode cX4_widthBetween 119 = .ok (.iaload, 1) := by decide +kernel
theorem dX4_widthBetween_120 : decode cX4_widthBetween 120 = .ok (.aload_n 0, 1) := by decide +kernel
theorem dX4_widthBetween_121 : decode cX4_widthBetween 121 = .ok (.getfield 41, 3) := by decide +kernel
theorem dX4_widthBetween_124 : decode cX4_widthBetween 124 = .ok (.getfield 45, 3) := by decide +kernel
theorem dX4_widthBetween_127 : decode cX4_widthBetween 127 = .ok (.iload 4, 2) := by decide +kernel
theorem dX4_widthBetween_129 : decode cX4_widthBetween 129 = .ok (.iaload, 1) := by decide +kernel
theorem dX4_widthBetween_130 : decode cX4_widthBetween 130 = .ok (.invokestatic 80, 3) := by decide +kernel
theorem dX4_widthBetween_133 : decode cX4_widthBetween 133 = .ok (.invokestatic 96, 3) := by decide +kernel
theorem dX4_widthBetween_136 : decode cX4_widthBetween 136 = .ok (.iastore, 1) := by decide +kernel
theorem dX4_widthBetween_137 : decode cX4_widthBetween 137 = .ok (.iinc 4 1, 3) := by decide +kernel
theorem dX4_widthBetween_140 : decode cX4_widthBetween 140 = .ok (.goto (-113), 3) := by decide +kernel
theorem dX4_widthBetween_143 : decode cX4_widthBetween 143 = .ok (.iinc 3 1, 3) := by decide +kernel
theorem dX4_widthBetween_146 : decode cX4_widthBetween 146 = .ok (.goto (-128), 3) := by decide +kernel
theorem dX4_widthBetween_149 : decode cX4_widthBetween 149 = .ok (.aload_n 0, 1) := by decide +kernel
theorem dX4_widthBetween_150 : decode cX4_widthBetween 150 = .ok (.getfield 18, 3) := by decide +kernel
theorem dX4_widthBetween_153 : decode cX4_widthBetween 153 = .ok (.iload_n 2, 1) := by decide +kernel
theorem dX4_widthBetween_154 : decode cX4_widthBetween 154 = .ok (.iaload, 1) := by decide +kernel
theorem dX4_widthBetween_155 : decode cX4_widthBetween 155 = .ok (.ireturn, 1) := by decide +kernel
theorem dX4_thickAround_0 : decode cX4_thickAround 0 = .ok (.iconst 0, 1) := by decide +kernel
theorem dX4_thickAround_1 : decode cX4_thickAround 1 = .ok (.istore_n 2, 1) := by decide +kernel
theorem dX4_thickAround_2 : decode cX4_thickAround 2 = .ok (.iconst 0, 1) := by decide +kernel
theorem dX4_thickAround_3 : decode cX4_thickAround 3 = .ok (.istore_n 3, 1) := by decide +kernel
theorem dX4_thickAround_4 : decode cX4_thickAround 4 = .ok (.iload_n 3, 1) := by decide +kernel
theorem dX4_thickAround_5 : decode cX4_thickAround 5 = .ok (.aload_n 0, 1) := by decide +kernel
theorem dX4_thickAround_6 : decode cX4_thickAround 6 = .ok (.getfield 37, 3) := by decide +kernel
theorem dX4_thickAround_9 : decode cX4_thickAround 9 = .ok (.getfield 50, 3) := by decide +kernel
theorem dX4_thickAround_12 : decode cX4_thickAround 12 = .ok (.if_icmp .ge 50, 3) := by decide +kernel
theorem dX4_thickAround_15 : decode cX4_thickAround 15 = .ok (.iload_n 1, 1) := by decide +kernel
theorem dX4_thickAround_16 : decode cX4_thickAround 16 = .ok (.aload_n 0, 1) := by decide +kernel
theorem dX4_thickAround_17 : decode cX4_thickAround 17 = .ok (.getfield 37, 3) := by decide +kernel
theorem dX4_thickAround_20 : decode cX4_thickAround 20 = .ok (.getfield 71, 3) := by decide +kernel
theorem dX4_thickAround_23 : decode cX4_thickAround 23 = .ok (.iload_n 3, 1) := by decide +kernel
theorem dX4_thickAround_24 : decode cX4_thickAround 24 = .ok (.iaload, 1) := by decide +kernel
theorem dX4_thickAround_25 : decode cX4_thickAround 25 = .ok (.ishr, 1) := by decide +kernel
theorem dX4_thickAround_26 : decode cX4_thickAround 26 = .ok (.iconst 1, 1) := by decide +kernel
theorem dX4_thickAround_27 : decode cX4_thickAround 27 = .ok (.iand, 1) := by decide +kernel
theorem dX4_thickAround_28 : decode cX4_thickAround 28 = .ok (.iload_n 1, 1) := by decide +kernel
theorem dX4_thickAround_29 : decode cX4_thickAround 29 = .ok (.aload_n 0, 1) := by decide +kernel
theorem dX4_thickAround_30 : decode cX4_thickAround 30 = .ok (.getfield 37, 3) := by decide +kernel
theorem dX4_thickAround_33 : decode cX4_thickAround 33 = .ok (.getfield 74, 3) := by decide +kernel
theorem dX4_thickAround_36 : decode cX4_thickAround 36 = .ok (.iload_n 3, 1) := by decide +kernel
theorem dX4_thickAround_37 : decode cX4_thickAround 37 = .ok (.iaload, 1) := by decide +kernel
theorem dX4_thickAround_38 : decode cX4_thickAround 38 = .ok (.ishr, 1) := by decide +kernel
theorem dX4_thickAround_39 : decode cX4_thickAround 39 = .ok (.iconst 1, 1) := by decide +kernel
theorem dX4_thickAround_40 : decode cX4_thickAround 40 = .ok (.iand, 1) := by decide +kernel
theorem dX4_thickAround_41 : decode cX4_thickAround 41 = .ok (.if_icmp .eq 15, 3) := by decide +kernel
theorem dX4_thickAround_44 : decode cX4_thickAround 44 = .ok (.iload_n 2, 1) := by decide +kernel
theorem dX4_thickAround_45 : decode cX4_thickAround 45 = .ok (.aload_n 0, 1) := by decide +kernel
theorem dX4_thickAround_46 : decode cX4_thickAround 46 = .ok (.getfield 41, 3) := by decide +kernel
theorem dX4_thickAround_49 : decode cX4_thickAround 49 = .ok (.getfield 45, 3) := by decide +kernel
theorem dX4_thickAround_52 : decode cX4_thickAround 52 = .ok (.iload_n 3, 1) := by decide +kernel
theorem dX4_thickAround_53 : decode cX4_thickAround 53 = .ok (.iaload, 1) := by decide +kernel
theorem dX4_thickAround_54 : decode cX4_thickAround 54 = .ok (.iadd, 1) := by decide +kernel
theorem dX4_thickAround_55 : decode cX4_thickAround 55 = .ok (.istore_n 2, 1) := by decide +kernel
theorem dX4_thickAround_56 : decode cX4_thickAround 56 = .ok (.iinc 3 1, 3) := by decide +kernel
theorem dX4_thickAround_59 : decode cX4_thickAround 59 = .ok (.goto (-55), 3) := by decide +kernel
theorem dX4_thickAround_62 : decode cX4_thickAround 62 = .ok (.iload_n 2, 1) := by decide +kernel
theorem dX4_thickAround_63 : decode cX4_thickAround 63 = .ok (.ireturn, 1) := by decide +kernel
theorem dX4_thinnestSet_0 : decode cX4_thinnestSet 0 = .ok (.iconst 1, 1) := by decide +kernel
theorem dX4_thinnestSet_1 : decode cX4_thinnestSet 1 = .ok (.iload_n 1, 1) := by decide +kernel
theorem dX4_thinnestSet_2 : decode cX4_thinnestSet 2 = .ok (.ishl, 1) := by decide +kernel
theorem dX4_thinnestSet_3 : decode cX4_thinnestSet 3 = .ok (.istore_n 3, 1) := by decide +kernel
theorem dX4_thinnestSet_4 : decode cX4_thinnestSet 4 = .ok (.aload_n 0, 1) := by decide +kernel
theorem dX4_thinnestSet_5 : decode cX4_thinnestSet 5 = .ok (.iload_n 3, 1) := by decide +kernel
theorem dX4_thinnestSet_6 : decode cX4_thinnestSet 6 = .ok (.invokevirtual 99, 3) := by decide +kernel
theorem dX4_thinnestSet_9 : decode cX4_thinnestSet 9 = .ok (.istore 4, 2) := by decide +kernel
theorem dX4_thinnestSet_11 : decode cX4_thinnestSet 11 = .ok (.iconst 0, 1) := by decide +kernel
theorem dX4_thinnestSet_12 : decode cX4_thinnestSet 12 = .ok (.istore 5, 2) := by decide +kernel
theorem dX4_thinnestSet_14 : decode cX4_thinnestSet 14 = .ok (.iload 5, 2) := by decide +kernel
theorem dX4_thinnestSet_16 : decode cX4_thinnestSet 16 = .ok (.sipush 256, 3) := by decide +kernel
theorem dX4_thinnestSet_19 : decode cX4_thinnestSet 19 = .ok (.if_icmp .ge 50, 3) := by decide +kernel
theorem dX4_thinnestSet_22 : decode cX4_thinnestSet 22 = .ok (.iload 5, 2) := by decide +kernel
theorem dX4_thinnestSet_24 : decode cX4_thinnestSet 24 = .ok (.iload_n 1, 1) := by decide +kernel
theorem dX4_thinnestSet_25 : decode cX4_thinnestSet 25 = .ok (.ishr, 1) := by decide +kernel
theorem dX4_thinnestSet_26 : decode cX4_thinnestSet 26 = .ok (.iconst 1, 1) := by decide +kernel
theorem dX4_thinnestSet_27 : decode cX4_thinnestSet 27 = .ok (.iand, 1) := by decide +kernel
theorem dX4_thinnestSet_28 : decode cX4_thinnestSet 28 = .ok (.iconst 1, 1) := by decide +kernel
theorem dX4_thinnestSet_29 : decode cX4_thinnestSet 29 = .ok (.if_icmp .ne 34, 3) := by decide +kernel
theorem dX4_thinnestSet_32 : decode cX4_thinnestSet 32 = .ok (.iload 5, 2) := by decide +kernel
theorem dX4_thinnestSet_34 : decode cX4_thinnestSet 34 = .ok (.iload_n 2, 1) := by decide +kernel
theorem dX4_thinnestSet_35 : decode cX4_thinnestSet 35 = .ok (.ishr, 1) := by decide +kernel
theorem dX4_thinnestSet_36 : decode cX4_thinnestSet 36 = .ok (.iconst 1, 1) := by decide +kernel
theorem dX4_thinnestSet_37 : decode cX4_thinnestSet 37 = .ok (.iand, 1) := by decide +kernel
theorem dX4_thinnestSet_38 : decode cX4_thinnestSet 38 = .ok (.ifCond .ne 25, 3) := by decide +kernel
theorem dX4_thinnestSet_41 : decode cX4_thinnestSet 41 = .ok (.aload_n 0, 1) := by decide +kernel
theorem dX4_thinnestSet_42 : decode cX4_thinnestSet 42 = .ok (.iload 5, 2) := by decide +kernel
theorem dX4_thinnestSet_44 : decode cX4_thinnestSet 44 = .ok (.invokevirtual 99, 3) := by decide +kernel
theorem dX4_thinnestSet_47 : decode cX4_thinnestSet 47 = .ok (.istore 6, 2) := by decide +kernel
theorem dX4_thinnestSet_49 : decode cX4_thinnestSet 49 = .ok (.iload 6, 2) := by decide +kernel
theorem dX4_thinnestSet_51 : decode cX4_thinnestSet 51 = .ok (.iload 4, 2) := by decide +kernel
theorem dX4_thinnestSet_53 : decode cX4_thinnestSet 53 = .ok (.if_icmp .ge 10, 3) := by decide +kernel
theorem dX4_thinnestSet_56 : decode cX4_thinnestSet 56 = .ok (.iload 5, 2) := by decide +kernel
theorem dX4_thinnestSet_58 : decode cX4_thinnestSet 58 = .ok (.istore_n 3, 1) := by decide +kernel
theorem dX4_thinnestSet_59 : decode cX4_thinnestSet 59 = .ok (.iload 6, 2) := by decide +kernel
theorem dX4_thinnestSet_61 : decode cX4_thinnestSet 61 = .ok (.istore 4, 2) := by decide +kernel
theorem dX4_thinnestSet_63 : decode cX4_thinnestSet 63 = .ok (.iinc 5 1, 3) := by decide +kernel
theorem dX4_thinnestSet_66 : decode cX4_thinnestSet 66 = .ok (.goto (-52), 3) := by decide +kernel
theorem dX4_thinnestSet_69 : decode cX4_thinnestSet 69 = .ok (.iload_n 3, 1) := by decide +kernel
theorem dX4_thinnestSet_70 : decode cX4_thinnestSet 70 = .ok (.ireturn, 1) := by decide +kernel
theorem dX4_treeRoads_0 : decode cX4_treeRoads 0 = .ok (.iconst 0, 1) := by decide +kernel
theorem dX4_treeRoads_1 : decode cX4_treeRoads 1 = .ok (.istore_n 1, 1) := by decide +kernel
theorem dX4_treeRoads_2 : decode cX4_treeRoads 2 = .ok (.iload_n 1, 1) := by decide +kernel
theorem dX4_treeRoads_3 : decode cX4_treeRoads 3 = .ok (.bipush 8, 2) := by decide +kernel
theorem dX4_treeRoads_5 : decode cX4_treeRoads 5 = .ok (.if_icmp .ge 16, 3) := by decide +kernel
theorem dX4_treeRoads_8 : decode cX4_treeRoads 8 = .ok (.aload_n 0, 1) := by decide +kernel
theorem dX4_treeRoads_9 : decode cX4_treeRoads 9 = .ok (.getfield 21, 3) := by decide +kernel
theorem dX4_treeRoads_12 : decode cX4_treeRoads 12 = .ok (.iload_n 1, 1) := by decide +kernel
theorem dX4_treeRoads_13 : decode cX4_treeRoads 13 = .ok (.iload_n 1, 1) := by decide +kernel
theorem dX4_treeRoads_14 : decode cX4_treeRoads 14 = .ok (.iastore, 1) := by decide +kernel
theorem dX4_treeRoads_15 : decode cX4_treeRoads 15 = .ok (.iinc 1 1, 3) := by decide +kernel
theorem dX4_treeRoads_18 : decode cX4_treeRoads 18 = .ok (.goto (-16), 3) := by decide +kernel
theorem dX4_treeRoads_21 : decode cX4_treeRoads 21 = .ok (.iconst 0, 1) := by decide +kernel
theorem dX4_treeRoads_22 : decode cX4_treeRoads 22 = .ok (.istore_n 1, 1) := by decide +kernel
theorem dX4_treeRoads_23 : decode cX4_treeRoads 23 = .ok (.iconst 1, 1) := by decide +kernel
theorem dX4_treeRoads_24 : decode cX4_treeRoads 24 = .ok (.istore_n 2, 1) := by decide +kernel
theorem dX4_treeRoads_25 : decode cX4_treeRoads 25 = .ok (.iload_n 2, 1) := by decide +kernel
theorem dX4_treeRoads_26 : decode cX4_treeRoads 26 = .ok (.bipush 9, 2) := by decide +kernel
theorem dX4_treeRoads_28 : decode cX4_treeRoads 28 = .ok (.if_icmp .gt 63, 3) := by decide +kernel
theorem dX4_treeRoads_31 : decode cX4_treeRoads 31 = .ok (.iconst 0, 1) := by decide +kernel
theorem dX4_treeRoads_32 : decode cX4_treeRoads 32 = .ok (.istore_n 3, 1) := by decide +kernel
theorem dX4_treeRoads_33 : decode cX4_treeRoads 33 = .ok (.iload_n 3, 1) := by decide +kernel
theorem dX4_treeRoads_34 : decode cX4_treeRoads 34 = .ok (.aload_n 0, 1) := by decide +kernel
theorem dX4_treeRoads_35 : decode cX4_treeRoads 35 = .ok (.getfield 37, 3) := by decide +kernel
theorem dX4_treeRoads_38 : decode cX4_treeRoads 38 = .ok (.getfield 50, 3) := by decide +kernel
theorem dX4_treeRoads_41 : decode cX4_treeRoads 41 = .ok (.if_icmp .ge 44, 3) := by decide +kernel
theorem dX4_treeRoads_44 : decode cX4_treeRoads 44 = .ok (.aload_n 0, 1) := by decide +kernel
theorem dX4_treeRoads_45 : decode cX4_treeRoads 45 = .ok (.getfield 37, 3) := by decide +kernel
theorem dX4_treeRoads_48 : decode cX4_treeRoads 48 = .ok (.getfield 77, 3) := by decide +kernel
theorem dX4_treeRoads_51 : decode cX4_treeRoads 51 = .ok (.iload_n 3, 1) := by decide +kernel
theorem dX4_treeRoads_52 : decode cX4_treeRoads 52 = .ok (.iaload, 1) := by decide +kernel
theorem dX4_treeRoads_53 : decode cX4_treeRoads 53 = .ok (.iload_n 2, 1) := by decide +kernel
theorem dX4_treeRoads_54 : decode cX4_treeRoads 54 = .ok (.if_icmp .ne 25, 3) := by decide +kernel
theorem dX4_treeRoads_57 : decode cX4_treeRoads 57 = .ok (.aload_n 0, 1) := by decide +kernel
theorem dX4_treeRoads_58 : decode cX4_treeRoads 58 = .ok (.iload_n 3, 1) := by decide +kernel
theorem dX4_treeRoads_59 : decode cX4_treeRoads 59 = .ok (.invokevirtual 56, 3) := by decide +kernel
theorem dX4_treeRoads_62 : decode cX4_treeRoads 62 = .ok (.ifCond .eq 17, 3) := by decide +kernel
theorem dX4_treeRoads_65 : decode cX4_treeRoads 65 = .ok (.aload_n 0, 1) := by decide +kernel
theorem dX4_treeRoads_66 : decode cX4_treeRoads 66 = .ok (.iload_n 3, 1) := by decide +kernel
theorem dX4_treeRoads_67 : decode cX4_treeRoads 67 = .ok (.invokevirtual 103, 3) := by decide +kernel
theorem dX4_treeRoads_70 : decode cX4_treeRoads 70 = .ok (.ifCond .eq 9, 3) := by decide +kernel
theorem dX4_treeRoads_73 : decode cX4_treeRoads 73 = .ok (.iload_n 1, 1) := by decide +kernel
theorem dX4_treeRoads_74 : decode cX4_treeRoads 74 = .ok (.iconst 1, 1) := by decide +kernel
theorem dX4_treeRoads_75 : decode cX4_treeRoads 75 = .ok (.iload_n 3, 1) := by decide +kernel
theorem dX4_treeRoads_76 : decode cX4_treeRoads 76 = .ok (.ishl, 1) := by decide +kernel
theorem dX4_treeRoads_77 : decode cX4_treeRoads 77 = .ok (.ior, 1) := by decide +kernel
theorem dX4_treeRoads_78 : decode cX4_treeRoads 78 = .ok (.istore_n 1, 1) := by decide +kernel
theorem dX4_treeRoads_79 : decode cX4_treeRoads 79 = .ok (.iinc 3 1, 3) := by decide +kernel
theorem dX4_treeRoads_82 : decode cX4_treeRoads 82 = .ok (.goto (-49), 3) := by decide +kernel
theorem dX4_treeRoads_85 : decode cX4_treeRoads 85 = .ok (.iinc 2 1, 3) := by decide +kernel
theorem dX4_treeRoads_88 : decode cX4_treeRoads 88 = .ok (.goto (-63), 3) := by decide +kernel
theorem dX4_treeRoads_91 : decode cX4_treeRoads 91 = .ok (.iload_n 1, 1) := by decide +kernel
theorem dX4_treeRoads_92 : decode cX4_treeRoads 92 = .ok (.ireturn, 1) := by decide +kernel
theorem dX4_joins_0 : decode cX4_joins 0 = .ok (.aload_n 0, 1) := by decide +kernel
theorem dX4_joins_1 : decode cX4_joins 1 = .ok (.getfield 21, 3) := by decide +kernel
theorem dX4_joins_4 : decode cX4_joins 4 = .ok (.aload_n 0, 1) := by decide +kernel
theorem dX4_joins_5 : decode cX4_joins 5 = .ok (.getfield 37, 3) := by decide +kernel
theorem dX4_joins_8 : decode cX4_joins 8 = .ok (.getfield 71, 3) := by decide +kernel
theorem dX4_joins_11 : decode cX4_joins 11 = .ok (.iload_n 1, 1) := by decide +kernel
theorem dX4_joins_12 : decode cX4_joins 12 = .ok (.iaload, 1) := by decide +kernel
theorem dX4_joins_13 : decode cX4_joins 13 = .ok (.iaload, 1) := by decide +kernel
theorem dX4_joins_14 : decode cX4_joins 14 = .ok (.istore_n 2, 1) := by decide +kernel
theorem dX4_joins_15 : decode cX4_joins 15 = .ok (.aload_n 0, 1) := by decide +kernel
theorem dX4_joins_16 : decode cX4_joins 16 = .ok (.getfield 21, 3) := by decide +kernel
theorem dX4_joins_19 : decode cX4_joins 19 = .ok (.aload_n 0, 1) := by decide +kernel
theorem dX4_joins_20 : decode cX4_joins 20 = .ok (.getfield 37, 3) := by decide +kernel
theorem dX4_joins_23 : decode cX4_joins 23 = .ok (.getfield 74, 3) := by decide +kernel
theorem dX4_joins_26 : decode cX4_joins 26 = .ok (.iload_n 1, 1) := by decide +kernel
theorem dX4_joins_27 : decode cX4_joins 27 = .ok (.iaload, 1) := by decide +kernel
theorem dX4_joins_28 : decode cX4_joins 28 = .ok (.iaload, 1) := by decide +kernel
theorem dX4_joins_29 : decode cX4_joins 29 = .ok (.istore_n 3, 1) := by decide +kernel
theorem dX4_joins_30 : decode cX4_joins 30 = .ok (.iconst 0, 1) := by decide +kernel
theorem dX4_joins_31 : decode cX4_joins 31 = .ok (.istore 4, 2) := by decide +kernel
theorem dX4_joins_33 : decode cX4_joins 33 = .ok (.iload 4, 2) := by decide +kernel
theorem dX4_joins_35 : decode cX4_joins 35 = .ok (.bipush 8, 2) := by decide +kernel
theorem dX4_joins_37 : decode cX4_joins 37 = .ok (.if_icmp .ge 28, 3) := by decide +kernel
theorem dX4_joins_40 : decode cX4_joins 40 = .ok (.aload_n 0, 1) := by decide +kernel
theorem dX4_joins_41 : decode cX4_joins 41 = .ok (.getfield 21, 3) := by decide +kernel
theorem dX4_joins_44 : decode cX4_joins 44 = .ok (.iload 4, 2) := by decide +kernel
theorem dX4_joins_46 : decode cX4_joins 46 = .ok (.iaload, 1) := by decide +kernel
theorem dX4_joins_47 : decode cX4_joins 47 = .ok (.iload_n 3, 1) := by decide +kernel
theorem dX4_joins_48 : decode cX4_joins 48 = .ok (.if_icmp .ne 11, 3) := by decide +kernel
theorem dX4_joins_51 : decode cX4_joins 51 = .ok (.aload_n 0, 1) := by decide +kernel
theorem dX4_joins_52 : decode cX4_joins 52 = .ok (.getfield 21, 3) := by decide +kernel
theorem dX4_joins_55 : decode cX4_joins 55 = .ok (.iload 4, 2) := by decide +kernel
theorem dX4_joins_57 : decode cX4_joins 57 = .ok (.iload_n 2, 1) := by decide +kernel
theorem dX4_joins_58 : decode cX4_joins 58 = .ok (.iastore, 1) := by decide +kernel
theorem dX4_joins_59 : decode cX4_joins 59 = .ok (.iinc 4 1, 3) := by decide +kernel
theorem dX4_joins_62 : decode cX4_joins 62 = .ok (.goto (-29), 3) := by decide +kernel
theorem dX4_joins_65 : decode cX4_joins 65 = .ok (.iload_n 2, 1) := by decide +kernel
theorem dX4_joins_66 : decode cX4_joins 66 = .ok (.iload_n 3, 1) := by decide +kernel
theorem dX4_joins_67 : decode cX4_joins 67 = .ok (.if_icmp .eq 7, 3) := by decide +kernel
theorem dX4_joins_70 : decode cX4_joins 70 = .ok (.iconst 1, 1) := by decide +kernel
theorem dX4_joins_71 : decode cX4_joins 71 = .ok (.goto 4, 3) := by decide +kernel
theorem dX4_joins_74 : decode cX4_joins 74 = .ok (.iconst 0, 1) := by decide +kernel
theorem dX4_joins_75 : decode cX4_joins 75 = .ok (.ireturn, 1) := by decide +kernel
theorem dX4_lengthOf_0 : decode cX4_lengthOf 0 = .ok (.iconst 0, 1) := by decide +kernel
theorem dX4_lengthOf_1 : decode cX4_lengthOf 1 = .ok (.istore_n 2, 1) := by decide +kernel
theorem dX4_lengthOf_2 : decode cX4_lengthOf 2 = .ok (.iconst 0, 1) := by decide +kernel
theorem dX4_lengthOf_3 : decode cX4_lengthOf 3 = .ok (.istore_n 3, 1) := by decide +kernel
theorem dX4_lengthOf_4 : decode cX4_lengthOf 4 = .ok (.iload_n 3, 1) := by decide +kernel
theorem dX4_lengthOf_5 : decode cX4_lengthOf 5 = .ok (.aload_n 0, 1) := by decide +kernel
theorem dX4_lengthOf_6 : decode cX4_lengthOf 6 = .ok (.getfield 37, 3) := by decide +kernel
theorem dX4_lengthOf_9 : decode cX4_lengthOf 9 = .ok (.getfield 50, 3) := by decide +kernel
theorem dX4_lengthOf_12 : decode cX4_lengthOf 12 = .ok (.if_icmp .ge 30, 3) := by decide +kernel
theorem dX4_lengthOf_15 : decode cX4_lengthOf 15 = .ok (.iload_n 1, 1) := by decide +kernel
theorem dX4_lengthOf_16 : decode cX4_lengthOf 16 = .ok (.iload_n 3, 1) := by decide +kernel
theorem dX4_lengthOf_17 : decode cX4_lengthOf 17 = .ok (.ishr, 1) := by decide +kernel
theorem dX4_lengthOf_18 : decode cX4_lengthOf 18 = .ok (.iconst 1, 1) := by decide +kernel
theorem dX4_lengthOf_19 : decode cX4_lengthOf 19 = .ok (.iand, 1) := by decide +kernel
theorem dX4_lengthOf_20 : decode cX4_lengthOf 20 = .ok (.iconst 1, 1) := by decide +kernel
theorem dX4_lengthOf_21 : decode cX4_lengthOf 21 = .ok (.if_icmp .ne 15, 3) := by decide +kernel
theorem dX4_lengthOf_24 : decode cX4_lengthOf 24 = .ok (.iload_n 2, 1) := by decide +kernel
theorem dX4_lengthOf_25 : decode cX4_lengthOf 25 = .ok (.aload_n 0, 1) := by decide +kernel
theorem dX4_lengthOf_26 : decode cX4_lengthOf 26 = .ok (.getfield 37, 3) := by decide +kernel
theorem dX4_lengthOf_29 : decode cX4_lengthOf 29 = .ok (.getfield 77, 3) := by decide +kernel
theorem dX4_lengthOf_32 : decode cX4_lengthOf 32 = .ok (.iload_n 3, 1) := by decide +kernel
theorem dX4_lengthOf_33 : decode cX4_lengthOf 33 = .ok (.iaload, 1) := by decide +kernel
theorem dX4_lengthOf_34 : decode cX4_lengthOf 34 = .ok (.iadd, 1) := by decide +kernel
theorem dX4_lengthOf_35 : decode cX4_lengthOf 35 = .ok (.istore_n 2, 1) := by decide +kernel
theorem dX4_lengthOf_36 : decode cX4_lengthOf 36 = .ok (.iinc 3 1, 3) := by decide +kernel
theorem dX4_lengthOf_39 : decode cX4_lengthOf 39 = .ok (.goto (-35), 3) := by decide +kernel
theorem dX4_lengthOf_42 : decode cX4_lengthOf 42 = .ok (.iload_n 2, 1) := by decide +kernel
theorem dX4_lengthOf_43 : decode cX4_lengthOf 43 = .ok (.ireturn, 1) := by decide +kernel
theorem dX4_bridgeRoads_0 : decode cX4_bridgeRoads 0 = .ok (.iconst 0, 1) := by decide +kernel
theorem dX4_bridgeRoads_1 : decode cX4_bridgeRoads 1 = .ok (.istore_n 1, 1) := by decide +kernel
theorem dX4_bridgeRoads_2 : decode cX4_bridgeRoads 2 = .ok (.iconst 0, 1) := by decide +kernel
theorem dX4_bridgeRoads_3 : decode cX4_bridgeRoads 3 = .ok (.istore_n 2, 1) := by decide +kernel
theorem dX4_bridgeRoads_4 : decode cX4_bridgeRoads 4 = .ok (.iload_n 2, 1) := by decide +kernel
theorem dX4_bridgeRoads_5 : decode cX4_bridgeRoads 5 = .ok (.aload_n 0, 1) := by decide +kernel
theorem dX4_bridgeRoads_6 : decode cX4_bridgeRoads 6 = .ok (.getfield 37, 3) := by decide +kernel
theorem dX4_bridgeRoads_9 : decode cX4_bridgeRoads 9 = .ok (.getfield 50, 3) := by decide +kernel
theorem dX4_bridgeRoads_12 : decode cX4_bridgeRoads 12 = .ok (.if_icmp .ge 57, 3) := by decide +kernel
theorem dX4_bridgeRoads_15 : decode cX4_bridgeRoads 15 = .ok (.aload_n 0, 1) := by decide +kernel
theorem dX4_bridgeRoads_16 : decode cX4_bridgeRoads 16 = .ok (.iload_n 2, 1) := by decide +kernel
theorem dX4_bridgeRoads_17 : decode cX4_bridgeRoads 17 = .ok (.invokevirtual 56, 3) := by decide +kernel
theorem dX4_bridgeRoads_20 : decode cX4_bridgeRoads 20 = .ok (.ifCond .eq 43, 3) := by decide +kernel
theorem dX4_bridgeRoads_23 : decode cX4_bridgeRoads 23 = .ok (.aload_n 0, 1) := by decide +kernel
theorem dX4_bridgeRoads_24 : decode cX4_bridgeRoads 24 = .ok (.aload_n 0, 1) := by decide +kernel
theorem dX4_bridgeRoads_25 : decode cX4_bridgeRoads 25 = .ok (.getfield 37, 3) := by decide +kernel
theorem dX4_bridgeRoads_28 : decode cX4_bridgeRoads 28 = .ok (.getfield 71, 3) := by decide +kernel
theorem dX4_bridgeRoads_31 : decode cX4_bridgeRoads 31 = .ok (.iload_n 2, 1) := by decide +kernel
theorem dX4_bridgeRoads_32 : decode cX4_bridgeRoads 32 = .ok (.iaload, 1) := by decide +kernel
theorem dX4_bridgeRoads_33 : decode cX4_bridgeRoads 33 = .ok (.iconst 1, 1) := by decide +kernel
theorem dX4_bridgeRoads_34 : decode cX4_bridgeRoads 34 = .ok (.iload_n 2, 1) := by decide +kernel
theorem dX4_bridgeRoads_35 : decode cX4_bridgeRoads 35 = .ok (.invokevirtual 86, 3) := by decide +kernel
theorem dX4_bridgeRoads_38 : decode cX4_bridgeRoads 38 = .ok (.aload_n 0, 1) := by decide +kernel
theorem dX4_bridgeRoads_39 : decode cX4_bridgeRoads 39 = .ok (.getfield 9, 3) := by decide +kernel
theorem dX4_bridgeRoads_42 : decode cX4_bridgeRoads 42 = .ok (.aload_n 0, 1) := by decide +kernel
theorem dX4_bridgeRoads_43 : decode cX4_bridgeRoads 43 = .ok (.getfield 37, 3) := by decide +kernel
theorem dX4_bridgeRoads_46 : decode cX4_bridgeRoads 46 = .ok (.getfield 74, 3) := by decide +kernel
theorem dX4_bridgeRoads_49 : decode cX4_bridgeRoads 49 = .ok (.iload_n 2, 1) := by decide +kernel
theorem dX4_bridgeRoads_50 : decode cX4_bridgeRoads 50 = .ok (.iaload, 1) := by decide +kernel
theorem dX4_bridgeRoads_51 : decode cX4_bridgeRoads 51 = .ok (.iaload, 1) := by decide +kernel
theorem dX4_bridgeRoads_52 : decode cX4_bridgeRoads 52 = .ok (.ldc 64, 2) := by decide +kernel
theorem dX4_bridgeRoads_54 : decode cX4_bridgeRoads 54 = .ok (.if_icmp .lt 9, 3) := by decide +kernel
theorem dX4_bridgeRoads_57 : decode cX4_bridgeRoads 57 = .ok (.iload_n 1, 1) := by decide +kernel
theorem dX4_bridgeRoads_58 : decode cX4_bridgeRoads 58 = .ok (.iconst 1, 1) := by decide +kernel
theorem dX4_bridgeRoads_59 : decode cX4_bridgeRoads 59 = .ok (.iload_n 2, 1) := by decide +kernel
theorem dX4_bridgeRoads_60 : decode cX4_bridgeRoads 60 = .ok (.ishl, 1) := by decide +kernel
theorem dX4_bridgeRoads_61 : decode cX4_bridgeRoads 61 = .ok (.ior, 1) := by decide +kernel
theorem dX4_bridgeRoads_62 : decode cX4_bridgeRoads 62 = .ok (.istore_n 1, 1) := by decide +kernel
theorem dX4_bridgeRoads_63 : decode cX4_bridgeRoads 63 = .ok (.iinc 2 1, 3) := by decide +kernel
theorem dX4_bridgeRoads_66 : decode cX4_bridgeRoads 66 = .ok (.goto (-62), 3) := by decide +kernel
theorem dX4_bridgeRoads_69 : decode cX4_bridgeRoads 69 = .ok (.iload_n 1, 1) := by decide +kernel
theorem dX4_bridgeRoads_70 : decode cX4_bridgeRoads 70 = .ok (.ireturn, 1) := by decide +kernel
theorem dX4_pieceCount_0 : decode cX4_pieceCount 0 = .ok (.iconst 0, 1) := by decide +kernel
theorem dX4_pieceCount_1 : decode cX4_pieceCount 1 = .ok (.istore_n 1, 1) := by decide +kernel
theorem dX4_pieceCount_2 : decode cX4_pieceCount 2 = .ok (.iconst 0, 1) := by decide +kernel
theorem dX4_pieceCount_3 : decode cX4_pieceCount 3 = .ok (.istore_n 2, 1) := by decide +kernel
theorem dX4_pieceCount_4 : decode cX4_pieceCount 4 = .ok (.iload_n 2, 1) := by decide +kernel
theorem dX4_pieceCount_5 : decode cX4_pieceCount 5 = .ok (.bipush 8, 2) := by decide +kernel
theorem dX4_pieceCount_7 : decode cX4_pieceCount 7 = .ok (.if_icmp .ge 20, 3) := by decide +kernel
theorem dX4_pieceCount_10 : decode cX4_pieceCount 10 = .ok (.aload_n 0, 1) := by decide +kernel
theorem dX4_pieceCount_11 : decode cX4_pieceCount 11 = .ok (.iload_n 2, 1) := by decide +kernel
theorem dX4_pieceCount_12 : decode cX4_pieceCount 12 = .ok (.invokevirtual 106, 3) := by decide +kernel
theorem dX4_pieceCount_15 : decode cX4_pieceCount 15 = .ok (.ifCond .le 6, 3) := by decide +kernel
theorem dX4_pieceCount_18 : decode cX4_pieceCount 18 = .ok (.iinc 1 1, 3) := by decide +kernel
theorem dX4_pieceCount_21 : decode cX4_pieceCount 21 = .ok (.iinc 2 1, 3) := by decide +kernel
theorem dX4_pieceCount_24 : decode cX4_pieceCount 24 = .ok (.goto (-20), 3) := by decide +kernel
theorem dX4_pieceCount_27 : decode cX4_pieceCount 27 = .ok (.iload_n 1, 1) := by decide +kernel
theorem dX4_pieceCount_28 : decode cX4_pieceCount 28 = .ok (.aload_n 0, 1) := by decide +kernel
theorem dX4_pieceCount_29 : decode cX4_pieceCount 29 = .ok (.invokevirtual 109, 3) := by decide +kernel
theorem dX4_pieceCount_32 : decode cX4_pieceCount 32 = .ok (.invokestatic 113, 3) := by decide +kernel
theorem dX4_pieceCount_35 : decode cX4_pieceCount 35 = .ok (.isub, 1) := by decide +kernel
theorem dX4_pieceCount_36 : decode cX4_pieceCount 36 = .ok (.ireturn, 1) := by decide +kernel
theorem dX4_carterMiles_0 : decode cX4_carterMiles 0 = .ok (.aload_n 0, 1) := by decide +kernel
theorem dX4_carterMiles_1 : decode cX4_carterMiles 1 = .ok (.iload_n 1, 1) := by decide +kernel
theorem dX4_carterMiles_2 : decode cX4_carterMiles 2 = .ok (.invokevirtual 106, 3) := by decide +kernel
theorem dX4_carterMiles_5 : decode cX4_carterMiles 5 = .ok (.ifCond .eq 11, 3) := by decide +kernel
theorem dX4_carterMiles_8 : decode cX4_carterMiles 8 = .ok (.aload_n 0, 1) := by decide +kernel
theorem dX4_carterMiles_9 : decode cX4_carterMiles 9 = .ok (.invokevirtual 118, 3) := by decide +kernel
theorem dX4_carterMiles_12 : decode cX4_carterMiles 12 = .ok (.iconst 1, 1) := by decide +kernel
theorem dX4_carterMiles_13 : decode cX4_carterMiles 13 = .ok (.if_icmp .eq 5, 3) := by decide +kernel
theorem dX4_carterMiles_16 : decode cX4_carterMiles 16 = .ok (.iconst (-1), 1) := by decide +kernel
theorem dX4_carterMiles_17 : decode cX4_carterMiles 17 = .ok (.ireturn, 1) := by decide +kernel
theorem dX4_carterMiles_18 : decode cX4_carterMiles 18 = .ok (.iconst 0, 1) := by decide +kernel
theorem dX4_carterMiles_19 : decode cX4_carterMiles 19 = .ok (.istore_n 2, 1) := by decide +kernel
theorem dX4_carterMiles_20 : decode cX4_carterMiles 20 = .ok (.iconst 0, 1) := by decide +kernel
theorem dX4_carterMiles_21 : decode cX4_carterMiles 21 = .ok (.istore_n 3, 1) := by decide +kernel
theorem dX4_carterMiles_22 : decode cX4_carterMiles 22 = .ok (.iload_n 3, 1) := by decide +kernel
theorem dX4_carterMiles_23 : decode cX4_carterMiles 23 = .ok (.aload_n 0, 1) := by decide +kernel
theorem dX4_carterMiles_24 : decode cX4_carterMiles 24 = .ok (.getfield 37, 3) := by decide +kernel
theorem dX4_carterMiles_27 : decode cX4_carterMiles 27 = .ok (.getfield 50, 3) := by decide +kernel
theorem dX4_carterMiles_30 : decode cX4_carterMiles 30 = .ok (.if_icmp .ge 33, 3) := by decide +kernel
theorem dX4_carterMiles_33 : decode cX4_carterMiles 33 = .ok (.iload_n 2, 1) := by decide +kernel
theorem dX4_carterMiles_34 : decode cX4_carterMiles 34 = .ok (.aload_n 0, 1) := by decide +kernel
theorem dX4_carterMiles_35 : decode cX4_carterMiles 35 = .ok (.iload_n 3, 1) := by decide +kernel
theorem dX4_carterMiles_36 : decode cX4_carterMiles 36 = .ok (.invokevirtual 56, 3) := by decide +kernel
theorem dX4_carterMiles_39 : decode cX4_carterMiles 39 = .ok (.ifCond .eq 15, 3) := by decide +kernel
theorem dX4_carterMiles_42 : decode cX4_carterMiles 42 = .ok (.aload_n 0, 1) := by decide +kernel
theorem dX4_carterMiles_43 : decode cX4_carterMiles 43 = .ok (.getfield 37, 3) := by decide +kernel
theorem dX4_carterMiles_46 : decode cX4_carterMiles 46 = .ok (.getfield 77, 3) := by decide +kernel
theorem dX4_carterMiles_49 : decode cX4_carterMiles 49 = .ok (.iload_n 3, 1) := by decide +kernel
theorem dX4_carterMiles_50 : decode cX4_carterMiles 50 = .ok (.iaload, 1) := by decide +kernel
theorem dX4_carterMiles_51 : decode cX4_carterMiles 51 = .ok (.goto 4, 3) := by decide +kernel
theorem dX4_carterMiles_54 : decode cX4_carterMiles 54 = .ok (.iconst 0, 1) := by decide +kernel
theorem dX4_carterMiles_55 : decode cX4_carterMiles 55 = .ok (.iadd, 1) := by decide +kernel
theorem dX4_carterMiles_56 : decode cX4_carterMiles 56 = .ok (.istore_n 2, 1) := by decide +kernel
theorem dX4_carterMiles_57 : decode cX4_carterMiles 57 = .ok (.iinc 3 1, 3) := by decide +kernel
theorem dX4_carterMiles_60 : decode cX4_carterMiles 60 = .ok (.goto (-38), 3) := by decide +kernel
theorem dX4_carterMiles_63 : decode cX4_carterMiles 63 = .ok (.iconst 0, 1) := by decide +kernel
theorem dX4_carterMiles_64 : decode cX4_carterMiles 64 = .ok (.istore_n 3, 1) := by decide +kernel
theorem dX4_carterMiles_65 : decode cX4_carterMiles 65 = .ok (.iconst 0, 1) := by decide +kernel
theorem dX4_carterMiles_66 : decode cX4_carterMiles 66 = .ok (.istore 4, 2) := by decide +kernel
theorem dX4_carterMiles_68 : decode cX4_carterMiles 68 = .ok (.iload 4, 2) := by decide +kernel
theorem dX4_carterMiles_70 : decode cX4_carterMiles 70 = .ok (.bipush 8, 2) := by decide +kernel
theorem dX4_carterMiles_72 : decode cX4_carterMiles 72 = .ok (.if_icmp .ge 23, 3) := by decide +kernel
theorem dX4_carterMiles_75 : decode cX4_carterMiles 75 = .ok (.iload_n 3, 1) := by decide +kernel
theorem dX4_carterMiles_76 : decode cX4_carterMiles 76 = .ok (.aload_n 0, 1) := by decide +kernel
theorem dX4_carterMiles_77 : decode cX4_carterMiles 77 = .ok (.iload 4, 2) := by decide +kernel
theorem dX4_carterMiles_79 : decode cX4_carterMiles 79 = .ok (.invokevirtual 106, 3) := by decide +kernel
theorem dX4_carterMiles_82 : decode cX4_carterMiles 82 = .ok (.iconst 1, 1) := by decide +kernel
theorem dX4_carterMiles_83 : decode cX4_carterMiles 83 = .ok (.iand, 1) := by decide +kernel
theorem dX4_carterMiles_84 : decode cX4_carterMiles 84 = .ok (.iload 4, 2) := by decide +kernel
theorem dX4_carterMiles_86 : decode cX4_carterMiles 86 = .ok (.ishl, 1) := by decide +kernel
theorem dX4_carterMiles_87 : decode cX4_carterMiles 87 = .ok (.ior, 1) := by decide +kernel
theorem dX4_carterMiles_88 : decode cX4_carterMiles 88 = .ok (.istore_n 3, 1) := by decide +kernel
theorem dX4_carterMiles_89 : decode cX4_carterMiles 89 = .ok (.iinc 4 1, 3) := by decide +kernel
theorem dX4_carterMiles_92 : decode cX4_carterMiles 92 = .ok (.goto (-24), 3) := by decide +kernel
theorem dX4_carterMiles_95 : decode cX4_carterMiles 95 = .ok (.iload_n 2, 1) := by decide +kernel
theorem dX4_carterMiles_96 : decode cX4_carterMiles 96 = .ok (.aload_n 0, 1) := by decide +kernel
theorem dX4_carterMiles_97 : decode cX4_carterMiles 97 = .ok (.iload_n 3, 1) := by decide +kernel
theorem dX4_carterMiles_98 : decode cX4_carterMiles 98 = .ok (.invokevirtual 121, 3) := by decide +kernel
theorem dX4_carterMiles_101 : decode cX4_carterMiles 101 = .ok (.iadd, 1) := by decide +kernel
theorem dX4_carterMiles_102 : decode cX4_carterMiles 102 = .ok (.ireturn, 1) := by decide +kernel
theorem dX4_pairingMiles_0 : decode cX4_pairingMiles 0 = .ok (.iconst 0, 1) := by decide +kernel
theorem dX4_pairingMiles_1 : decode cX4_pairingMiles 1 = .ok (.istore_n 2, 1) := by decide +kernel
theorem dX4_pairingMiles_2 : decode cX4_pairingMiles 2 = .ok (.iload_n 2, 1) := by decide +kernel
theorem dX4_pairingMiles_3 : decode cX4_pairingMiles 3 = .ok (.bipush 8, 2) := by decide +kernel
theorem dX4_pairingMiles_5 : decode cX4_pairingMiles 5 = .ok (.if_icmp .ge 34, 3) := by decide +kernel
theorem dX4_pairingMiles_8 : decode cX4_pairingMiles 8 = .ok (.aload_n 0, 1) := by decide +kernel
theorem dX4_pairingMiles_9 : decode cX4_pairingMiles 9 = .ok (.iload_n 2, 1) := by decide +kernel
theorem dX4_pairingMiles_10 : decode cX4_pairingMiles 10 = .ok (.iconst 1, 1) := by decide +kernel
theorem dX4_pairingMiles_11 : decode cX4_pairingMiles 11 = .ok (.iconst (-1), 1) := by decide +kernel
theorem dX4_pairingMiles_12 : decode cX4_pairingMiles 12 = .ok (.invokevirtual 86, 3) := by decide +kernel
theorem dX4_pairingMiles_15 : decode cX4_pairingMiles 15 = .ok (.aload_n 0, 1) := by decide +kernel
theorem dX4_pairingMiles_16 : decode cX4_pairingMiles 16 = .ok (.getfield 9, 3) := by decide +kernel
theorem dX4_pairingMiles_19 : decode cX4_pairingMiles 19 = .ok (.iconst 0, 1) := by decide +kernel
theorem dX4_pairingMiles_20 : decode cX4_pairingMiles 20 = .ok (.aload_n 0, 1) := by decide +kernel
theorem dX4_pairingMiles_21 : decode cX4_pairingMiles 21 = .ok (.getfield 15, 3) := by decide +kernel
theorem dX4_pairingMiles_24 : decode cX4_pairingMiles 24 = .ok (.iload_n 2, 1) := by decide +kernel
theorem dX4_pairingMiles_25 : decode cX4_pairingMiles 25 = .ok (.bipush 8, 2) := by decide +kernel
theorem dX4_pairingMiles_27 : decode cX4_pairingMiles 27 = .ok (.imul, 1) := by decide +kernel
theorem dX4_pairingMiles_28 : decode cX4_pairingMiles 28 = .ok (.bipush 8, 2) := by decide +kernel
theorem dX4_pairingMiles_30 : decode cX4_pairingMiles 30 = .ok (.invokestatic 124, 3) := by decide +kernel
theorem dX4_pairingMiles_33 : decode cX4_pairingMiles 33 = .ok (.iinc 2 1, 3) := by decide +kernel
theorem dX4_pairingMiles_36 : decode cX4_pairingMiles 36 = .ok (.goto (-34), 3) := by decide +kernel
theorem dX4_pairingMiles_39 : decode cX4_pairingMiles 39 = .ok (.aload_n 0, 1) := by decide +kernel
theorem dX4_pairingMiles_40 : decode cX4_pairingMiles 40 = .ok (.getfield 27, 3) := by decide +kernel
theorem dX4_pairingMiles_43 : decode cX4_pairingMiles 43 = .ok (.iconst 0, 1) := by decide +kernel
theorem dX4_pairingMiles_44 : decode cX4_pairingMiles 44 = .ok (.iconst 0, 1) := by decide +kernel
theorem dX4_pairingMiles_45 : decode cX4_pairingMiles 45 = .ok (.iastore, 1) := by decide +kernel
theorem dX4_pairingMiles_46 : decode cX4_pairingMiles 46 = .ok (.iconst 1, 1) := by decide +kernel
theorem dX4_pairingMiles_47 : decode cX4_pairingMiles 47 = .ok (.istore_n 2, 1) := by decide +kernel
theorem dX4_pairingMiles_48 : decode cX4_pairingMiles 48 = .ok (.iload_n 2, 1) := by decide +kernel
theorem dX4_pairingMiles_49 : decode cX4_pairingMiles 49 = .ok (.iload_n 1, 1) := by decide +kernel
theorem dX4_pairingMiles_50 : decode cX4_pairingMiles 50 = .ok (.if_icmp .gt 97, 3) := by decide +kernel
theorem dX4_pairingMiles_53 : decode cX4_pairingMiles 53 = .ok (.iload_n 2, 1) := by decide +kernel
theorem dX4_pairingMiles_54 : decode cX4_pairingMiles 54 = .ok (.invokestatic 130, 3) := by decide +kernel
theorem dX4_pairingMiles_57 : decode cX4_pairingMiles 57 = .ok (.istore_n 3, 1) := by decide +kernel
theorem dX4_pairingMiles_58 : decode cX4_pairingMiles 58 = .ok (.aload_n 0, 1) := by decide +kernel
theorem dX4_pairingMiles_59 : decode cX4_pairingMiles 59 = .ok (.getfield 27, 3) := by decide +kernel
theorem dX4_pairingMiles_62 : decode cX4_pairingMiles 62 = .ok (.iload_n 2, 1) := by decide +kernel
theorem dX4_pairingMiles_63 : decode cX4_pairingMiles 63 = .ok (.ldc 64, 2) := by decide +kernel
theorem dX4_pairingMiles_65 : decode cX4_pairingMiles 65 = .ok (.iastore, 1) := by decide +kernel
theorem dX4_pairingMiles_66 : decode cX4_pairingMiles 66 = .ok (.iload_n 3, 1) := by decide +kernel
theorem dX4_pairingMiles_67 : decode cX4_pairingMiles 67 = .ok (.iconst 1, 1) := by decide +kernel
theorem dX4_pairingMiles_68 : decode cX4_pairingMiles 68 = .ok (.iadd, 1) := by decide +kernel
theorem dX4_pairingMiles_69 : decode cX4_pairingMiles 69 = .ok (.istore 4, 2) := by decide +kernel
theorem dX4_pairingMiles_71 : decode cX4_pairingMiles 71 = .ok (.iload 4, 2) := by decide +kernel
theorem dX4_pairingMiles_73 : decode cX4_pairingMiles 73 = .ok (.bipush 8, 2) := by decide +kernel
theorem dX4_pairingMiles_75 : decode cX4_pairingMiles 75 = .ok (.if_icmp .ge 66, 3) := by decide +kernel
theorem dX4_pairingMiles_78 : decode cX4_pairingMiles 78 = .ok (.iload_n 2, 1) := by decide +kernel
theorem dX4_pairingMiles_79 : decode cX4_pairingMiles 79 = .ok (.iload 4, 2) := by decide +kernel
theorem dX4_pairingMiles_81 : decode cX4_pairingMiles 81 = .ok (.ishr, 1) := by decide +kernel
theorem dX4_pairingMiles_82 : decode cX4_pairingMiles 82 = .ok (.iconst 1, 1) := by decide +kernel
theorem dX4_pairingMiles_83 : decode cX4_pairingMiles 83 = .ok (.iand, 1) := by decide +kernel
theorem dX4_pairingMiles_84 : decode cX4_pairingMiles 84 = .ok (.iconst 1, 1) := by decide +kernel
theorem dX4_pairingMiles_85 : decode cX4_pairingMiles 85 = .ok (.if_icmp .ne 50, 3) := by decide +kernel
theorem dX4_pairingMiles_88 : decode cX4_pairingMiles 88 = .ok (.iload_n 2, 1) := by decide +kernel
theorem dX4_pairingMiles_89 : decode cX4_pairingMiles 89 = .ok (.iconst 1, 1) := by decide +kernel
theorem dX4_pairingMiles_90 : decode cX4_pairingMiles 90 = .ok (.iload_n 3, 1) := by decide +kernel
theorem dX4_pairingMiles_91 : decode cX4_pairingMiles 91 = .ok (.ishl, 1) := by decide +kernel
theorem dX4_pairingMiles_92 : decode cX4_pairingMiles 92 = .ok (.ixor, 1) := by decide +kernel
theorem dX4_pairingMiles_93 : decode cX4_pairingMiles 93 = .ok (.iconst 1, 1) := by decide +kernel
theorem dX4_pairingMiles_94 : decode cX4_pairingMiles 94 = .ok (.iload 4, 2) := by decide +kernel
theorem dX4_pairingMiles_96 : decode cX4_pairingMiles 96 = .ok (.ishl, 1) := by decide +kernel
theorem dX4_pairingMiles_97 : decode cX4_pairingMiles 97 = .ok (.ixor, 1) := by decide +kernel
theorem dX4_pairingMiles_98 : decode cX4_pairingMiles 98 = .ok (.istore 5, 2) := by decide +kernel
theorem dX4_pairingMiles_100 : decode cX4_pairingMiles 100 = .ok (.aload_n 0, 1) := by decide +kernel
theorem dX4_pairingMiles_101 : decode cX4_pairingMiles 101 = .ok (.getfield 27, 3) := by decide +kernel
theorem dX4_pairingMiles_104 : decode cX4_pairingMiles 104 = .ok (.iload_n 2, 1) := by decide +kernel
theorem dX4_pairingMiles_105 : decode cX4_pairingMiles 105 = .ok (.aload_n 0, 1) := by decide +kernel
theorem dX4_pairingMiles_106 : decode cX4_pairingMiles 106 = .ok (.getfield 27, 3) := by decide +kernel
theorem dX4_pairingMiles_109 : decode cX4_pairingMiles 109 = .ok (.iload_n 2, 1) := by decide +kernel
theorem dX4_pairingMiles_110 : decode cX4_pairingMiles 110 = .ok (.iaload, 1) := by decide +kernel
theorem dX4_pairingMiles_111 : decode cX4_pairingMiles 111 = .ok (.aload_n 0, 1) := by decide +kernel
theorem dX4_pairingMiles_112 : decode cX4_pairingMiles 112 = .ok (.getfield 27, 3) := by decide +kernel
theorem dX4_pairingMiles_115 : decode cX4_pairingMiles 115 = .ok (.iload 5, 2) := by decide +kernel
theorem dX4_pairingMiles_117 : decode cX4_pairingMiles 117 = .ok (.iaload, 1) := by decide +kernel
theorem dX4_pairingMiles_118 : decode cX4_pairingMiles 118 = .ok (.aload_n 0, 1) := by decide +kernel
theorem dX4_pairingMiles_119 : decode cX4_pairingMiles 119 = .ok (.getfield 15, 3) := by decide +kernel
theorem dX4_pairingMiles_122 : decode cX4_pairingMiles 122 = .ok (.iload_n 3, 1) := by decide +kernel
theorem dX4_pairingMiles_123 : decode cX4_pairingMiles 123 = .ok (.bipush 8, 2) := by decide +kernel
theorem dX4_pairingMiles_125 : decode cX4_pairingMiles 125 = .ok (.imul, 1) := by decide +kernel
theorem dX4_pairingMiles_126 : decode cX4_pairingMiles 126 = .ok (.iload 4, 2) := by decide +kernel
theorem dX4_pairingMiles_128 : decode cX4_pairingMiles 128 = .ok (.iadd, 1) := by decide +kernel
theorem dX4_pairingMiles_129 : decode cX4_pairingMiles 129 = .ok (.iaload, 1) := by decide +kernel
theorem dX4_pairingMiles_130 : decode cX4_pairingMiles 130 = .ok (.iadd, 1) := by decide +kernel
theorem dX4_pairingMiles_131 : decode cX4_pairingMiles 131 = .ok (.invokestatic 80, 3) := by decide +kernel
theorem dX4_pairingMiles_134 : decode cX4_pairingMiles 134 = .ok (.iastore, 1) := by decide +kernel
theorem dX4_pairingMiles_135 : decode cX4_pairingMiles 135 = .ok (.iinc 4 1, 3) := by decide +kernel
theorem dX4_pairingMiles_138 : decode cX4_pairingMiles 138 = .ok (.goto (-67), 3) := by decide +kernel
theorem dX4_pairingMiles_141 : decode cX4_pairingMiles 141 = .ok (.iinc 2 1, 3) := by decide +kernel
theorem dX4_pairingMiles_144 : decode cX4_pairingMiles 144 = .ok (.goto (-96), 3) := by decide +kernel
theorem dX4_pairingMiles_147 : decode cX4_pairingMiles 147 = .ok (.aload_n 0, 1) := by decide +kernel
theorem dX4_pairingMiles_148 : decode cX4_pairingMiles 148 = .ok (.getfield 27, 3) := by decide +kernel
theorem dX4_pairingMiles_151 : decode cX4_pairingMiles 151 = .ok (.iload_n 1, 1) := by decide +kernel
theorem dX4_pairingMiles_152 : decode cX4_pairingMiles 152 = .ok (.iaload, 1) := by decide +kernel
theorem dX4_pairingMiles_153 : decode cX4_pairingMiles 153 = .ok (.ireturn, 1) := by decide +kernel
theorem dX4_centreTown_0 : decode cX4_centreTown 0 = .ok (.iconst (-1), 1) := by decide +kernel
theorem dX4_centreTown_1 : decode cX4_centreTown 1 = .ok (.istore_n 1, 1) := by decide +kernel
theorem dX4_centreTown_2 : decode cX4_centreTown 2 = .ok (.ldc 64, 2) := by decide +kernel
theorem dX4_centreTown_4 : decode cX4_centreTown 4 = .ok (.istore_n 2, 1) := by decide +kernel
theorem dX4_centreTown_5 : decode cX4_centreTown 5 = .ok (.iconst 0, 1) := by decide +kernel
theorem dX4_centreTown_6 : decode cX4_centreTown 6 = .ok (.istore_n 3, 1) := by decide +kernel
theorem dX4_centreTown_7 : decode cX4_centreTown 7 = .ok (.iload_n 3, 1) := by decide +kernel
theorem dX4_centreTown_8 : decode cX4_centreTown 8 = .ok (.bipush 8, 2) := by decide +kernel
theorem dX4_centreTown_10 : decode cX4_centreTown 10 = .ok (.if_icmp .ge 41, 3) := by decide +kernel
theorem dX4_centreTown_13 : decode cX4_centreTown 13 = .ok (.aload_n 0, 1) := by decide +kernel
theorem dX4_centreTown_14 : decode cX4_centreTown 14 = .ok (.iload_n 3, 1) := by decide +kernel
theorem dX4_centreTown_15 : decode cX4_centreTown 15 = .ok (.invokevirtual 106, 3) := by decide +kernel
theorem dX4_centreTown_18 : decode cX4_centreTown 18 = .ok (.ifCond .le 27, 3) := by decide +kernel
theorem dX4_centreTown_21 : decode cX4_centreTown 21 = .ok (.aload_n 0, 1) := by decide +kernel
theorem dX4_centreTown_22 : decode cX4_centreTown 22 = .ok (.iload_n 3, 1) := by decide +kernel
theorem dX4_centreTown_23 : decode cX4_centreTown 23 = .ok (.iconst 1, 1) := by decide +kernel
theorem dX4_centreTown_24 : decode cX4_centreTown 24 = .ok (.iconst (-1), 1) := by decide +kernel
theorem dX4_centreTown_25 : decode cX4_centreTown 25 = .ok (.invokevirtual 86, 3) := by decide +kernel
theorem dX4_centreTown_28 : decode cX4_centreTown 28 = .ok (.aload_n 0, 1) := by decide +kernel
theorem dX4_centreTown_29 : decode cX4_centreTown 29 = .ok (.invokevirtual 133, 3) := by decide +kernel
theorem dX4_centreTown_32 : decode cX4_centreTown 32 = .ok (.istore 4, 2) := by decide +kernel
theorem dX4_centreTown_34 : decode cX4_centreTown 34 = .ok (.iload 4, 2) := by decide +kernel
theorem dX4_centreTown_36 : decode cX4_centreTown 36 = .ok (.iload_n 2, 1) := by decide +kernel
theorem dX4_centreTown_37 : decode cX4_centreTown 37 = .ok (.if_icmp .ge 8, 3) := by decide +kernel
theorem dX4_centreTown_40 : decode cX4_centreTown 40 = .ok (.iload 4, 2) := by decide +kernel
theorem dX4_centreTown_42 : decode cX4_centreTown 42 = .ok (.istore_n 2, 1) := by decide +kernel
theorem dX4_centreTown_43 : decode cX4_centreTown 43 = .ok (.iload_n 3, 1) := by decide +kernel
theorem dX4_centreTown_44 : decode cX4_centreTown 44 = .ok (.istore_n 1, 1) := by decide +kernel
theorem dX4_centreTown_45 : decode cX4_centreTown 45 = .ok (.iinc 3 1, 3) := by decide +kernel
theorem dX4_centreTown_48 : decode cX4_centreTown 48 = .ok (.goto (-41), 3) := by decide +kernel
theorem dX4_centreTown_51 : decode cX4_centreTown 51 = .ok (.iload_n 1, 1) := by decide +kernel
theorem dX4_centreTown_52 : decode cX4_centreTown 52 = .ok (.ireturn, 1) := by decide +kernel
theorem dX4_mostMiles_0 : decode cX4_mostMiles 0 = .ok (.iconst 0, 1) := by decide +kernel
theorem dX4_mostMiles_1 : decode cX4_mostMiles 1 = .ok (.istore_n 1, 1) := by decide +kernel
theorem dX4_mostMiles_2 : decode cX4_mostMiles 2 = .ok (.iconst 0, 1) := by decide +kernel
theorem dX4_mostMiles_3 : decode cX4_mostMiles 3 = .ok (.istore_n 2, 1) := by decide +kernel
theorem dX4_mostMiles_4 : decode cX4_mostMiles 4 = .ok (.iload_n 2, 1) := by decide +kernel
theorem dX4_mostMiles_5 : decode cX4_mostMiles 5 = .ok (.bipush 8, 2) := by decide +kernel
theorem dX4_mostMiles_7 : decode cX4_mostMiles 7 = .ok (.if_icmp .ge 31, 3) := by decide +kernel
theorem dX4_mostMiles_10 : decode cX4_mostMiles 10 = .ok (.aload_n 0, 1) := by decide +kernel
theorem dX4_mostMiles_11 : decode cX4_mostMiles 11 = .ok (.getfield 9, 3) := by decide +kernel
theorem dX4_mostMiles_14 : decode cX4_mostMiles 14 = .ok (.iload_n 2, 1) := by decide +kernel
theorem dX4_mostMiles_15 : decode cX4_mostMiles 15 = .ok (.iaload, 1) := by decide +kernel
theorem dX4_mostMiles_16 : decode cX4_mostMiles 16 = .ok (.ldc 64, 2) := by decide +kernel
theorem dX4_mostMiles_18 : decode cX4_mostMiles 18 = .ok (.if_icmp .ge 14, 3) := by decide +kernel
theorem dX4_mostMiles_21 : decode cX4_mostMiles 21 = .ok (.iload_n 1, 1) := by decide +kernel
theorem dX4_mostMiles_22 : decode cX4_mostMiles 22 = .ok (.aload_n 0, 1) := by decide +kernel
theorem dX4_mostMiles_23 : decode cX4_mostMiles 23 = .ok (.getfield 9, 3) := by decide +kernel
theorem dX4_mostMiles_26 : decode cX4_mostMiles 26 = .ok (.iload_n 2, 1) := by decide +kernel
theorem dX4_mostMiles_27 : decode cX4_mostMiles 27 = .ok (.iaload, 1) := by decide +kernel
theorem dX4_mostMiles_28 : decode cX4_mostMiles 28 = .ok (.invokestatic 96, 3) := by decide +kernel
theorem dX4_mostMiles_31 : decode cX4_mostMiles 31 = .ok (.istore_n 1, 1) := by decide +kernel
theorem dX4_mostMiles_32 : decode cX4_mostMiles 32 = .ok (.iinc 2 1, 3) := by decide +kernel
theorem dX4_mostMiles_35 : decode cX4_mostMiles 35 = .ok (.goto (-31), 3) := by decide +kernel
theorem dX4_mostMiles_38 : decode cX4_mostMiles 38 = .ok (.iload_n 1, 1) := by decide +kernel
theorem dX4_mostMiles_39 : decode cX4_mostMiles 39 = .ok (.ireturn, 1) := by decide +kernel
theorem dX4_ringMiles_0 : decode cX4_ringMiles 0 = .ok (.ldc 64, 2) := by decide +kernel
theorem dX4_ringMiles_2 : decode cX4_ringMiles 2 = .ok (.istore_n 2, 1) := by decide +kernel
theorem dX4_ringMiles_3 : decode cX4_ringMiles 3 = .ok (.iconst 0, 1) := by decide +kernel
theorem dX4_ringMiles_4 : decode cX4_ringMiles 4 = .ok (.istore_n 3, 1) := by decide +kernel
theorem dX4_ringMiles_5 : decode cX4_ringMiles 5 = .ok (.iload_n 3, 1) := by decide +kernel
theorem dX4_ringMiles_6 : decode cX4_ringMiles 6 = .ok (.aload_n 0, 1) := by decide +kernel
theorem dX4_ringMiles_7 : decode cX4_ringMiles 7 = .ok (.getfield 37, 3) := by decide +kernel
theorem dX4_ringMiles_10 : decode cX4_ringMiles 10 = .ok (.getfield 50, 3) := by decide +kernel
theorem dX4_ringMiles_13 : decode cX4_ringMiles 13 = .ok (.if_icmp .ge 65, 3) := by decide +kernel
theorem dX4_ringMiles_16 : decode cX4_ringMiles 16 = .ok (.aload_n 0, 1) := by decide +kernel
theorem dX4_ringMiles_17 : decode cX4_ringMiles 17 = .ok (.iload_n 3, 1) := by decide +kernel
theorem dX4_ringMiles_18 : decode cX4_ringMiles 18 = .ok (.invokevirtual 56, 3) := by decide +kernel
theorem dX4_ringMiles_21 : decode cX4_ringMiles 21 = .ok (.ifCond .eq 51, 3) := by decide +kernel
theorem dX4_ringMiles_24 : decode cX4_ringMiles 24 = .ok (.aload_n 0, 1) := by decide +kernel
theorem dX4_ringMiles_25 : decode cX4_ringMiles 25 = .ok (.getfield 37, 3) := by decide +kernel
theorem dX4_ringMiles_28 : decode cX4_ringMiles 28 = .ok (.iload_n 3, 1) := by decide +kernel
theorem dX4_ringMiles_29 : decode cX4_ringMiles 29 = .ok (.iload_n 1, 1) := by decide +kernel
theorem dX4_ringMiles_30 : decode cX4_ringMiles 30 = .ok (.invokevirtual 60, 3) := by decide +kernel
theorem dX4_ringMiles_33 : decode cX4_ringMiles 33 = .ok (.ifCond .eq 39, 3) := by decide +kernel
theorem dX4_ringMiles_36 : decode cX4_ringMiles 36 = .ok (.aload_n 0, 1) := by decide +kernel
theorem dX4_ringMiles_37 : decode cX4_ringMiles 37 = .ok (.aload_n 0, 1) := by decide +kernel
theorem dX4_ringMiles_38 : decode cX4_ringMiles 38 = .ok (.getfield 37, 3) := by decide +kernel
theorem dX4_ringMiles_41 : decode cX4_ringMiles 41 = .ok (.iload_n 3, 1) := by decide +kernel
theorem dX4_ringMiles_42 : decode cX4_ringMiles 42 = .ok (.iload_n 1, 1) := by decide +kernel
theorem dX4_ringMiles_43 : decode cX4_ringMiles 43 = .ok (.invokevirtual 93, 3) := by decide +kernel
theorem dX4_ringMiles_46 : decode cX4_ringMiles 46 = .ok (.iconst 1, 1) := by decide +kernel
theorem dX4_ringMiles_47 : decode cX4_ringMiles 47 = .ok (.iload_n 3, 1) := by decide +kernel
theorem dX4_ringMiles_48 : decode cX4_ringMiles 48 = .ok (.invokevirtual 86, 3) := by decide +kernel
theorem dX4_ringMiles_51 : decode cX4_ringMiles 51 = .ok (.iload_n 2, 1) := by decide +kernel
theorem dX4_ringMiles_52 : decode cX4_ringMiles 52 = .ok (.aload_n 0, 1) := by decide +kernel
theorem dX4_ringMiles_53 : decode cX4_ringMiles 53 = .ok (.getfield 9, 3) := by decide +kernel
theorem dX4_ringMiles_56 : decode cX4_ringMiles 56 = .ok (.iload_n 1, 1) := by decide +kernel
theorem dX4_ringMiles_57 : decode cX4_ringMiles 57 = .ok (.iaload, 1) := by decide +kernel
theorem dX4_ringMiles_58 : decode cX4_ringMiles 58 = .ok (.aload_n 0, 1) := by decide +kernel
theorem dX4_ringMiles_59 : decode cX4_ringMiles 59 = .ok (.getfield 37, 3) := by decide +kernel
theorem dX4_ringMiles_62 : decode cX4_ringMiles 62 = .ok (.getfield 77, 3) := by decide +kernel
theorem dX4_ringMiles_65 : decode cX4_ringMiles 65 = .ok (.iload_n 3, 1) := by decide +kernel
theorem dX4_ringMiles_66 : decode cX4_ringMiles 66 = .ok (.iaload, 1) := by decide +kernel
theorem dX4_ringMiles_67 : decode cX4_ringMiles 67 = .ok (.iadd, 1) := by decide +kernel
theorem dX4_ringMiles_68 : decode cX4_ringMiles 68 = .ok (.invokestatic 80, 3) := by decide +kernel
theorem dX4_ringMiles_71 : decode cX4_ringMiles 71 = .ok (.istore_n 2, 1) := by decide +kernel
theorem dX4_ringMiles_72 : decode cX4_ringMiles 72 = .ok (.iinc 3 1, 3) := by decide +kernel
theorem dX4_ringMiles_75 : decode cX4_ringMiles 75 = .ok (.goto (-70), 3) := by decide +kernel
theorem dX4_ringMiles_78 : decode cX4_ringMiles 78 = .ok (.iload_n 2, 1) := by decide +kernel
theorem dX4_ringMiles_79 : decode cX4_ringMiles 79 = .ok (.ldc 64, 2) := by decide +kernel
theorem dX4_ringMiles_81 : decode cX4_ringMiles 81 = .ok (.if_icmp .ge 7, 3) := by decide +kernel
theorem dX4_ringMiles_84 : decode cX4_ringMiles 84 = .ok (.iload_n 2, 1) := by decide +kernel
theorem dX4_ringMiles_85 : decode cX4_ringMiles 85 = .ok (.goto 4, 3) := by decide +kernel
theorem dX4_ringMiles_88 : decode cX4_ringMiles 88 = .ok (.iconst (-1), 1) := by decide +kernel
theorem dX4_ringMiles_89 : decode cX4_ringMiles 89 = .ok (.ireturn, 1) := by decide +kernel
theorem dX4_watchTowns_0 : decode cX4_watchTowns 0 = .ok (.sipush 255, 3) := by decide +kernel
theorem dX4_watchTowns_3 : decode cX4_watchTowns 3 = .ok (.istore_n 1, 1) := by decide +kernel
theorem dX4_watchTowns_4 : decode cX4_watchTowns 4 = .ok (.sipush 255, 3) := by decide +kernel
theorem dX4_watchTowns_7 : decode cX4_watchTowns 7 = .ok (.istore_n 2, 1) := by decide +kernel
theorem dX4_watchTowns_8 : decode cX4_watchTowns 8 = .ok (.iload_n 2, 1) := by decide +kernel
theorem dX4_watchTowns_9 : decode cX4_watchTowns 9 = .ok (.ifCond .lt 30, 3) := by decide +kernel
theorem dX4_watchTowns_12 : decode cX4_watchTowns 12 = .ok (.iload_n 2, 1) := by decide +kernel
theorem dX4_watchTowns_13 : decode cX4_watchTowns 13 = .ok (.invokestatic 113, 3) := by decide +kernel
theorem dX4_watchTowns_16 : decode cX4_watchTowns 16 = .ok (.iload_n 1, 1) := by decide +kernel
theorem dX4_watchTowns_17 : decode cX4_watchTowns 17 = .ok (.invokestatic 113, 3) := by decide +kernel
theorem dX4_watchTowns_20 : decode cX4_watchTowns 20 = .ok (.if_icmp .gt 13, 3) := by decide +kernel
theorem dX4_watchTowns_23 : decode cX4_watchTowns 23 = .ok (.aload_n 0, 1) := by decide +kernel
theorem dX4_watchTowns_24 : decode cX4_watchTowns 24 = .ok (.iload_n 2, 1) := by decide +kernel
theorem dX4_watchTowns_25 : decode cX4_watchTowns 25 = .ok (.invokevirtual 136, 3) := by decide +kernel
theorem dX4_watchTowns_28 : decode cX4_watchTowns 28 = .ok (.ifCond .eq 5, 3) := by decide +kernel
theorem dX4_watchTowns_31 : decode cX4_watchTowns 31 = .ok (.iload_n 2, 1) := by decide +kernel
theorem dX4_watchTowns_32 : decode cX4_watchTowns 32 = .ok (.istore_n 1, 1) := by decide +kernel
theorem dX4_watchTowns_33 : decode cX4_watchTowns 33 = .ok (.iinc 2 (-1), 3) := by decide +kernel
theorem dX4_watchTowns_36 : decode cX4_watchTowns 36 = .ok (.goto (-28), 3) := by decide +kernel
theorem dX4_watchTowns_39 : decode cX4_watchTowns 39 = .ok (.iload_n 1, 1) := by decide +kernel
theorem dX4_watchTowns_40 : decode cX4_watchTowns 40 = .ok (.ireturn, 1) := by decide +kernel
theorem dX4_watchesAll_0 : decode cX4_watchesAll 0 = .ok (.iconst 0, 1) := by decide +kernel
theorem dX4_watchesAll_1 : decode cX4_watchesAll 1 = .ok (.istore_n 2, 1) := by decide +kernel
theorem dX4_watchesAll_2 : decode cX4_watchesAll 2 = .ok (.iload_n 2, 1) := by decide +kernel
theorem dX4_watchesAll_3 : decode cX4_watchesAll 3 = .ok (.aload_n 0, 1) := by decide +kernel
theorem dX4_watchesAll_4 : decode cX4_watchesAll 4 = .ok (.getfield 37, 3) := by decide +kernel
theorem dX4_watchesAll_7 : decode cX4_watchesAll 7 = .ok (.getfield 50, 3) := by decide +kernel
theorem dX4_watchesAll_10 : decode cX4_watchesAll 10 = .ok (.if_icmp .ge 51, 3) := by decide +kernel
theorem dX4_watchesAll_13 : decode cX4_watchesAll 13 = .ok (.aload_n 0, 1) := by decide +kernel
theorem dX4_watchesAll_14 : decode cX4_watchesAll 14 = .ok (.iload_n 2, 1) := by decide +kernel
theorem dX4_watchesAll_15 : decode cX4_watchesAll 15 = .ok (.invokevirtual 56, 3) := by decide +kernel
theorem dX4_watchesAll_18 : decode cX4_watchesAll 18 = .ok (.ifCond .eq 37, 3) := by decide +kernel
theorem dX4_watchesAll_21 : decode cX4_watchesAll 21 = .ok (.iload_n 1, 1) := by decide +kernel
theorem dX4_watchesAll_22 : decode cX4_watchesAll 22 = .ok (.aload_n 0, 1) := by decide +kernel
theorem dX4_watchesAll_23 : decode cX4_watchesAll 23 = .ok (.getfield 37, 3) := by decide +kernel
theorem dX4_watchesAll_26 : decode cX4_watchesAll 26 = .ok (.getfield 71, 3) := by decide +kernel
theorem dX4_watchesAll_29 : decode cX4_watchesAll 29 = .ok (.iload_n 2, 1) := by decide +kernel
theorem dX4_watchesAll_30 : decode cX4_watchesAll 30 = .ok (.iaload, 1) := by decide +kernel
theorem dX4_watchesAll_31 : decode cX4_watchesAll 31 = .ok (.ishr, 1) := by decide +kernel
theorem dX4_watchesAll_32 : decode cX4_watchesAll 32 = .ok (.iconst 1, 1) := by decide +kernel
theorem dX4_watchesAll_33 : decode cX4_watchesAll 33 = .ok (.iand, 1) := by decide +kernel
theorem dX4_watchesAll_34 : decode cX4_watchesAll 34 = .ok (.ifCond .ne 21, 3) := by decide +kernel
theorem dX4_watchesAll_37 : decode cX4_watchesAll 37 = .ok (.iload_n 1, 1) := by decide +kernel
theorem dX4_watchesAll_38 : decode cX4_watchesAll 38 = .ok (.aload_n 0, 1) := by decide +kernel
theorem dX4_watchesAll_39 : decode cX4_watchesAll 39 = .ok (.getfield 37, 3) := by decide +kernel
theorem dX4_watchesAll_42 : decode cX4_watchesAll 42 = .ok (.getfield 74, 3) := by decide +kernel
theorem dX4_watchesAll_45 : decode cX4_watchesAll 45 = .ok (.iload_n 2, 1) := by decide +kernel
theorem dX4_watchesAll_46 : decode cX4_watchesAll 46 = .ok (.iaload, 1) := by decide +kernel
theorem dX4_watchesAll_47 : decode cX4_watchesAll 47 = .ok (.ishr, 1) := by decide +kernel
theorem dX4_watchesAll_48 : decode cX4_watchesAll 48 = .ok (.iconst 1, 1) := by decide +kernel
theorem dX4_watchesAll_49 : decode cX4_watchesAll 49 = .ok (.iand, 1) := by decide +kernel
theorem dX4_watchesAll_50 : decode cX4_watchesAll 50 = .ok (.ifCond .ne 5, 3) := by decide +kernel
theorem dX4_watchesAll_53 : decode cX4_watchesAll 53 = .ok (.iconst 0, 1) := by decide +kernel
theorem dX4_watchesAll_54 : decode cX4_watchesAll 54 = .ok (.ireturn, 1) := by decide +kernel
theorem dX4_watchesAll_55 : decode cX4_watchesAll 55 = .ok (.iinc 2 1, 3) := by decide +kernel
theorem dX4_watchesAll_58 : decode cX4_watchesAll 58 = .ok (.goto (-56), 3) := by decide +kernel
theorem dX4_watchesAll_61 : decode cX4_watchesAll 61 = .ok (.iconst 1, 1) := by decide +kernel
theorem dX4_watchesAll_62 : decode cX4_watchesAll 62 = .ok (.ireturn, 1) := by decide +kernel
theorem dX4_colourCount_0 : decode cX4_colourCount 0 = .ok (.aload_n 0, 1) := by decide +kernel
theorem dX4_colourCount_1 : decode cX4_colourCount 1 = .ok (.invokevirtual 139, 3) := by decide +kernel
theorem dX4_colourCount_4 : decode cX4_colourCount 4 = .ok (.aload_n 0, 1) := by decide +kernel
theorem dX4_colourCount_5 : decode cX4_colourCount 5 = .ok (.getfield 27, 3) := by decide +kernel
theorem dX4_colourCount_8 : decode cX4_colourCount 8 = .ok (.iconst 0, 1) := by decide +kernel
theorem dX4_colourCount_9 : decode cX4_colourCount 9 = .ok (.iconst 0, 1) := by decide +kernel
theorem dX4_colourCount_10 : decode cX4_colourCount 10 = .ok (.iastore, 1) := by decide +kernel
theorem dX4_colourCount_11 : decode cX4_colourCount 11 = .ok (.iconst 1, 1) := by decide +kernel
theorem dX4_colourCount_12 : decode cX4_colourCount 12 = .ok (.istore_n 1, 1) := by decide +kernel
theorem dX4_colourCount_13 : decode cX4_colourCount 13 = .ok (.iload_n 1, 1) := by decide +kernel
theorem dX4_colourCount_14 : decode cX4_colourCount 14 = .ok (.sipush 256, 3) := by decide +kernel
theorem dX4_colourCount_17 : decode cX4_colourCount 17 = .ok (.if_icmp .ge 76, 3) := by decide +kernel
theorem dX4_colourCount_20 : decode cX4_colourCount 20 = .ok (.iload_n 1, 1) := by decide +kernel
theorem dX4_colourCount_21 : decode cX4_colourCount 21 = .ok (.iload_n 1, 1) := by decide +kernel
theorem dX4_colourCount_22 : decode cX4_colourCount 22 = .ok (.ineg, 1) := by decide +kernel
theorem dX4_colourCount_23 : decode cX4_colourCount 23 = .ok (.iand, 1) := by decide +kernel
theorem dX4_colourCount_24 : decode cX4_colourCount 24 = .ok (.istore_n 2, 1) := by decide +kernel
theorem dX4_colourCount_25 : decode cX4_colourCount 25 = .ok (.aload_n 0, 1) := by decide +kernel
theorem dX4_colourCount_26 : decode cX4_colourCount 26 = .ok (.getfield 27, 3) := by decide +kernel
theorem dX4_colourCount_29 : decode cX4_colourCount 29 = .ok (.iload_n 1, 1) := by decide +kernel
theorem dX4_colourCount_30 : decode cX4_colourCount 30 = .ok (.ldc 64, 2) := by decide +kernel
theorem dX4_colourCount_32 : decode cX4_colourCount 32 = .ok (.iastore, 1) := by decide +kernel
theorem dX4_colourCount_33 : decode cX4_colourCount 33 = .ok (.iload_n 1, 1) := by decide +kernel
theorem dX4_colourCount_34 : decode cX4_colourCount 34 = .ok (.istore_n 3, 1) := by decide +kernel
theorem dX4_colourCount_35 : decode cX4_colourCount 35 = .ok (.iload_n 3, 1) := by decide +kernel
theorem dX4_colourCount_36 : decode cX4_colourCount 36 = .ok (.ifCond .le 51, 3) := by decide +kernel
theorem dX4_colourCount_39 : decode cX4_colourCount 39 = .ok (.iload_n 3, 1) := by decide +kernel
theorem dX4_colourCount_40 : decode cX4_colourCount 40 = .ok (.iload_n 2, 1) := by decide +kernel
theorem dX4_colourCount_41 : decode cX4_colourCount 41 = .ok (.iand, 1) := by decide +kernel
theorem dX4_colourCount_42 : decode cX4_colourCount 42 = .ok (.ifCond .eq 36, 3) := by decide +kernel
theorem dX4_colourCount_45 : decode cX4_colourCount 45 = .ok (.aload_n 0, 1) := by decide +kernel
theorem dX4_colourCount_46 : decode cX4_colourCount 46 = .ok (.iload_n 3, 1) := by decide +kernel
theorem dX4_colourCount_47 : decode cX4_colourCount 47 = .ok (.invokevirtual 142, 3) := by decide +kernel
theorem dX4_colourCount_50 : decode cX4_colourCount 50 = .ok (.ifCond .eq 28, 3) := by decide +kernel
theorem dX4_colourCount_53 : decode cX4_colourCount 53 = .ok (.aload_n 0, 1) := by decide +kernel
theorem dX4_colourCount_54 : decode cX4_colourCount 54 = .ok (.getfield 27, 3) := by decide +kernel
theorem dX4_colourCount_57 : decode cX4_colourCount 57 = .ok (.iload_n 1, 1) := by decide +kernel
theorem dX4_colourCount_58 : decode cX4_colourCount 58 = .ok (.aload_n 0, 1) := by decide +kernel
theorem dX4_colourCount_59 : decode cX4_colourCount 59 = .ok (.getfield 27, 3) := by decide +kernel
theorem dX4_colourCount_62 : decode cX4_colourCount 62 = .ok (.iload_n 1, 1) := by decide +kernel
theorem dX4_colourCount_63 : decode cX4_colourCount 63 = .ok (.iaload, 1) := by decide +kernel
theorem dX4_colourCount_64 : decode cX4_colourCount 64 = .ok (.iconst 1, 1) := by decide +kernel
theorem dX4_colourCount_65 : decode cX4_colourCount 65 = .ok (.aload_n 0, 1) := by decide +kernel
theorem dX4_colourCount_66 : decode cX4_colourCount 66 = .ok (.getfield 27, 3) := by decide +kernel
theorem dX4_colourCount_69 : decode cX4_colourCount 69 = .ok (.iload_n 1, 1) := by decide +kernel
theorem dX4_colourCount_70 : decode cX4_colourCount 70 = .ok (.iload_n 3, 1) := by decide +kernel
theorem dX4_colourCount_71 : decode cX4_colourCount 71 = .ok (.ixor, 1) := by decide +kernel
theorem dX4_colourCount_72 : decode cX4_colourCount 72 = .ok (.iaload, 1) := by decide +kernel
theorem dX4_colourCount_73 : decode cX4_colourCount 73 = .ok (.iadd, 1) := by decide +kernel
theorem dX4_colourCount_74 : decode cX4_colourCount 74 = .ok (.invokestatic 80, 3) := by decide +kernel
theorem dX4_colourCount_77 : decode cX4_colourCount 77 = .ok (.iastore, 1) := by decide +kernel
theorem dX4_colourCount_78 : decode cX4_colourCount 78 = .ok (.iload_n 3, 1) := by decide +kernel
theorem dX4_colourCount_79 : decode cX4_colourCount 79 = .ok (.iconst 1, 1) := by decide +kernel
theorem dX4_colourCount_80 : decode cX4_colourCount 80 = .ok (.isub, 1) := by decide +kernel
theorem dX4_colourCount_81 : decode cX4_colourCount 81 = .ok (.iload_n 1, 1) := by decide +kernel
theorem dX4_colourCount_82 : decode cX4_colourCount 82 = .ok (.iand, 1) := by decide +kernel
theorem dX4_colourCount_83 : decode cX4_colourCount 83 = .ok (.istore_n 3, 1) := by decide +kernel
theorem dX4_colourCount_84 : decode cX4_colourCount 84 = .ok (.goto (-49), 3) := by decide +kernel
theorem dX4_colourCount_87 : decode cX4_colourCount 87 = .ok (.iinc 1 1, 3) := by decide +kernel
theorem dX4_colourCount_90 : decode cX4_colourCount 90 = .ok (.goto (-77), 3) := by decide +kernel
theorem dX4_colourCount_93 : decode cX4_colourCount 93 = .ok (.aload_n 0, 1) := by decide +kernel
theorem dX4_colourCount_94 : decode cX4_colourCount 94 = .ok (.getfield 27, 3) := by decide +kernel
theorem dX4_colourCount_97 : decode cX4_colourCount 97 = .ok (.sipush 255, 3) := by decide +kernel
theorem dX4_colourCount_100 : decode cX4_colourCount 100 = .ok (.iaload, 1) := by decide +kernel
theorem dX4_colourCount_101 : decode cX4_colourCount 101 = .ok (.ireturn, 1) := by decide +kernel
theorem dX4_findNear_0 : decode cX4_findNear 0 = .ok (.aload_n 0, 1) := by decide +kernel
theorem dX4_findNear_1 : decode cX4_findNear 1 = .ok (.getfield 24, 3) := by decide +kernel
theorem dX4_findNear_4 : decode cX4_findNear 4 = .ok (.iconst 0, 1) := by decide +kernel
theorem dX4_findNear_5 : decode cX4_findNear 5 = .ok (.invokestatic 65, 3) := by decide +kernel
theorem dX4_findNear_8 : decode cX4_findNear 8 = .ok (.iconst 0, 1) := by decide +kernel
theorem dX4_findNear_9 : decode cX4_findNear 9 = .ok (.istore_n 1, 1) := by decide +kernel
theorem dX4_findNear_10 : decode cX4_findNear 10 = .ok (.iload_n 1, 1) := by decide +kernel
theorem dX4_findNear_11 : decode cX4_findNear 11 = .ok (.aload_n 0, 1) := by decide +kernel
theorem dX4_findNear_12 : decode cX4_findNear 12 = .ok (.getfield 37, 3) := by decide +kernel
theorem dX4_findNear_15 : decode cX4_findNear 15 = .ok (.getfield 50, 3) := by decide +kernel
theorem dX4_findNear_18 : decode cX4_findNear 18 = .ok (.if_icmp .ge 73, 3) := by decide +kernel
theorem dX4_findNear_21 : decode cX4_findNear 21 = .ok (.aload_n 0, 1) := by decide +kernel
theorem dX4_findNear_22 : decode cX4_findNear 22 = .ok (.iload_n 1, 1) := by decide +kernel
theorem dX4_findNear_23 : decode cX4_findNear 23 = .ok (.invokevirtual 56, 3) := by decide +kernel
theorem dX4_findNear_26 : decode cX4_findNear 26 = .ok (.ifCond .eq 59, 3) := by decide +kernel
theorem dX4_findNear_29 : decode cX4_findNear 29 = .ok (.aload_n 0, 1) := by decide +kernel
theorem dX4_findNear_30 : decode cX4_findNear 30 = .ok (.getfield 24, 3) := by decide +kernel
theorem dX4_findNear_33 : decode cX4_findNear 33 = .ok (.aload_n 0, 1) := by decide +kernel
theorem dX4_findNear_34 : decode cX4_findNear 34 = .ok (.getfield 37, 3) := by decide +kernel
theorem dX4_findNear_37 : decode cX4_findNear 37 = .ok (.getfield 71, 3) := by decide +kernel
theorem dX4_findNear_40 : decode cX4_findNear 40 = .ok (.iload_n 1, 1) := by decide +kernel
theorem dX4_findNear_41 : decode cX4_findNear 41 = .ok (.iaload, 1) := by decide +kernel
theorem dX4_findNear_42 : decode cX4_findNear 42 = .ok (.dup2, 1) := by decide +kernel
theorem dX4_findNear_43 : decode cX4_findNear 43 = .ok (.iaload, 1) := by decide +kernel
theorem dX4_findNear_44 : decode cX4_findNear 44 = .ok (.iconst 1, 1) := by decide +kernel
theorem dX4_findNear_45 : decode cX4_findNear 45 = .ok (.aload_n 0, 1) := by decide +kernel
theorem dX4_findNear_46 : decode cX4_findNear 46 = .ok (.getfield 37, 3) := by decide +kernel
theorem dX4_findNear_49 : decode cX4_findNear 49 = .ok (.getfield 74, 3) := by decide +kernel
theorem dX4_findNear_52 : decode cX4_findNear 52 = .ok (.iload_n 1, 1) := by decide +kernel
theorem dX4_findNear_53 : decode cX4_findNear 53 = .ok (.iaload, 1) := by decide +kernel
theorem dX4_findNear_54 : decode cX4_findNear 54 = .ok (.ishl, 1) := by decide +kernel
theorem dX4_findNear_55 : decode cX4_findNear 55 = .ok (.ior, 1) := by decide +kernel
theorem dX4_findNear_56 : decode cX4_findNear 56 = .ok (.iastore, 1) := by decide +kernel
theorem dX4_findNear_57 : decode cX4_findNear 57 = .ok (.aload_n 0, 1) := by decide +kernel
theorem dX4_findNear_58 : decode cX4_findNear 58 = .ok (.getfield 24, 3) := by decide +kernel
theorem dX4_findNear_61 : decode cX4_findNear 61 = .ok (.aload_n 0, 1) := by decide +kernel
theorem dX4_findNear_62 : decode cX4_findNear 62 = .ok (.getfield 37, 3) := by decide +kernel
theorem dX4_findNear_65 : decode cX4_findNear 65 = .ok (.getfield 74, 3) := by decide +kernel
theorem dX4_findNear_68 : decode cX4_findNear 68 = .ok (.iload_n 1, 1) := by decide +kernel
theorem dX4_findNear_69 : decode cX4_findNear 69 = .ok (.iaload, 1) := by decide +kernel
theorem dX4_findNear_70 : decode cX4_findNear 70 = .ok (.dup2, 1) := by decide +kernel
theorem dX4_findNear_71 : decode cX4_findNear 71 = .ok (.iaload, 1) := by decide +kernel
theorem dX4_findNear_72 : decode cX4_findNear 72 = .ok (.iconst 1, 1) := by decide +kernel
theorem dX4_findNear_73 : decode cX4_findNear 73 = .ok (.aload_n 0, 1) := by decide +kernel
theorem dX4_findNear_74 : decode cX4_findNear 74 = .ok (.getfield 37, 3) := by decide +kernel
theorem dX4_findNear_77 : decode cX4_findNear 77 = .ok (.getfield 71, 3) := by decide +kernel
theorem dX4_findNear_80 : decode cX4_findNear 80 = .ok (.iload_n 1, 1) := by decide +kernel
theorem dX4_findNear_81 : decode cX4_findNear 81 = .ok (.iaload, 1) := by decide +kernel
theorem dX4_findNear_82 : decode cX4_findNear 82 = .ok (.ishl, 1) := by decide +kernel
theorem dX4_findNear_83 : decode cX4_findNear 83 = .ok (.ior, 1) := by decide +kernel
theorem dX4_findNear_84 : decode cX4_findNear 84 = .ok (.iastore, 1) := by decide +kernel
theorem dX4_findNear_85 : decode cX4_findNear 85 = .ok (.iinc 1 1, 3) := by decide +kernel
theorem dX4_findNear_88 : decode cX4_findNear 88 = .ok (.goto (-78), 3) := by decide +kernel
theorem dX4_findNear_91 : decode cX4_findNear 91 = .ok (.return_, 1) := by decide +kernel
theorem dX4_isRoadless_0 : decode cX4_isRoadless 0 = .ok (.iconst 0, 1) := by decide +kernel
theorem dX4_isRoadless_1 : decode cX4_isRoadless 1 = .ok (.istore_n 2, 1) := by decide +kernel
theorem dX4_isRoadless_2 : decode cX4_isRoadless 2 = .ok (.iload_n 2, 1) := by decide +kernel
theorem dX4_isRoadless_3 : decode cX4_isRoadless 3 = .ok (.bipush 8, 2) := by decide +kernel
theorem dX4_isRoadless_5 : decode cX4_isRoadless 5 = .ok (.if_icmp .ge 31, 3) := by decide +kernel
theorem dX4_isRoadless_8 : decode cX4_isRoadless 8 = .ok (.iload_n 1, 1) := by decide +kernel
theorem dX4_isRoadless_9 : decode cX4_isRoadless 9 = .ok (.iload_n 2, 1) := by decide +kernel
theorem dX4_isRoadless_10 : decode cX4_isRoadless 10 = .ok (.ishr, 1) := by decide +kernel
theorem dX4_isRoadless_11 : decode cX4_isRoadless 11 = .ok (.iconst 1, 1) := by decide +kernel
theorem dX4_isRoadless_12 : decode cX4_isRoadless 12 = .ok (.iand, 1) := by decide +kernel
theorem dX4_isRoadless_13 : decode cX4_isRoadless 13 = .ok (.iconst 1, 1) := by decide +kernel
theorem dX4_isRoadless_14 : decode cX4_isRoadless 14 = .ok (.if_icmp .ne 16, 3) := by decide +kernel
theorem dX4_isRoadless_17 : decode cX4_isRoadless 17 = .ok (.aload_n 0, 1) := by decide +kernel
theorem dX4_isRoadless_18 : decode cX4_isRoadless 18 = .ok (.getfield 24, 3) := by decide +kernel
theorem dX4_isRoadless_21 : decode cX4_isRoadless 21 = .ok (.iload_n 2, 1) := by decide +kernel
theorem dX4_isRoadless_22 : decode cX4_isRoadless 22 = .ok (.iaload, 1) := by decide +kernel
theorem dX4_isRoadless_23 : decode cX4_isRoadless 23 = .ok (.iload_n 1, 1) := by decide +kernel
theorem dX4_isRoadless_24 : decode cX4_isRoadless 24 = .ok (.iand, 1) := by decide +kernel
theorem dX4_isRoadless_25 : decode cX4_isRoadless 25 = .ok (.ifCond .eq 5, 3) := by decide +kernel
theorem dX4_isRoadless_28 : decode cX4_isRoadless 28 = .ok (.iconst 0, 1) := by decide +kernel
theorem dX4_isRoadless_29 : decode cX4_isRoadless 29 = .ok (.ireturn, 1) := by decide +kernel
theorem dX4_isRoadless_30 : decode cX4_isRoadless 30 = .ok (.iinc 2 1, 3) := by decide +kernel
theorem dX4_isRoadless_33 : decode cX4_isRoadless 33 = .ok (.goto (-31), 3) := by decide +kernel
theorem dX4_isRoadless_36 : decode cX4_isRoadless 36 = .ok (.iconst 1, 1) := by decide +kernel
theorem dX4_isRoadless_37 : decode cX4_isRoadless 37 = .ok (.ireturn, 1) := by decide +kernel
theorem dX4_chance_0 : decode cX4_chance 0 = .ok (.lconst 1, 1) := by decide +kernel
theorem dX4_chance_1 : decode cX4_chance 1 = .ok (.lstore 5, 2) := by decide +kernel
theorem dX4_chance_3 : decode cX4_chance 3 = .ok (.iconst 0, 1) := by decide +kernel
theorem dX4_chance_4 : decode cX4_chance 4 = .ok (.istore 7, 2) := by decide +kernel
theorem dX4_chance_6 : decode cX4_chance 6 = .ok (.iload 7, 2) := by decide +kernel
theorem dX4_chance_8 : decode cX4_chance 8 = .ok (.bipush 8, 2) := by decide +kernel
theorem dX4_chance_10 : decode cX4_chance 10 = .ok (.if_icmp .ge 42, 3) := by decide +kernel
theorem dX4_chance_13 : decode cX4_chance 13 = .ok (.iconst 1, 1) := by decide +kernel
theorem dX4_chance_14 : decode cX4_chance 14 = .ok (.aload_n 0, 1) := by decide +kernel
theorem dX4_chance_15 : decode cX4_chance 15 = .ok (.iload 7, 2) := by decide +kernel
theorem dX4_chance_17 : decode cX4_chance 17 = .ok (.invokevirtual 106, 3) := by decide +kernel
theorem dX4_chance_20 : decode cX4_chance 20 = .ok (.invokestatic 96, 3) := by decide +kernel
theorem dX4_chance_23 : decode cX4_chance 23 = .ok (.istore 8, 2) := by decide +kernel
theorem dX4_chance_25 : decode cX4_chance 25 = .ok (.lload 5, 2) := by decide +kernel
theorem dX4_chance_27 : decode cX4_chance 27 = .ok (.lconst 1, 1) := by decide +kernel
theorem dX4_chance_28 : decode cX4_chance 28 = .ok (.lload 5, 2) := by decide +kernel
theorem dX4_chance_30 : decode cX4_chance 30 = .ok (.iload 8, 2) := by decide +kernel
theorem dX4_chance_32 : decode cX4_chance 32 = .ok (.i2l, 1) := by decide +kernel
theorem dX4_chance_33 : decode cX4_chance 33 = .ok (.invokestatic 145, 3) := by decide +kernel
theorem dX4_chance_36 : decode cX4_chance 36 = .ok (.invokestatic 151, 3) := by decide +kernel
theorem dX4_chance_39 : decode cX4_chance 39 = .ok (.ldiv, 1) := by decide +kernel
theorem dX4_chance_40 : decode cX4_chance 40 = .ok (.iload 8, 2) := by decide +kernel
theorem dX4_chance_42 : decode cX4_chance 42 = .ok (.i2l, 1) := by decide +kernel
theorem dX4_chance_43 : decode cX4_chance 43 = .ok (.lmul, 1) := by decide +kernel
theorem dX4_chance_44 : decode cX4_chance 44 = .ok (.lstore 5, 2) := by decide +kernel
theorem dX4_chance_46 : decode cX4_chance 46 = .ok (.iinc 7 1, 3) := by decide +kernel
theorem dX4_chance_49 : decode cX4_chance 49 = .ok (.goto (-43), 3) := by decide +kernel
theorem dX4_chance_52 : decode cX4_chance 52 = .ok (.aload_n 0, 1) := by decide +kernel
theorem dX4_chance_53 : decode cX4_chance 53 = .ok (.getfield 30, 3) := by decide +kernel
theorem dX4_chance_56 : decode cX4_chance 56 = .ok (.lconst 0, 1) := by decide +kernel
theorem dX4_chance_57 : decode cX4_chance 57 = .ok (.invokestatic 153, 3) := by decide +kernel
theorem dX4_chance_60 : decode cX4_chance 60 = .ok (.aload_n 0, 1) := by decide +kernel
theorem dX4_chance_61 : decode cX4_chance 61 = .ok (.getfield 30, 3) := by decide +kernel
theorem dX4_chance_64 : decode cX4_chance 64 = .ok (.iload_n 1, 1) := by decide +kernel
theorem dX4_chance_65 : decode cX4_chance 65 = .ok (.lconst 1, 1) := by decide +kernel
theorem dX4_chance_66 : decode cX4_chance 66 = .ok (.lastore, 1) := by decide +kernel
theorem dX4_chance_67 : decode cX4_chance 67 = .ok (.lconst 1, 1) := by decide +kernel
theorem dX4_chance_68 : decode cX4_chance 68 = .ok (.lstore 7, 2) := by decide +kernel
theorem dX4_chance_70 : decode cX4_chance 70 = .ok (.iconst 0, 1) := by decide +kernel
theorem dX4_chance_71 : decode cX4_chance 71 = .ok (.istore 9, 2) := by decide +kernel
theorem dX4_chance_73 : decode cX4_chance 73 = .ok (.iload 9, 2) := by decide +kernel
theorem dX4_chance_75 : decode cX4_chance 75 = .ok (.iload_n 2, 1) := by decide +kernel
theorem dX4_chance_76 : decode cX4_chance 76 = .ok (.if_icmp .ge 22, 3) := by decide +kernel
theorem dX4_chance_79 : decode cX4_chance 79 = .ok (.aload_n 0, 1) := by decide +kernel
theorem dX4_chance_80 : decode cX4_chance 80 = .ok (.lload 5, 2) := by decide +kernel
theorem dX4_chance_82 : decode cX4_chance 82 = .ok (.invokevirtual 156, 3) := by decide +kernel
theorem dX4_chance_85 : decode cX4_chance 85 = .ok (.lload 7, 2) := by decide +kernel
theorem dX4_chance_87 : decode cX4_chance 87 = .ok (.lload 5, 2) := by decide +kernel
theorem dX4_chance_89 : decode cX4_chance 89 = .ok (.lmul, 1) := by decide +kernel
theorem dX4_chance_90 : decode cX4_chance 90 = .ok (.lstore 7, 2) := by decide +kernel
theorem dX4_chance_92 : decode cX4_chance 92 = .ok (.iinc 9 1, 3) := by decide +kernel
theorem dX4_chance_95 : decode cX4_chance 95 = .ok (.goto (-22), 3) := by decide +kernel
theorem dX4_chance_98 : decode cX4_chance 98 = .ok (.lconst 1, 1) := by decide +kernel
theorem dX4_chance_99 : decode cX4_chance 99 = .ok (.aload_n 0, 1) := by decide +kernel
theorem dX4_chance_100 : decode cX4_chance 100 = .ok (.getfield 30, 3) := by decide +kernel
theorem dX4_chance_103 : decode cX4_chance 103 = .ok (.iload_n 3, 1) := by decide +kernel
theorem dX4_chance_104 : decode cX4_chance 104 = .ok (.laload, 1) := by decide +kernel
theorem dX4_chance_105 : decode cX4_chance 105 = .ok (.lload 7, 2) := by decide +kernel
theorem dX4_chance_107 : decode cX4_chance 107 = .ok (.invokestatic 145, 3) := by decide +kernel
theorem dX4_chance_110 : decode cX4_chance 110 = .ok (.invokestatic 151, 3) := by decide +kernel
theorem dX4_chance_113 : decode cX4_chance 113 = .ok (.lstore 9, 2) := by decide +kernel
theorem dX4_chance_115 : decode cX4_chance 115 = .ok (.iload 4, 2) := by decide +kernel
theorem dX4_chance_117 : decode cX4_chance 117 = .ok (.ifCond .eq 8, 3) := by decide +kernel
theorem dX4_chance_120 : decode cX4_chance 120 = .ok (.lload 7, 2) := by decide +kernel
theorem dX4_chance_122 : decode cX4_chance 122 = .ok (.goto 9, 3) := by decide +kernel
theorem dX4_chance_125 : decode cX4_chance 125 = .ok (.aload_n 0, 1) := by decide +kernel
theorem dX4_chance_126 : decode cX4_chance 126 = .ok (.getfield 30, 3) := by decide +kernel
theorem dX4_chance_129 : decode cX4_chance 129 = .ok (.iload_n 3, 1) := by decide +kernel
theorem dX4_chance_130 : decode cX4_chance 130 = .ok (.laload, 1) := by decide +kernel
theorem dX4_chance_131 : decode cX4_chance 131 = .ok (.lload 9, 2) := by decide +kernel
theorem dX4_chance_133 : decode cX4_chance 133 = .ok (.ldiv, 1) := by decide +kernel
theorem dX4_chance_134 : decode cX4_chance 134 = .ok (.lreturn, 1) := by decide +kernel
theorem dX4_wander_0 : decode cX4_wander 0 = .ok (.aload_n 0, 1) := by decide +kernel
theorem dX4_wander_1 : decode cX4_wander 1 = .ok (.getfield 34, 3) := by decide +kernel
theorem dX4_wander_4 : decode cX4_wander 4 = .ok (.lconst 0, 1) := by decide +kernel
theorem dX4_wander_5 : decode cX4_wander 5 = .ok (.invokestatic 153, 3) := by decide +kernel
theorem dX4_wander_8 : decode cX4_wander 8 = .ok (.iconst 0, 1) := by decide +kernel
theorem dX4_wander_9 : decode cX4_wander 9 = .ok (.istore_n 3, 1) := by decide +kernel
theorem dX4_wander_10 : decode cX4_wander 10 = .ok (.iload_n 3, 1) := by decide +kernel
theorem dX4_wander_11 : decode cX4_wander 11 = .ok (.bipush 8, 2) := by decide +kernel
theorem dX4_wander_13 : decode cX4_wander 13 = .ok (.if_icmp .ge 118, 3) := by decide +kernel
theorem dX4_wander_16 : decode cX4_wander 16 = .ok (.aload_n 0, 1) := by decide +kernel
theorem dX4_wander_17 : decode cX4_wander 17 = .ok (.iload_n 3, 1) := by decide +kernel
theorem dX4_wander_18 : decode cX4_wander 18 = .ok (.invokevirtual 106, 3) := by decide +kernel
theorem dX4_wander_21 : decode cX4_wander 21 = .ok (.istore 4, 2) := by decide +kernel
theorem dX4_wander_23 : decode cX4_wander 23 = .ok (.iload 4, 2) := by decide +kernel
theorem dX4_wander_25 : decode cX4_wander 25 = .ok (.ifCond .ne 23, 3) := by decide +kernel
theorem dX4_wander_28 : decode cX4_wander 28 = .ok (.aload_n 0, 1) := by decide +kernel
theorem dX4_wander_29 : decode cX4_wander 29 = .ok (.getfield 34, 3) := by decide +kernel
theorem dX4_wander_32 : decode cX4_wander 32 = .ok (.iload_n 3, 1) := by decide +kernel
theorem dX4_wander_33 : decode cX4_wander 33 = .ok (.dup2, 1) := by decide +kernel
theorem dX4_wander_34 : decode cX4_wander 34 = .ok (.laload, 1) := by decide +kernel
theorem dX4_wander_35 : decode cX4_wander 35 = .ok (.aload_n 0, 1) := by decide +kernel
theorem dX4_wander_36 : decode cX4_wander 36 = .ok (.getfield 30, 3) := by decide +kernel
theorem dX4_wander_39 : decode cX4_wander 39 = .ok (.iload_n 3, 1) := by decide +kernel
theorem dX4_wander_40 : decode cX4_wander 40 = .ok (.laload, 1) := by decide +kernel
theorem dX4_wander_41 : decode cX4_wander 41 = .ok (.lload_n 1, 1) := by decide +kernel
theorem dX4_wander_42 : decode cX4_wander 42 = .ok (.lmul, 1) := by decide +kernel
theorem dX4_wander_43 : decode cX4_wander 43 = .ok (.ladd, 1) := by decide +kernel
theorem dX4_wander_44 : decode cX4_wander 44 = .ok (.lastore, 1) := by decide +kernel
theorem dX4_wander_45 : decode cX4_wander 45 = .ok (.goto 80, 3) := by decide +kernel
theorem dX4_wander_48 : decode cX4_wander 48 = .ok (.aload_n 0, 1) := by decide +kernel
theorem dX4_wander_49 : decode cX4_wander 49 = .ok (.getfield 30, 3) := by decide +kernel
theorem dX4_wander_52 : decode cX4_wander 52 = .ok (.iload_n 3, 1) := by decide +kernel
theorem dX4_wander_53 : decode cX4_wander 53 = .ok (.laload, 1) := by decide +kernel
theorem dX4_wander_54 : decode cX4_wander 54 = .ok (.lload_n 1, 1) := by decide +kernel
theorem dX4_wander_55 : decode cX4_wander 55 = .ok (.iload 4, 2) := by decide +kernel
theorem dX4_wander_57 : decode cX4_wander 57 = .ok (.i2l, 1) := by decide +kernel
theorem dX4_wander_58 : decode cX4_wander 58 = .ok (.ldiv, 1) := by decide +kernel
theorem dX4_wander_59 : decode cX4_wander 59 = .ok (.lmul, 1) := by decide +kernel
theorem dX4_wander_60 : decode cX4_wander 60 = .ok (.lstore 5, 2) := by decide +kernel
theorem dX4_wander_62 : decode cX4_wander 62 = .ok (.iconst 0, 1) := by decide +kernel
theorem dX4_wander_63 : decode cX4_wander 63 = .ok (.istore 7, 2) := by decide +kernel
theorem dX4_wander_65 : decode cX4_wander 65 = .ok (.iload 7, 2) := by decide +kernel
theorem dX4_wander_67 : decode cX4_wander 67 = .ok (.aload_n 0, 1) := by decide +kernel
theorem dX4_wander_68 : decode cX4_wander 68 = .ok (.getfield 37, 3) := by decide +kernel
theorem dX4_wander_71 : decode cX4_wander 71 = .ok (.getfield 50, 3) := by decide +kernel
theorem dX4_wander_74 : decode cX4_wander 74 = .ok (.if_icmp .ge 51, 3) := by decide +kernel
theorem dX4_wander_77 : decode cX4_wander 77 = .ok (.aload_n 0, 1) := by decide +kernel
theorem dX4_wander_78 : decode cX4_wander 78 = .ok (.iload 7, 2) := by decide +kernel
theorem dX4_wander_80 : decode cX4_wander 80 = .ok (.invokevirtual 56, 3) := by decide +kernel
theorem dX4_wander_83 : decode cX4_wander 83 = .ok (.ifCond .eq 36, 3) := by decide +kernel
theorem dX4_wander_86 : decode cX4_wander 86 = .ok (.aload_n 0, 1) := by decide +kernel
theorem dX4_wander_87 : decode cX4_wander 87 = .ok (.getfield 37, 3) := by decide +kernel
theorem dX4_wander_90 : decode cX4_wander 90 = .ok (.iload 7, 2) := by decide +kernel
theorem dX4_wander_92 : decode cX4_wander 92 = .ok (.iload_n 3, 1) := by decide +kernel
theorem dX4_wander_93 : decode cX4_wander 93 = .ok (.invokevirtual 60, 3) := by decide +kernel
theorem dX4_wander_96 : decode cX4_wander 96 = .ok (.ifCond .eq 23, 3) := by decide +kernel
theorem dX4_wander_99 : decode cX4_wander 99 = .ok (.aload_n 0, 1) := by decide +kernel
theorem dX4_wander_100 : decode cX4_wander 100 = .ok (.getfield 34, 3) := by decide +kernel
theorem dX4_wander_103 : decode cX4_wander 103 = .ok (.aload_n 0, 1) := by decide +kernel
theorem dX4_wander_104 : decode cX4_wander 104 = .ok (.getfield 37, 3) := by decide +kernel
theorem dX4_wander_107 : decode cX4_wander 107 = .ok (.iload 7, 2) := by decide +kernel
theorem dX4_wander_109 : decode cX4_wander 109 = .ok (.iload_n 3, 1) := by decide +kernel
theorem dX4_wander_110 : decode cX4_wander 110 = .ok (.invokevirtual 93, 3) := by decide +kernel
theorem dX4_wander_113 : decode cX4_wander 113 = .ok (.dup2, 1) := by decide +kernel
theorem dX4_wander_114 : decode cX4_wander 114 = .ok (.laload, 1) := by decide +kernel
theorem dX4_wander_115 : decode cX4_wander 115 = .ok (.lload 5, 2) := by decide +kernel
theorem dX4_wander_117 : decode cX4_wander 117 = .ok (.ladd, 1) := by decide +kernel
theorem dX4_wander_118 : decode cX4_wander 118 = .ok (.lastore, 1) := by decide +kernel
theorem dX4_wander_119 : decode cX4_wander 119 = .ok (.iinc 7 1, 3) := by decide +kernel
theorem dX4_wander_122 : decode cX4_wander 122 = .ok (.goto (-57), 3) := by decide +kernel
theorem dX4_wander_125 : decode cX4_wander 125 = .ok (.iinc 3 1, 3) := by decide +kernel
theorem dX4_wander_128 : decode cX4_wander 128 = .ok (.goto (-118), 3) := by decide +kernel
theorem dX4_wander_131 : decode cX4_wander 131 = .ok (.aload_n 0, 1) := by decide +kernel
theorem dX4_wander_132 : decode cX4_wander 132 = .ok (.getfield 30, 3) := by decide +kernel
theorem dX4_wander_135 : decode cX4_wander 135 = .ok (.astore_n 3, 1) := by decide +kernel
theorem dX4_wander_136 : decode cX4_wander 136 = .ok (.aload_n 0, 1) := by decide +kernel
theorem dX4_wander_137 : decode cX4_wander 137 = .ok (.aload_n 0, 1) := by decide +kernel
theorem dX4_wander_138 : decode cX4_wander 138 = .ok (.getfield 34, 3) := by decide +kernel
theorem dX4_wander_141 : decode cX4_wander 141 = .ok (.putfield 30, 3) := by decide +kernel
theorem dX4_wander_144 : decode cX4_wander 144 = .ok (.aload_n 0, 1) := by decide +kernel
theorem dX4_wander_145 : decode cX4_wander 145 = .ok (.aload_n 3, 1) := by decide +kernel
theorem dX4_wander_146 : decode cX4_wander 146 = .ok (.putfield 34, 3) := by decide +kernel
theorem dX4_wander_149 : decode cX4_wander 149 = .ok (.return_, 1) := by decide +kernel
theorem dX11_init_0 : decode cX11_init 0 = .ok (.aload_n 0, 1) := by decide +kernel
theorem dX11_init_1 : decode cX11_init 1 = .ok (.invokespecial 1, 3) := by decide +kernel
theorem dX11_init_4 : decode cX11_init 4 = .ok (.aload_n 0, 1) := by decide +kernel
theorem dX11_init_5 : decode cX11_init 5 = .ok (.new 7, 3) := by decide +kernel
theorem dX11_init_8 : decode cX11_init 8 = .ok (.dup, 1) := by decide +kernel
theorem dX11_init_9 : decode cX11_init 9 = .ok (.invokespecial 9, 3) := by decide +kernel
theorem dX11_init_12 : decode cX11_init 12 = .ok (.putfield 10, 3) := by decide +kernel
theorem dX11_init_15 : decode cX11_init 15 = .ok (.aload_n 0, 1) := by decide +kernel
theorem dX11_init_16 : decode cX11_init 16 = .ok (.new 16, 3) := by decide +kernel
theorem dX11_init_19 : decode cX11_init 19 = .ok (.dup, 1) := by decide +kernel
theorem dX11_init_20 : decode cX11_init 20 = .ok (.invokespecial 18, 3) := by decide +kernel
theorem dX11_init_23 : decode cX11_init 23 = .ok (.putfield 19, 3) := by decide +kernel
theorem dX11_init_26 : decode cX11_init 26 = .ok (.aload_n 0, 1) := by decide +kernel
theorem dX11_init_27 : decode cX11_init 27 = .ok (.new 23, 3) := by decide +kernel
theorem dX11_init_30 : decode cX11_init 30 = .ok (.dup, 1) := by decide +kernel
theorem dX11_init_31 : decode cX11_init 31 = .ok (.invokespecial 25, 3) := by decide +kernel
theorem dX11_init_34 : decode cX11_init 34 = .ok (.putfield 26, 3) := by decide +kernel
theorem dX11_init_37 : decode cX11_init 37 = .ok (.aload_n 0, 1) := by decide +kernel
theorem dX11_init_38 : decode cX11_init 38 = .ok (.new 7, 3) := by decide +kernel
theorem dX11_init_41 : decode cX11_init 41 = .ok (.dup, 1) := by decide +kernel
theorem dX11_init_42 : decode cX11_init 42 = .ok (.invokespecial 9, 3) := by decide +kernel
theorem dX11_init_45 : decode cX11_init 45 = .ok (.putfield 30, 3) := by decide +kernel
theorem dX11_init_48 : decode cX11_init 48 = .ok (.aload_n 0, 1) := by decide +kernel
theorem dX11_init_49 : decode cX11_init 49 = .ok (.bipush 65, 2) := by decide +kernel
theorem dX11_init_51 : decode cX11_init 51 = .ok (.newarray .int, 2) := by decide +kernel
theorem dX11_init_53 : decode cX11_init 53 = .ok (.putfield 33, 3) := by decide +kernel
theorem dX11_init_56 : decode cX11_init 56 = .ok (.aload_n 0, 1) := by decide +kernel
theorem dX11_init_57 : decode cX11_init 57 = .ok (.new 23, 3) := by decide +kernel
theorem dX11_init_60 : decode cX11_init 60 = .ok (.dup, 1) := by decide +kernel
theorem dX11_init_61 : decode cX11_init 61 = .ok (.invokespecial 25, 3) := by decide +kernel
theorem dX11_init_64 : decode cX11_init 64 = .ok (.putfield 37, 3) := by decide +kernel
theorem dX11_init_67 : decode cX11_init 67 = .ok (.aload_n 0, 1) := by decide +kernel
theorem dX11_init_68 : decode cX11_init 68 = .ok (.iconst 4, 1) := by decide +kernel
theorem dX11_init_69 : decode cX11_init 69 = .ok (.anewarray 40, 3) := by decide +kernel
theorem dX11_init_72 : decode cX11_init 72 = .ok (.putfield 42, 3) := by decide +kernel
theorem dX11_init_75 : decode cX11_init 75 = .ok (.aload_n 0, 1) := by decide +kernel
theorem dX11_init_76 : decode cX11_init 76 = .ok (.new 46, 3) := by decide +kernel
theorem dX11_init_79 : decode cX11_init 79 = .ok (.dup, 1) := by decide +kernel
theorem dX11_init_80 : decode cX11_init 80 = .ok (.invokespecial 48, 3) := by decide +kernel
theorem dX11_init_83 : decode cX11_init 83 = .ok (.putfield 49, 3) := by decide +kernel
theorem dX11_init_86 : decode cX11_init 86 = .ok (.aload_n 0, 1) := by decide +kernel
theorem dX11_init_87 : decode cX11_init 87 = .ok (.new 53, 3) := by decide +kernel
theorem dX11_init_90 : decode cX11_init 90 = .ok (.dup, 1) := by decide +kernel
theorem dX11_init_91 : decode cX11_init 91 = .ok (.aload_n 0, 1) := by decide +kernel
theorem dX11_init_92 : decode cX11_init 92 = .ok (.getfield 49, 3) := by decide +kernel
theorem dX11_init_95 : decode cX11_init 95 = .ok (.invokespecial 55, 3) := by decide +kernel
theorem dX11_init_98 : decode cX11_init 98 = .ok (.putfield 58, 3) := by decide +kernel
theorem dX11_init_101 : decode cX11_init 101 = .ok (.aload_n 0, 1) := by decide +kernel
theorem dX11_init_102 : decode cX11_init 102 = .ok (.new 62, 3) := by decide +kernel
theorem dX11_init_105 : decode cX11_init 105 = .ok (.dup, 1) := by decide +kernel
theorem dX11_init_106 : decode cX11_init 106 = .ok (.aload_n 0, 1) := by decide +kernel
theorem dX11_init_107 : decode cX11_init 107 = .ok (.getfield 10, 3) := by decide +kernel
theorem dX11_init_110 : decode cX11_init 110 = .ok (.aload_n 0, 1) := by decide +kernel
theorem dX11_init_111 : decode cX11_init 111 = .ok (.getfield 19, 3) := by decide +kernel
theorem dX11_init_114 : decode cX11_init 114 = .ok (.aload_n 0, 1) := by decide +kernel
theorem dX11_init_115 : decode cX11_init 115 = .ok (.getfield 42, 3) := by decide +kernel
theorem dX11_init_118 : decode cX11_init 118 = .ok (.invokespecial 64, 3) := by decide +kernel
theorem dX11_init_121 : decode cX11_init 121 = .ok (.putfield 67, 3) := by decide +kernel
theorem dX11_init_124 : decode cX11_init 124 = .ok (.aload_n 0, 1) := by decide +kernel
theorem dX11_init_125 : decode cX11_init 125 = .ok (.new 71, 3) := by decide +kernel
theorem dX11_init_128 : decode cX11_init 128 = .ok (.dup, 1) := by decide +kernel
theorem dX11_init_129 : decode cX11_init 129 = .ok (.aload_n 0, 1) := by decide +kernel
theorem dX11_init_130 : decode cX11_init 130 = .ok (.getfield 10, 3) := by decide +kernel
theorem dX11_init_133 : decode cX11_init 133 = .ok (.aload_n 0, 1) := by decide +kernel
theorem dX11_init_134 : decode cX11_init 134 = .ok (.getfield 19, 3) := by decide +kernel
theorem dX11_init_137 : decode cX11_init 137 = .ok (.aload_n 0, 1) := by decide +kernel
theorem dX11_init_138 : decode cX11_init 138 = .ok (.getfield 26, 3) := by decide +kernel
theorem dX11_init_141 : decode cX11_init 141 = .ok (.aload_n 0, 1) := by decide +kernel
theorem dX11_init_142 : decode cX11_init 142 = .ok (.getfield 67, 3) := by decide +kernel
theorem dX11_init_145 : decode cX11_init 145 = .ok (.invokespecial 73, 3) := by decide +kernel
theorem dX11_init_148 : decode cX11_init 148 = .ok (.putfield 76, 3) := by decide +kernel
theorem dX11_init_151 : decode cX11_init 151 = .ok (.aload_n 0, 1) := by decide +kernel
theorem dX11_init_152 : decode cX11_init 152 = .ok (.new 80, 3) := by decide +kernel
theorem dX11_init_155 : decode cX11_init 155 = .ok (.dup, 1) := by decide +kernel
theorem dX11_init_156 : decode cX11_init 156 = .ok (.aload_n 0, 1) := by decide +kernel
theorem dX11_init_157 : decode cX11_init 157 = .ok (.getfield 10, 3) := by decide +kernel
theorem dX11_init_160 : decode cX11_init 160 = .ok (.aload_n 0, 1) := by decide +kernel
theorem dX11_init_161 : decode cX11_init 161 = .ok (.getfield 19, 3) := by decide +kernel
theorem dX11_init_164 : decode cX11_init 164 = .ok (.invokespecial 82, 3) := by decide +kernel
theorem dX11_init_167 : decode cX11_init 167 = .ok (.putfield 85, 3) := by decide +kernel
theorem dX11_init_170 : decode cX11_init 170 = .ok (.aload_n 0, 1) := by decide +kernel
theorem dX11_init_171 : decode cX11_init 171 = .ok (.new 89, 3) := by decide +kernel
theorem dX11_init_174 : decode cX11_init 174 = .ok (.dup, 1) := by decide +kernel
theorem dX11_init_175 : decode cX11_init 175 = .ok (.aload_n 0, 1) := by decide +kernel
theorem dX11_init_176 : decode cX11_init 176 = .ok (.getfield 10, 3) := by decide +kernel
theorem dX11_init_179 : decode cX11_init 179 = .ok (.aload_n 0, 1) := by decide +kernel
theorem dX11_init_180 : decode cX11_init 180 = .ok (.getfield 19, 3) := by decide +kernel
theorem dX11_init_183 : decode cX11_init 183 = .ok (.aload_n 0, 1) := by decide +kernel
theorem dX11_init_184 : decode cX11_init 184 = .ok (.getfield 67, 3) := by decide +kernel
theorem dX11_init_187 : decode cX11_init 187 = .ok (.invokespecial 91, 3) := by decide +kernel
theorem dX11_init_190 : decode cX11_init 190 = .ok (.putfield 94, 3) := by decide +kernel
theorem dX11_init_193 : decode cX11_init 193 = .ok (.iconst 0, 1) := by decide +kernel
theorem dX11_init_194 : decode cX11_init 194 = .ok (.istore_n 1, 1) := by decide +kernel
theorem dX11_init_195 : decode cX11_init 195 = .ok (.iload_n 1, 1) := by decide +kernel
theorem dX11_init_196 : decode cX11_init 196 = .ok (.iconst 4, 1) := by decide +kernel
theorem dX11_init_197 : decode cX11_init 197 = .ok (.if_icmp .ge 22, 3) := by decide +kernel
theorem dX11_init_200 : decode cX11_init 200 = .ok (.aload_n 0, 1) := by decide +kernel
theorem dX11_init_201 : decode cX11_init 201 = .ok (.getfield 42, 3) := by decide +kernel
theorem dX11_init_204 : decode cX11_init 204 = .ok (.iload_n 1, 1) := by decide +kernel
theorem dX11_init_205 : decode cX11_init 205 = .ok (.new 40, 3) := by decide +kernel
theorem dX11_init_208 : decode cX11_init 208 = .ok (.dup, 1) := by decide +kernel
theorem dX11_init_209 : decode cX11_init 209 = .ok (.invokespecial 98, 3) := by decide +kernel
theorem dX11_init_212 : decode cX11_init 212 = .ok (.aastore, 1) := by decide +kernel
theorem dX11_init_213 : decode cX11_init 213 = .ok (.iinc 1 1, 3) := by decide +kernel
theorem dX11_init_216 : decode cX11_init 216 = .ok (.goto (-21), 3) := by decide +kernel
theorem dX11_init_219 : decode cX11_init 219 = .ok (.aload_n 0, 1) := by decide +kernel
theorem dX11_init_220 : decode cX11_init 220 = .ok (.getfield 19, 3) := by decide +kernel
theorem dX11_init_223 : decode cX11_init 223 = .ok (.aload_n 0, 1) := by decide +kernel
theorem dX11_init_224 : decode cX11_init 224 = .ok (.getfield 33, 3) := by decide +kernel
theorem dX11_init_227 : decode cX11_init 227 = .ok (.iconst 0, 1) := by decide +kernel
theorem dX11_init_228 : decode cX11_init 228 = .ok (.aload_n 0, 1) := by decide +kernel
theorem dX11_init_229 : decode cX11_init 229 = .ok (.getfield 10, 3) := by decide +kernel
theorem dX11_init_232 : decode cX11_init 232 = .ok (.invokevirtual 99, 3) := by decide +kernel
theorem dX11_init_235 : decode cX11_init 235 = .ok (.return_, 1) := by decide +kernel
theorem dX11_road_0 : decode cX11_road 0 = .ok (.iload_n 1, 1) := by decide +kernel
theorem dX11_road_1 : decode cX11_road 1 = .ok (.invokestatic 103, 3) := by decide +kernel
theorem dX11_road_4 : decode cX11_road 4 = .ok (.ifCond .eq 40, 3) := by decide +kernel
theorem dX11_road_7 : decode cX11_road 7 = .ok (.iload_n 2, 1) := by decide +kernel
theorem dX11_road_8 : decode cX11_road 8 = .ok (.invokestatic 103, 3) := by decide +kernel
theorem dX11_road_11 : decode cX11_road 11 = .ok (.ifCond .eq 33, 3) := by decide +kernel
theorem dX11_road_14 : decode cX11_road 14 = .ok (.iload_n 1, 1) := by decide +kernel
theorem dX11_road_15 : decode cX11_road 15 = .ok (.iload_n 2, 1) := by decide +kernel
theorem dX11_road_16 : decode cX11_road 16 = .ok (.if_icmp .eq 28, 3) := by decide +kernel
theorem dX11_road_19 : decode cX11_road 19 = .ok (.iload_n 3, 1) := by decide +kernel
theorem dX11_road_20 : decode cX11_road 20 = .ok (.iconst 1, 1) := by decide +kernel
theorem dX11_road_21 : decode cX11_road 21 = .ok (.bipush 9, 2) := by decide +kernel
theorem dX11_road_23 : decode cX11_road 23 = .ok (.invokestatic 107, 3) := by decide +kernel
theorem dX11_road_26 : decode cX11_road 26 = .ok (.ifCond .eq 18, 3) := by decide +kernel
theorem dX11_road_29 : decode cX11_road 29 = .ok (.iload 4, 2) := by decide +kernel
theorem dX11_road_31 : decode cX11_road 31 = .ok (.iconst 1, 1) := by decide +kernel
theorem dX11_road_32 : decode cX11_road 32 = .ok (.bipush 99, 2) := by decide +kernel
theorem dX11_road_34 : decode cX11_road 34 = .ok (.invokestatic 107, 3) := by decide +kernel
theorem dX11_road_37 : decode cX11_road 37 = .ok (.ifCond .eq 7, 3) := by decide +kernel
theorem dX11_road_40 : decode cX11_road 40 = .ok (.iconst 1, 1) := by decide +kernel
theorem dX11_road_41 : decode cX11_road 41 = .ok (.goto 4, 3) := by decide +kernel
theorem dX11_road_44 : decode cX11_road 44 = .ok (.iconst 0, 1) := by decide +kernel
theorem dX11_road_45 : decode cX11_road 45 = .ok (.istore 5, 2) := by decide +kernel
theorem dX11_road_47 : decode cX11_road 47 = .ok (.iload 5, 2) := by decide +kernel
theorem dX11_road_49 : decode cX11_road 49 = .ok (.ifCond .eq 18, 3) := by decide +kernel
theorem dX11_road_52 : decode cX11_road 52 = .ok (.aload_n 0, 1) := by decide +kernel
theorem dX11_road_53 : decode cX11_road 53 = .ok (.getfield 76, 3) := by decide +kernel
theorem dX11_road_56 : decode cX11_road 56 = .ok (.iload_n 1, 1) := by decide +kernel
theorem dX11_road_57 : decode cX11_road 57 = .ok (.iload_n 2, 1) := by decide +kernel
theorem dX11_road_58 : decode cX11_road 58 = .ok (.iload_n 3, 1) := by decide +kernel
theorem dX11_road_59 : decode cX11_road 59 = .ok (.iload 4, 2) := by decide +kernel
theorem dX11_road_61 : decode cX11_road 61 = .ok (.invokevirtual 111, 3) := by decide +kernel
theorem dX11_road_64 : decode cX11_road 64 = .ok (.goto 4, 3) := by decide +kernel
theorem dX11_road_67 : decode cX11_road 67 = .ok (.iconst (-1), 1) := by decide +kernel
theorem dX11_road_68 : decode cX11_road 68 = .ok (.ireturn, 1) := by decide +kernel
theorem dX11_goer_0 : decode cX11_goer 0 = .ok (.iload_n 1, 1) := by decide +kernel
theorem dX11_goer_1 : decode cX11_goer 1 = .ok (.invokestatic 103, 3) := by decide +kernel
theorem dX11_goer_4 : decode cX11_goer 4 = .ok (.ifCond .eq 25, 3) := by decide +kernel
theorem dX11_goer_7 : decode cX11_goer 7 = .ok (.iload_n 2, 1) := by decide +kernel
theorem dX11_goer_8 : decode cX11_goer 8 = .ok (.iconst 1, 1) := by decide +kernel
theorem dX11_goer_9 : decode cX11_goer 9 = .ok (.bipush 9, 2) := by decide +kernel
theorem dX11_goer_11 : decode cX11_goer 11 = .ok (.invokestatic 107, 3) := by decide +kernel
theorem dX11_goer_14 : decode cX11_goer 14 = .ok (.ifCond .eq 15, 3) := by decide +kernel
theorem dX11_goer_17 : decode cX11_goer 17 = .ok (.aload_n 0, 1) := by decide +kernel
theorem dX11_goer_18 : decode cX11_goer 18 = .ok (.getfield 76, 3) := by decide +kernel
theorem dX11_goer_21 : decode cX11_goer 21 = .ok (.iload_n 1, 1) := by decide +kernel
theorem dX11_goer_22 : decode cX11_goer 22 = .ok (.iload_n 2, 1) := by decide +kernel
theorem dX11_goer_23 : decode cX11_goer 23 = .ok (.invokevirtual 115, 3) := by decide +kernel
theorem dX11_goer_26 : decode cX11_goer 26 = .ok (.goto 4, 3) := by decide +kernel
theorem dX11_goer_29 : decode cX11_goer 29 = .ok (.iconst (-1), 1) := by decide +kernel
theorem dX11_goer_30 : decode cX11_goer 30 = .ok (.ireturn, 1) := by decide +kernel
theorem dX11_feed_0 : decode cX11_feed 0 = .ok (.aload_n 0, 1) := by decide +kernel
theorem dX11_feed_1 : decode cX11_feed 1 = .ok (.getfield 49, 3) := by decide +kernel
theorem dX11_feed_4 : decode cX11_feed 4 = .ok (.getfield 119, 3) := by decide +kernel
theorem dX11_feed_7 : decode cX11_feed 7 = .ok (.bipush 20, 2) := by decide +kernel
theorem dX11_feed_9 : decode cX11_feed 9 = .ok (.iadd, 1) := by decide +kernel
theorem dX11_feed_10 : decode cX11_feed 10 = .ok (.sipush 300, 3) := by decide +kernel
theorem dX11_feed_13 : decode cX11_feed 13 = .ok (.if_icmp .le 5, 3) := by decide +kernel
theorem dX11_feed_16 : decode cX11_feed 16 = .ok (.iconst (-1), 1) := by decide +kernel
theorem dX11_feed_17 : decode cX11_feed 17 = .ok (.ireturn, 1) := by decide +kernel
theorem dX11_feed_18 : decode cX11_feed 18 = .ok (.aload_n 0, 1) := by decide +kernel
theorem dX11_feed_19 : decode cX11_feed 19 = .ok (.getfield 49, 3) := by decide +kernel
theorem dX11_feed_22 : decode cX11_feed 22 = .ok (.iload_n 1, 1) := by decide +kernel
theorem dX11_feed_23 : decode cX11_feed 23 = .ok (.invokevirtual 123, 3) := by decide +kernel
theorem dX11_feed_26 : decode cX11_feed 26 = .ok (.aload_n 0, 1) := by decide +kernel
theorem dX11_feed_27 : decode cX11_feed 27 = .ok (.getfield 49, 3) := by decide +kernel
theorem dX11_feed_30 : decode cX11_feed 30 = .ok (.iload_n 2, 1) := by decide +kernel
theorem dX11_feed_31 : decode cX11_feed 31 = .ok (.invokevirtual 123, 3) := by decide +kernel
theorem dX11_feed_34 : decode cX11_feed 34 = .ok (.aload_n 0, 1) := by decide +kernel
theorem dX11_feed_35 : decode cX11_feed 35 = .ok (.getfield 49, 3) := by decide +kernel
theorem dX11_feed_38 : decode cX11_feed 38 = .ok (.iload_n 3, 1) := by decide +kernel
theorem dX11_feed_39 : decode cX11_feed 39 = .ok (.invokevirtual 123, 3) := by decide +kernel
theorem dX11_feed_42 : decode cX11_feed 42 = .ok (.aload_n 0, 1) := by decide +kernel
theorem dX11_feed_43 : decode cX11_feed 43 = .ok (.getfield 49, 3) := by decide +kernel
theorem dX11_feed_46 : decode cX11_feed 46 = .ok (.iload 4, 2) := by decide +kernel
theorem dX11_feed_48 : decode cX11_feed 48 = .ok (.invokevirtual 123, 3) := by decide +kernel
theorem dX11_feed_51 : decode cX11_feed 51 = .ok (.aload_n 0, 1) := by decide +kernel
theorem dX11_feed_52 : decode cX11_feed 52 = .ok (.getfield 49, 3) := by decide +kernel
theorem dX11_feed_55 : decode cX11_feed 55 = .ok (.iload 5, 2) := by decide +kernel
theorem dX11_feed_57 : decode cX11_feed 57 = .ok (.invokevirtual 123, 3) := by decide +kernel
theorem dX11_feed_60 : decode cX11_feed 60 = .ok (.aload_n 0, 1) := by decide +kernel
theorem dX11_feed_61 : decode cX11_feed 61 = .ok (.getfield 49, 3) := by decide +kernel
theorem dX11_feed_64 : decode cX11_feed 64 = .ok (.getfield 119, 3) := by decide +kernel
theorem dX11_feed_67 : decode cX11_feed 67 = .ok (.ireturn, 1) := by decide +kernel
theorem dX11_end_0 : decode cX11_end 0 = .ok (.iload_n 1, 1) := by decide +kernel
theorem dX11_end_1 : decode cX11_end 1 = .ok (.iconst 0, 1) := by decide +kernel
theorem dX11_end_2 : decode cX11_end 2 = .ok (.aload_n 0, 1) := by decide +kernel
theorem dX11_end_3 : decode cX11_end 3 = .ok (.getfield 49, 3) := by decide +kernel
theorem dX11_end_6 : decode cX11_end 6 = .ok (.getfield 119, 3) := by decide +kernel
theorem dX11_end_9 : decode cX11_end 9 = .ok (.invokestatic 107, 3) := by decide +kernel
theorem dX11_end_12 : decode cX11_end 12 = .ok (.ifCond .ne 5, 3) := by decide +kernel
theorem dX11_end_15 : decode cX11_end 15 = .ok (.iconst (-1), 1) := by decide +kernel
theorem dX11_end_16 : decode cX11_end 16 = .ok (.ireturn, 1) := by decide +kernel
theorem dX11_end_17 : decode cX11_end 17 = .ok (.aload_n 0, 1) := by decide +kernel
theorem dX11_end_18 : decode cX11_end 18 = .ok (.getfield 49, 3) := by decide +kernel
theorem dX11_end_21 : decode cX11_end 21 = .ok (.iload_n 1, 1) := by decide +kernel
theorem dX11_end_22 : decode cX11_end 22 = .ok (.putfield 119, 3) := by decide +kernel
theorem dX11_end_25 : decode cX11_end 25 = .ok (.iload_n 1, 1) := by decide +kernel
theorem dX11_end_26 : decode cX11_end 26 = .ok (.ireturn, 1) := by decide +kernel
theorem dX11_text_0 : decode cX11_text 0 = .ok (.aload_n 0, 1) := by decide +kernel
theorem dX11_text_1 : decode cX11_text 1 = .ok (.getfield 10, 3) := by decide +kernel
theorem dX11_text_4 : decode cX11_text 4 = .ok (.getfield 127, 3) := by decide +kernel
theorem dX11_text_7 : decode cX11_text 7 = .ok (.iconst 4, 1) := by decide +kernel
theorem dX11_text_8 : decode cX11_text 8 = .ok (.if_icmp .lt 5, 3) := by decide +kernel
theorem dX11_text_11 : decode cX11_text 11 = .ok (.iconst (-1), 1) := by decide +kernel
theorem dX11_text_12 : decode cX11_text 12 = .ok (.ireturn, 1) := by decide +kernel
theorem dX11_text_13 : decode cX11_text 13 = .ok (.aload_n 0, 1) := by decide +kernel
theorem dX11_text_14 : decode cX11_text 14 = .ok (.getfield 58, 3) := by decide +kernel
theorem dX11_text_17 : decode cX11_text 17 = .ok (.aload_n 0, 1) := by decide +kernel
theorem dX11_text_18 : decode cX11_text 18 = .ok (.getfield 42, 3) := by decide +kernel
theorem dX11_text_21 : decode cX11_text 21 = .ok (.aload_n 0, 1) := by decide +kernel
theorem dX11_text_22 : decode cX11_text 22 = .ok (.getfield 10, 3) := by decide +kernel
theorem dX11_text_25 : decode cX11_text 25 = .ok (.getfield 127, 3) := by decide +kernel
theorem dX11_text_28 : decode cX11_text 28 = .ok (.aaload, 1) := by decide +kernel
theorem dX11_text_29 : decode cX11_text 29 = .ok (.invokevirtual 129, 3) := by decide +kernel
theorem dX11_text_32 : decode cX11_text 32 = .ok (.istore_n 1, 1) := by decide +kernel
theorem dX11_text_33 : decode cX11_text 33 = .ok (.aload_n 0, 1) := by decide +kernel
theorem dX11_text_34 : decode cX11_text 34 = .ok (.getfield 49, 3) := by decide +kernel
theorem dX11_text_37 : decode cX11_text 37 = .ok (.iconst 0, 1) := by decide +kernel
theorem dX11_text_38 : decode cX11_text 38 = .ok (.putfield 119, 3) := by decide +kernel
theorem dX11_text_41 : decode cX11_text 41 = .ok (.iload_n 1, 1) := by decide +kernel
theorem dX11_text_42 : decode cX11_text 42 = .ok (.ifCond .ne 5, 3) := by decide +kernel
theorem dX11_text_45 : decode cX11_text 45 = .ok (.iconst (-1), 1) := by decide +kernel
theorem dX11_text_46 : decode cX11_text 46 = .ok (.ireturn, 1) := by decide +kernel
theorem dX11_text_47 : decode cX11_text 47 = .ok (.aload_n 0, 1) := by decide +kernel
theorem dX11_text_48 : decode cX11_text 48 = .ok (.getfield 10, 3) := by decide +kernel
theorem dX11_text_51 : decode cX11_text 51 = .ok (.dup, 1) := by decide +kernel
theorem dX11_text_52 : decode cX11_text 52 = .ok (.getfield 127, 3) := by decide +kernel
theorem dX11_text_55 : decode cX11_text 55 = .ok (.iconst 1, 1) := by decide +kernel
theorem dX11_text_56 : decode cX11_text 56 = .ok (.iadd, 1) := by decide +kernel
theorem dX11_text_57 : decode cX11_text 57 = .ok (.putfield 127, 3) := by decide +kernel
theorem dX11_text_60 : decode cX11_text 60 = .ok (.aload_n 0, 1) := by decide +kernel
theorem dX11_text_61 : decode cX11_text 61 = .ok (.getfield 10, 3) := by decide +kernel
theorem dX11_text_64 : decode cX11_text 64 = .ok (.getfield 127, 3) := by decide +kernel
theorem dX11_text_67 : decode cX11_text 67 = .ok (.iconst 1, 1) := by decide +kernel
theorem dX11_text_68 : decode cX11_text 68 = .ok (.isub, 1) := by decide +kernel
theorem dX11_text_69 : decode cX11_text 69 = .ok (.ireturn, 1) := by decide +kernel
theorem dX11_fault_0 : decode cX11_fault 0 = .ok (.iload_n 1, 1) := by decide +kernel
theorem dX11_fault_1 : decode cX11_fault 1 = .ok (.lookupswitch 43 #[(0, 27), (1, 35)], 27) := by decide +kernel
theorem dX11_fault_28 : decode cX11_fault 28 = .ok (.aload_n 0, 1) := by decide +kernel
theorem dX11_fault_29 : decode cX11_fault 29 = .ok (.getfield 58, 3) := by decide +kernel
theorem dX11_fault_32 : decode cX11_fault 32 = .ok (.getfield 133, 3) := by decide +kernel
theorem dX11_fault_35 : decode cX11_fault 35 = .ok (.ireturn, 1) := by decide +kernel
theorem dX11_fault_36 : decode cX11_fault 36 = .ok (.aload_n 0, 1) := by decide +kernel
theorem dX11_fault_37 : decode cX11_fault 37 = .ok (.getfield 58, 3) := by decide +kernel
theorem dX11_fault_40 : decode cX11_fault 40 = .ok (.getfield 136, 3) := by decide +kernel
theorem dX11_fault_43 : decode cX11_fault 43 = .ok (.ireturn, 1) := by decide +kernel
theorem dX11_fault_44 : decode cX11_fault 44 = .ok (.iconst (-1), 1) := by decide +kernel
theorem dX11_fault_45 : decode cX11_fault 45 = .ok (.ireturn, 1) := by decide +kernel
theorem dX11_by_0 : decode cX11_by 0 = .ok (.iload_n 1, 1) := by decide +kernel
theorem dX11_by_1 : decode cX11_by 1 = .ok (.iconst (-1), 1) := by decide +kernel
theorem dX11_by_2 : decode cX11_by 2 = .ok (.if_icmp .eq 11, 3) := by decide +kernel
theorem dX11_by_5 : decode cX11_by 5 = .ok (.aload_n 0, 1) := by decide +kernel
theorem dX11_by_6 : decode cX11_by 6 = .ok (.iload_n 1, 1) := by decide +kernel
theorem dX11_by_7 : decode cX11_by 7 = .ok (.invokevirtual 139, 3) := by decide +kernel
theorem dX11_by_10 : decode cX11_by 10 = .ok (.ifCond .eq 7, 3) := by decide +kernel
theorem dX11_by_13 : decode cX11_by 13 = .ok (.iconst 1, 1) := by decide +kernel
theorem dX11_by_14 : decode cX11_by 14 = .ok (.goto 4, 3) := by decide +kernel
theorem dX11_by_17 : decode cX11_by 17 = .ok (.iconst 0, 1) := by decide +kernel
theorem dX11_by_18 : decode cX11_by 18 = .ok (.istore_n 2, 1) := by decide +kernel
theorem dX11_by_19 : decode cX11_by 19 = .ok (.iload_n 2, 1) := by decide +kernel
theorem dX11_by_20 : decode cX11_by 20 = .ok (.ifCond .eq 11, 3) := by decide +kernel
theorem dX11_by_23 : decode cX11_by 23 = .ok (.aload_n 0, 1) := by decide +kernel
theorem dX11_by_24 : decode cX11_by 24 = .ok (.getfield 10, 3) := by decide +kernel
theorem dX11_by_27 : decode cX11_by 27 = .ok (.iload_n 1, 1) := by decide +kernel
theorem dX11_by_28 : decode cX11_by 28 = .ok (.putfield 142, 3) := by decide +kernel
theorem dX11_by_31 : decode cX11_by 31 = .ok (.iload_n 2, 1) := by decide +kernel
theorem dX11_by_32 : decode cX11_by 32 = .ok (.ireturn, 1) := by decide +kernel
theorem dX11_go_0 : decode cX11_go 0 = .ok (.aload_n 0, 1) := by decide +kernel
theorem dX11_go_1 : decode cX11_go 1 = .ok (.getfield 76, 3) := by decide +kernel
theorem dX11_go_4 : decode cX11_go 4 = .ok (.iload_n 1, 1) := by decide +kernel
theorem dX11_go_5 : decode cX11_go 5 = .ok (.iload_n 2, 1) := by decide +kernel
theorem dX11_go_6 : decode cX11_go 6 = .ok (.invokevirtual 145, 3) := by decide +kernel
theorem dX11_go_9 : decode cX11_go 9 = .ok (.ifCond .eq 15, 3) := by decide +kernel
theorem dX11_go_12 : decode cX11_go 12 = .ok (.aload_n 0, 1) := by decide +kernel
theorem dX11_go_13 : decode cX11_go 13 = .ok (.getfield 19, 3) := by decide +kernel
theorem dX11_go_16 : decode cX11_go 16 = .ok (.getfield 149, 3) := by decide +kernel
theorem dX11_go_19 : decode cX11_go 19 = .ok (.iload_n 1, 1) := by decide +kernel
theorem dX11_go_20 : decode cX11_go 20 = .ok (.iaload, 1) := by decide +kernel
theorem dX11_go_21 : decode cX11_go 21 = .ok (.goto 4, 3) := by decide +kernel
theorem dX11_go_24 : decode cX11_go 24 = .ok (.iconst (-1), 1) := by decide +kernel
theorem dX11_go_25 : decode cX11_go 25 = .ok (.ireturn, 1) := by decide +kernel
theorem dX11_relay_0 : decode cX11_relay 0 = .ok (.aload_n 0, 1) := by decide +kernel
theorem dX11_relay_1 : decode cX11_relay 1 = .ok (.getfield 76, 3) := by decide +kernel
theorem dX11_relay_4 : decode cX11_relay 4 = .ok (.iload_n 1, 1) := by decide +kernel
theorem dX11_relay_5 : decode cX11_relay 5 = .ok (.invokevirtual 151, 3) := by decide +kernel
theorem dX11_relay_8 : decode cX11_relay 8 = .ok (.ireturn, 1) := by decide +kernel
theorem dX11_coil_0 : decode cX11_coil 0 = .ok (.iload_n 1, 1) := by decide +kernel
theorem dX11_coil_1 : decode cX11_coil 1 = .ok (.iconst 1, 1) := by decide +kernel
theorem dX11_coil_2 : decode cX11_coil 2 = .ok (.bipush 99, 2) := by decide +kernel
theorem dX11_coil_4 : decode cX11_coil 4 = .ok (.invokestatic 107, 3) := by decide +kernel
theorem dX11_coil_7 : decode cX11_coil 7 = .ok (.ifCond .eq 18, 3) := by decide +kernel
theorem dX11_coil_10 : decode cX11_coil 10 = .ok (.aload_n 0, 1) := by decide +kernel
theorem dX11_coil_11 : decode cX11_coil 11 = .ok (.getfield 76, 3) := by decide +kernel
theorem dX11_coil_14 : decode cX11_coil 14 = .ok (.iload_n 1, 1) := by decide +kernel
theorem dX11_coil_15 : decode cX11_coil 15 = .ok (.invokevirtual 154, 3) := by decide +kernel
theorem dX11_coil_18 : decode cX11_coil 18 = .ok (.ifCond .eq 7, 3) := by decide +kernel
theorem dX11_coil_21 : decode cX11_coil 21 = .ok (.iconst 1, 1) := by decide +kernel
theorem dX11_coil_22 : decode cX11_coil 22 = .ok (.goto 4, 3) := by decide +kernel
theorem dX11_coil_25 : decode cX11_coil 25 = .ok (.iconst 0, 1) := by decide +kernel
theorem dX11_coil_26 : decode cX11_coil 26 = .ok (.ireturn, 1) := by decide +kernel
theorem dX11_day_0 : decode cX11_day 0 = .ok (.iload_n 1, 1) := by decide +kernel
theorem dX11_day_1 : decode cX11_day 1 = .ok (.iconst 1, 1) := by decide +kernel
theorem dX11_day_2 : decode cX11_day 2 = .ok (.bipush 60, 2) := by decide +kernel
theorem dX11_day_4 : decode cX11_day 4 = .ok (.invokestatic 107, 3) := by decide +kernel
theorem dX11_day_7 : decode cX11_day 7 = .ok (.ifCond .eq 18, 3) := by decide +kernel
theorem dX11_day_10 : decode cX11_day 10 = .ok (.aload_n 0, 1) := by decide +kernel
theorem dX11_day_11 : decode cX11_day 11 = .ok (.getfield 19, 3) := by decide +kernel
theorem dX11_day_14 : decode cX11_day 14 = .ok (.getfield 157, 3) := by decide +kernel
theorem dX11_day_17 : decode cX11_day 17 = .ok (.iload_n 1, 1) := by decide +kernel
theorem dX11_day_18 : decode cX11_day 18 = .ok (.iadd, 1) := by decide +kernel
theorem dX11_day_19 : decode cX11_day 19 = .ok (.sipush 9999, 3) := by decide +kernel
theorem dX11_day_22 : decode cX11_day 22 = .ok (.if_icmp .le 5, 3) := by decide +kernel
theorem dX11_day_25 : decode cX11_day 25 = .ok (.iconst (-1), 1) := by decide +kernel
theorem dX11_day_26 : decode cX11_day 26 = .ok (.ireturn, 1) := by decide +kernel
theorem dX11_day_27 : decode cX11_day 27 = .ok (.iconst 0, 1) := by decide +kernel
theorem dX11_day_28 : decode cX11_day 28 = .ok (.istore_n 2, 1) := by decide +kernel
theorem dX11_day_29 : decode cX11_day 29 = .ok (.iconst 0, 1) := by decide +kernel
theorem dX11_day_30 : decode cX11_day 30 = .ok (.istore_n 3, 1) := by decide +kernel
theorem dX11_day_31 : decode cX11_day 31 = .ok (.iload_n 3, 1) := by decide +kernel
theorem dX11_day_32 : decode cX11_day 32 = .ok (.iload_n 1, 1) := by decide +kernel
theorem dX11_day_33 : decode cX11_day 33 = .ok (.if_icmp .ge 34, 3) := by decide +kernel
theorem dX11_day_36 : decode cX11_day 36 = .ok (.aload_n 0, 1) := by decide +kernel
theorem dX11_day_37 : decode cX11_day 37 = .ok (.getfield 26, 3) := by decide +kernel
theorem dX11_day_40 : decode cX11_day 40 = .ok (.aload_n 0, 1) := by decide +kernel
theorem dX11_day_41 : decode cX11_day 41 = .ok (.getfield 19, 3) := by decide +kernel
theorem dX11_day_44 : decode cX11_day 44 = .ok (.aload_n 0, 1) := by decide +kernel
theorem dX11_day_45 : decode cX11_day 45 = .ok (.getfield 10, 3) := by decide +kernel
theorem dX11_day_48 : decode cX11_day 48 = .ok (.invokevirtual 160, 3) := by decide +kernel
theorem dX11_day_51 : decode cX11_day 51 = .ok (.iload_n 2, 1) := by decide +kernel
theorem dX11_day_52 : decode cX11_day 52 = .ok (.aload_n 0, 1) := by decide +kernel
theorem dX11_day_53 : decode cX11_day 53 = .ok (.getfield 76, 3) := by decide +kernel
theorem dX11_day_56 : decode cX11_day 56 = .ok (.invokevirtual 164, 3) := by decide +kernel
theorem dX11_day_59 : decode cX11_day 59 = .ok (.iadd, 1) := by decide +kernel
theorem dX11_day_60 : decode cX11_day 60 = .ok (.istore_n 2, 1) := by decide +kernel
theorem dX11_day_61 : decode cX11_day 61 = .ok (.iinc 3 1, 3) := by decide +kernel
theorem dX11_day_64 : decode cX11_day 64 = .ok (.goto (-33), 3) := by decide +kernel
theorem dX11_day_67 : decode cX11_day 67 = .ok (.iload_n 2, 1) := by decide +kernel
theorem dX11_day_68 : decode cX11_day 68 = .ok (.ireturn, 1) := by decide +kernel
theorem dX11_played_0 : decode cX11_played 0 = .ok (.aload_n 0, 1) := by decide +kernel
theorem dX11_played_1 : decode cX11_played 1 = .ok (.iload_n 1, 1) := by decide +kernel
theorem dX11_played_2 : decode cX11_played 2 = .ok (.invokevirtual 139, 3) := by decide +kernel
theorem dX11_played_5 : decode cX11_played 5 = .ok (.ifCond .ne 6, 3) := by decide +kernel
theorem dX11_played_8 : decode cX11_played 8 = .ok (.bipush (-2), 2) := by decide +kernel
theorem dX11_played_10 : decode cX11_played 10 = .ok (.ireturn, 1) := by decide +kernel
theorem dX11_played_11 : decode cX11_played 11 = .ok (.aload_n 0, 1) := by decide +kernel
theorem dX11_played_12 : decode cX11_played 12 = .ok (.getfield 42, 3) := by decide +kernel
theorem dX11_played_15 : decode cX11_played 15 = .ok (.iload_n 1, 1) := by decide +kernel
theorem dX11_played_16 : decode cX11_played 16 = .ok (.aaload, 1) := by decide +kernel
theorem dX11_played_17 : decode cX11_played 17 = .ok (.astore_n 2, 1) := by decide +kernel
theorem dX11_played_18 : decode cX11_played 18 = .ok (.iconst 0, 1) := by decide +kernel
theorem dX11_played_19 : decode cX11_played 19 = .ok (.istore_n 3, 1) := by decide +kernel
theorem dX11_played_20 : decode cX11_played 20 = .ok (.iload_n 3, 1) := by decide +kernel
theorem dX11_played_21 : decode cX11_played 21 = .ok (.aload_n 2, 1) := by decide +kernel
theorem dX11_played_22 : decode cX11_played 22 = .ok (.getfield 168, 3) := by decide +kernel
theorem dX11_played_25 : decode cX11_played 25 = .ok (.if_icmp .ge 23, 3) := by decide +kernel
theorem dX11_played_28 : decode cX11_played 28 = .ok (.aload_n 0, 1) := by decide +kernel
theorem dX11_played_29 : decode cX11_played 29 = .ok (.getfield 76, 3) := by decide +kernel
theorem dX11_played_32 : decode cX11_played 32 = .ok (.aload_n 2, 1) := by decide +kernel
theorem dX11_played_33 : decode cX11_played 33 = .ok (.iload_n 3, 1) := by decide +kernel
theorem dX11_played_34 : decode cX11_played 34 = .ok (.invokevirtual 171, 3) := by decide +kernel
theorem dX11_played_37 : decode cX11_played 37 = .ok (.ifCond .ne 5, 3) := by decide +kernel
theorem dX11_played_40 : decode cX11_played 40 = .ok (.iload_n 3, 1) := by decide +kernel
theorem dX11_played_41 : decode cX11_played 41 = .ok (.ireturn, 1) := by decide +kernel
theorem dX11_played_42 : decode cX11_played 42 = .ok (.iinc 3 1, 3) := by decide +kernel
theorem dX11_played_45 : decode cX11_played 45 = .ok (.goto (-25), 3) := by decide +kernel
theorem dX11_played_48 : decode cX11_played 48 = .ok (.iconst (-1), 1) := by decide +kernel
theorem dX11_played_49 : decode cX11_played 49 = .ok (.ireturn, 1) := by decide +kernel
theorem dX11_years_0 : decode cX11_years 0 = .ok (.iload_n 1, 1) := by decide +kernel
theorem dX11_years_1 : decode cX11_years 1 = .ok (.iconst 0, 1) := by decide +kernel
theorem dX11_years_2 : decode cX11_years 2 = .ok (.sipush 9999, 3) := by decide +kernel
theorem dX11_years_5 : decode cX11_years 5 = .ok (.invokestatic 107, 3) := by decide +kernel
theorem dX11_years_8 : decode cX11_years 8 = .ok (.ifCond .eq 13, 3) := by decide +kernel
theorem dX11_years_11 : decode cX11_years 11 = .ok (.iload_n 2, 1) := by decide +kernel
theorem dX11_years_12 : decode cX11_years 12 = .ok (.iconst 1, 1) := by decide +kernel
theorem dX11_years_13 : decode cX11_years 13 = .ok (.bipush 40, 2) := by decide +kernel
theorem dX11_years_15 : decode cX11_years 15 = .ok (.invokestatic 107, 3) := by decide +kernel
theorem dX11_years_18 : decode cX11_years 18 = .ok (.ifCond .ne 5, 3) := by decide +kernel
theorem dX11_years_21 : decode cX11_years 21 = .ok (.iconst (-1), 1) := by decide +kernel
theorem dX11_years_22 : decode cX11_years 22 = .ok (.ireturn, 1) := by decide +kernel
theorem dX11_years_23 : decode cX11_years 23 = .ok (.aload_n 0, 1) := by decide +kernel
theorem dX11_years_24 : decode cX11_years 24 = .ok (.getfield 26, 3) := by decide +kernel
theorem dX11_years_27 : decode cX11_years 27 = .ok (.aload_n 0, 1) := by decide +kernel
theorem dX11_years_28 : decode cX11_years 28 = .ok (.getfield 19, 3) := by decide +kernel
theorem dX11_years_31 : decode cX11_years 31 = .ok (.aload_n 0, 1) := by decide +kernel
theorem dX11_years_32 : decode cX11_years 32 = .ok (.getfield 10, 3) := by decide +kernel
theorem dX11_years_35 : decode cX11_years 35 = .ok (.invokevirtual 160, 3) := by decide +kernel
theorem dX11_years_38 : decode cX11_years 38 = .ok (.aload_n 0, 1) := by decide +kernel
theorem dX11_years_39 : decode cX11_years 39 = .ok (.getfield 19, 3) := by decide +kernel
theorem dX11_years_42 : decode cX11_years 42 = .ok (.iload_n 1, 1) := by decide +kernel
theorem dX11_years_43 : decode cX11_years 43 = .ok (.invokevirtual 175, 3) := by decide +kernel
theorem dX11_years_46 : decode cX11_years 46 = .ok (.iconst 0, 1) := by decide +kernel
theorem dX11_years_47 : decode cX11_years 47 = .ok (.istore_n 3, 1) := by decide +kernel
theorem dX11_years_48 : decode cX11_years 48 = .ok (.iload_n 3, 1) := by decide +kernel
theorem dX11_years_49 : decode cX11_years 49 = .ok (.iload_n 2, 1) := by decide +kernel
theorem dX11_years_50 : decode cX11_years 50 = .ok (.if_icmp .ge 16, 3) := by decide +kernel
theorem dX11_years_53 : decode cX11_years 53 = .ok (.aload_n 0, 1) := by decide +kernel
theorem dX11_years_54 : decode cX11_years 54 = .ok (.getfield 76, 3) := by decide +kernel
theorem dX11_years_57 : decode cX11_years 57 = .ok (.invokevirtual 178, 3) := by decide +kernel
theorem dX11_years_60 : decode cX11_years 60 = .ok (.iinc 3 1, 3) := by decide +kernel
theorem dX11_years_63 : decode cX11_years 63 = .ok (.goto (-15), 3) := by decide +kernel
theorem dX11_years_66 : decode cX11_years 66 = .ok (.aload_n 0, 1) := by decide +kernel
theorem dX11_years_67 : decode cX11_years 67 = .ok (.getfield 19, 3) := by decide +kernel
theorem dX11_years_70 : decode cX11_years 70 = .ok (.getfield 157, 3) := by decide +kernel
theorem dX11_years_73 : decode cX11_years 73 = .ok (.ireturn, 1) := by decide +kernel
theorem dX11_undo_0 : decode cX11_undo 0 = .ok (.aload_n 0, 1) := by decide +kernel
theorem dX11_undo_1 : decode cX11_undo 1 = .ok (.getfield 26, 3) := by decide +kernel
theorem dX11_undo_4 : decode cX11_undo 4 = .ok (.aload_n 0, 1) := by decide +kernel
theorem dX11_undo_5 : decode cX11_undo 5 = .ok (.getfield 19, 3) := by decide +kernel
theorem dX11_undo_8 : decode cX11_undo 8 = .ok (.invokevirtual 181, 3) := by decide +kernel
theorem dX11_undo_11 : decode cX11_undo 11 = .ok (.ifCond .eq 13, 3) := by decide +kernel
theorem dX11_undo_14 : decode cX11_undo 14 = .ok (.aload_n 0, 1) := by decide +kernel
theorem dX11_undo_15 : decode cX11_undo 15 = .ok (.getfield 26, 3) := by decide +kernel
theorem dX11_undo_18 : decode cX11_undo 18 = .ok (.getfield 185, 3) := by decide +kernel
theorem dX11_undo_21 : decode cX11_undo 21 = .ok (.goto 4, 3) := by decide +kernel
theorem dX11_undo_24 : decode cX11_undo 24 = .ok (.iconst (-1), 1) := by decide +kernel
theorem dX11_undo_25 : decode cX11_undo 25 = .ok (.ireturn, 1) := by decide +kernel
theorem dX11_of_0 : decode cX11_of 0 = .ok (.aload_n 0, 1) := by decide +kernel
theorem dX11_of_1 : decode cX11_of 1 = .ok (.getfield 10, 3) := by decide +kernel
theorem dX11_of_4 : decode cX11_of 4 = .ok (.iload_n 1, 1) := by decide +kernel
theorem dX11_of_5 : decode cX11_of 5 = .ok (.invokevirtual 188, 3) := by decide +kernel
theorem dX11_of_8 : decode cX11_of 8 = .ok (.ifCond .ne 5, 3) := by decide +kernel
theorem dX11_of_11 : decode cX11_of 11 = .ok (.iconst (-1), 1) := by decide +kernel
theorem dX11_of_12 : decode cX11_of 12 = .ok (.ireturn, 1) := by decide +kernel
theorem dX11_of_13 : decode cX11_of 13 = .ok (.iload_n 2, 1) := by decide +kernel
theorem dX11_of_14 : decode cX11_of 14 = .ok (.tableswitch 97 0 5 #[38, 48, 58, 68, 78, 88], 38) := by decide +kernel
theorem dX11_of_52 : decode cX11_of 52 = .ok (.aload_n 0, 1) := by decide +kernel
theorem dX11_of_53 : decode cX11_of 53 = .ok (.getfield 10, 3) := by decide +kernel
theorem dX11_of_56 : decode cX11_of 56 = .ok (.getfield 191, 3) := by decide +kernel
theorem dX11_of_59 : decode cX11_of 59 = .ok (.iload_n 1, 1) := by decide +kernel
theorem dX11_of_60 : decode cX11_of 60 = .ok (.iaload, 1) := by decide +kernel
theorem dX11_of_61 : decode cX11_of 61 = .ok (.ireturn, 1) := by decide +kernel
theorem dX11_of_62 : decode cX11_of 62 = .ok (.aload_n 0, 1) := by decide +kernel
theorem dX11_of_63 : decode cX11_of 63 = .ok (.getfield 10, 3) := by decide +kernel
theorem dX11_of_66 : decode cX11_of 66 = .ok (.getfield 194, 3) := by decide +kernel
theorem dX11_of_69 : decode cX11_of 69 = .ok (.iload_n 1, 1) := by decide +kernel
theorem dX11_of_70 : decode cX11_of 70 = .ok (.iaload, 1) := by decide +kernel
theorem dX11_of_71 : decode cX11_of 71 = .ok (.ireturn, 1) := by decide +kernel
theorem dX11_of_72 : decode cX11_of 72 = .ok (.aload_n 0, 1) := by decide +kernel
theorem dX11_of_73 : decode cX11_of 73 = .ok (.getfield 10, 3) := by decide +kernel
theorem dX11_of_76 : decode cX11_of 76 = .ok (.getfield 197, 3) := by decide +kernel
theorem dX11_of_79 : decode cX11_of 79 = .ok (.iload_n 1, 1) := by decide +kernel
theorem dX11_of_80 : decode cX11_of 80 = .ok (.iaload, 1) := by decide +kernel
theorem dX11_of_81 : decode cX11_of 81 = .ok (.ireturn, 1) := by decide +kernel
theorem dX11_of_82 : decode cX11_of 82 = .ok (.aload_n 0, 1) := by decide +kernel
theorem dX11_of_83 : decode cX11_of 83 = .ok (.getfield 19, 3) := by decide +kernel
theorem dX11_of_86 : decode cX11_of 86 = .ok (.getfield 199, 3) := by decide +kernel
theorem dX11_of_89 : decode cX11_of 89 = .ok (.iload_n 1, 1) := by decide +kernel
theorem dX11_of_90 : decode cX11_of 90 = .ok (.iaload, 1) := by decide +kernel
theorem dX11_of_91 : decode cX11_of 91 = .ok (.ireturn, 1) := by decide +kernel
theorem dX11_of_92 : decode cX11_of 92 = .ok (.aload_n 0, 1) := by decide +kernel
theorem dX11_of_93 : decode cX11_of 93 = .ok (.getfield 10, 3) := by decide +kernel
theorem dX11_of_96 : decode cX11_of 96 = .ok (.getfield 202, 3) := by decide +kernel
theorem dX11_of_99 : decode cX11_of 99 = .ok (.iload_n 1, 1) := by decide +kernel
theorem dX11_of_100 : decode cX11_of 100 = .ok (.iaload, 1) := by decide +kernel
theorem dX11_of_101 : decode cX11_of 101 = .ok (.ireturn, 1) := by decide +kernel
theorem dX11_of_102 : decode cX11_of 102 = .ok (.aload_n 0, 1) := by decide +kernel
theorem dX11_of_103 : decode cX11_of 103 = .ok (.getfield 67, 3) := by decide +kernel
theorem dX11_of_106 : decode cX11_of 106 = .ok (.iload_n 1, 1) := by decide +kernel
theorem dX11_of_107 : decode cX11_of 107 = .ok (.invokevirtual 205, 3) := by decide +kernel
theorem dX11_of_110 : decode cX11_of 110 = .ok (.ireturn, 1) := by decide +kernel
theorem dX11_of_111 : decode cX11_of 111 = .ok (.iconst (-1), 1) := by decide +kernel
theorem dX11_of_112 : decode cX11_of 112 = .ok (.ireturn, 1) := by decide +kernel
theorem dX11_ofGoer_0 : decode cX11_ofGoer 0 = .ok (.aload_n 0, 1) := by decide +kernel
theorem dX11_ofGoer_1 : decode cX11_ofGoer 1 = .ok (.getfield 10, 3) := by decide +kernel
theorem dX11_ofGoer_4 : decode cX11_ofGoer 4 = .ok (.iload_n 1, 1) := by decide +kernel
theorem dX11_ofGoer_5 : decode cX11_ofGoer 5 = .ok (.invokevirtual 209, 3) := by decide +kernel
theorem dX11_ofGoer_8 : decode cX11_ofGoer 8 = .ok (.ifCond .ne 5, 3) := by decide +kernel
theorem dX11_ofGoer_11 : decode cX11_ofGoer 11 = .ok (.iconst (-1), 1) := by decide +kernel
theorem dX11_ofGoer_12 : decode cX11_ofGoer 12 = .ok (.ireturn, 1) := by decide +kernel
theorem dX11_ofGoer_13 : decode cX11_ofGoer 13 = .ok (.iload_n 2, 1) := by decide +kernel
theorem dX11_ofGoer_14 : decode cX11_ofGoer 14 = .ok (.tableswitch 69 0 3 #[30, 40, 50, 60], 30) := by decide +kernel
theorem dX11_ofGoer_44 : decode cX11_ofGoer 44 = .ok (.aload_n 0, 1) := by decide +kernel
theorem dX11_ofGoer_45 : decode cX11_ofGoer 45 = .ok (.getfield 19, 3) := by decide +kernel
theorem dX11_ofGoer_48 : decode cX11_ofGoer 48 = .ok (.getfield 149, 3) := by decide +kernel
theorem dX11_ofGoer_51 : decode cX11_ofGoer 51 = .ok (.iload_n 1, 1) := by decide +kernel
theorem dX11_ofGoer_52 : decode cX11_ofGoer 52 = .ok (.iaload, 1) := by decide +kernel
theorem dX11_ofGoer_53 : decode cX11_ofGoer 53 = .ok (.ireturn, 1) := by decide +kernel
theorem dX11_ofGoer_54 : decode cX11_ofGoer 54 = .ok (.aload_n 0, 1) := by decide +kernel
theorem dX11_ofGoer_55 : decode cX11_ofGoer 55 = .ok (.getfield 10, 3) := by decide +kernel
theorem dX11_ofGoer_58 : decode cX11_ofGoer 58 = .ok (.getfield 212, 3) := by decide +kernel
theorem dX11_ofGoer_61 : decode cX11_ofGoer 61 = .ok (.iload_n 1, 1) := by decide +kernel
theorem dX11_ofGoer_62 : decode cX11_ofGoer 62 = .ok (.iaload, 1) := by decide +kernel
theorem dX11_ofGoer_63 : decode cX11_ofGoer 63 = .ok (.ireturn, 1) := by decide +kernel
theorem dX11_ofGoer_64 : decode cX11_ofGoer 64 = .ok (.aload_n 0, 1) := by decide +kernel
theorem dX11_ofGoer_65 : decode cX11_ofGoer 65 = .ok (.getfield 19, 3) := by decide +kernel
theorem dX11_ofGoer_68 : decode cX11_ofGoer 68 = .ok (.getfield 215, 3) := by decide +kernel
theorem dX11_ofGoer_71 : decode cX11_ofGoer 71 = .ok (.iload_n 1, 1) := by decide +kernel
theorem dX11_ofGoer_72 : decode cX11_ofGoer 72 = .ok (.iaload, 1) := by decide +kernel
theorem dX11_ofGoer_73 : decode cX11_ofGoer 73 = .ok (.ireturn, 1) := by decide +kernel
theorem dX11_ofGoer_74 : decode cX11_ofGoer 74 = .ok (.aload_n 0, 1) := by decide +kernel
theorem dX11_ofGoer_75 : decode cX11_ofGoer 75 = .ok (.getfield 76, 3) := by decide +kernel
theorem dX11_ofGoer_78 : decode cX11_ofGoer 78 = .ok (.iload_n 1, 1) := by decide +kernel
theorem dX11_ofGoer_79 : decode cX11_ofGoer 79 = .ok (.invokevirtual 218, 3) := by decide +kernel
theorem dX11_ofGoer_82 : decode cX11_ofGoer 82 = .ok (.ireturn, 1) := by decide +kernel
theorem dX11_ofGoer_83 : decode cX11_ofGoer 83 = .ok (.iconst (-1), 1) := by decide +kernel
theorem dX11_ofGoer_84 : decode cX11_ofGoer 84 = .ok (.ireturn, 1) := by decide +kernel
theorem dX11_sucks_0 : decode cX11_sucks 0 = .ok (.aload_n 0, 1) := by decide +kernel
theorem dX11_sucks_1 : decode cX11_sucks 1 = .ok (.getfield 10, 3) := by decide +kernel
theorem dX11_sucks_4 : decode cX11_sucks 4 = .ok (.iload_n 1, 1) := by decide +kernel
theorem dX11_sucks_5 : decode cX11_sucks 5 = .ok (.invokevirtual 209, 3) := by decide +kernel
theorem dX11_sucks_8 : decode cX11_sucks 8 = .ok (.ifCond .eq 33, 3) := by decide +kernel
theorem dX11_sucks_11 : decode cX11_sucks 11 = .ok (.aload_n 0, 1) := by decide +kernel
theorem dX11_sucks_12 : decode cX11_sucks 12 = .ok (.getfield 10, 3) := by decide +kernel
theorem dX11_sucks_15 : decode cX11_sucks 15 = .ok (.iload_n 2, 1) := by decide +kernel
theorem dX11_sucks_16 : decode cX11_sucks 16 = .ok (.invokevirtual 188, 3) := by decide +kernel
theorem dX11_sucks_19 : decode cX11_sucks 19 = .ok (.ifCond .eq 22, 3) := by decide +kernel
theorem dX11_sucks_22 : decode cX11_sucks 22 = .ok (.aload_n 0, 1) := by decide +kernel
theorem dX11_sucks_23 : decode cX11_sucks 23 = .ok (.getfield 67, 3) := by decide +kernel
theorem dX11_sucks_26 : decode cX11_sucks 26 = .ok (.aload_n 0, 1) := by decide +kernel
theorem dX11_sucks_27 : decode cX11_sucks 27 = .ok (.getfield 10, 3) := by decide +kernel
theorem dX11_sucks_30 : decode cX11_sucks 30 = .ok (.getfield 142, 3) := by decide +kernel
theorem dX11_sucks_33 : decode cX11_sucks 33 = .ok (.iload_n 1, 1) := by decide +kernel
theorem dX11_sucks_34 : decode cX11_sucks 34 = .ok (.iload_n 2, 1) := by decide +kernel
theorem dX11_sucks_35 : decode cX11_sucks 35 = .ok (.invokevirtual 221, 3) := by decide +kernel
theorem dX11_sucks_38 : decode cX11_sucks 38 = .ok (.goto 4, 3) := by decide +kernel
theorem dX11_sucks_41 : decode cX11_sucks 41 = .ok (.iconst (-1), 1) := by decide +kernel
theorem dX11_sucks_42 : decode cX11_sucks 42 = .ok (.ireturn, 1) := by decide +kernel
theorem dX11_is_0 : decode cX11_is 0 = .ok (.iload_n 1, 1) := by decide +kernel
theorem dX11_is_1 : decode cX11_is 1 = .ok (.tableswitch 63 0 3 #[31, 39, 47, 55], 31) := by decide +kernel
theorem dX11_is_32 : decode cX11_is 32 = .ok (.aload_n 0, 1) := by decide +kernel
theorem dX11_is_33 : decode cX11_is 33 = .ok (.getfield 19, 3) := by decide +kernel
theorem dX11_is_36 : decode cX11_is 36 = .ok (.getfield 157, 3) := by decide +kernel
theorem dX11_is_39 : decode cX11_is 39 = .ok (.ireturn, 1) := by decide +kernel
theorem dX11_is_40 : decode cX11_is 40 = .ok (.aload_n 0, 1) := by decide +kernel
theorem dX11_is_41 : decode cX11_is 41 = .ok (.getfield 19, 3) := by decide +kernel
theorem dX11_is_44 : decode cX11_is 44 = .ok (.getfield 225, 3) := by decide +kernel
theorem dX11_is_47 : decode cX11_is 47 = .ok (.ireturn, 1) := by decide +kernel
theorem dX11_is_48 : decode cX11_is 48 = .ok (.aload_n 0, 1) := by decide +kernel
theorem dX11_is_49 : decode cX11_is 49 = .ok (.getfield 19, 3) := by decide +kernel
theorem dX11_is_52 : decode cX11_is 52 = .ok (.getfield 228, 3) := by decide +kernel
theorem dX11_is_55 : decode cX11_is 55 = .ok (.ireturn, 1) := by decide +kernel
theorem dX11_is_56 : decode cX11_is 56 = .ok (.aload_n 0, 1) := by decide +kernel
theorem dX11_is_57 : decode cX11_is 57 = .ok (.getfield 19, 3) := by decide +kernel
theorem dX11_is_60 : decode cX11_is 60 = .ok (.getfield 231, 3) := by decide +kernel
theorem dX11_is_63 : decode cX11_is 63 = .ok (.ireturn, 1) := by decide +kernel
theorem dX11_is_64 : decode cX11_is 64 = .ok (.bipush (-2), 2) := by decide +kernel
theorem dX11_is_66 : decode cX11_is 66 = .ok (.ireturn, 1) := by decide +kernel
theorem dX11_book_0 : decode cX11_book 0 = .ok (.iload_n 1, 1) := by decide +kernel
theorem dX11_book_1 : decode cX11_book 1 = .ok (.iconst (-1), 1) := by decide +kernel
theorem dX11_book_2 : decode cX11_book 2 = .ok (.if_icmp .ne 11, 3) := by decide +kernel
theorem dX11_book_5 : decode cX11_book 5 = .ok (.aload_n 0, 1) := by decide +kernel
theorem dX11_book_6 : decode cX11_book 6 = .ok (.getfield 19, 3) := by decide +kernel
theorem dX11_book_9 : decode cX11_book 9 = .ok (.getfield 234, 3) := by decide +kernel
theorem dX11_book_12 : decode cX11_book 12 = .ok (.ireturn, 1) := by decide +kernel
theorem dX11_book_13 : decode cX11_book 13 = .ok (.iload_n 1, 1) := by decide +kernel
theorem dX11_book_14 : decode cX11_book 14 = .ok (.iconst 0, 1) := by decide +kernel
theorem dX11_book_15 : decode cX11_book 15 = .ok (.aload_n 0, 1) := by decide +kernel
theorem dX11_book_16 : decode cX11_book 16 = .ok (.getfield 19, 3) := by decide +kernel
theorem dX11_book_19 : decode cX11_book 19 = .ok (.getfield 234, 3) := by decide +kernel
theorem dX11_book_22 : decode cX11_book 22 = .ok (.iconst 1, 1) := by decide +kernel
theorem dX11_book_23 : decode cX11_book 23 = .ok (.isub, 1) := by decide +kernel
theorem dX11_book_24 : decode cX11_book 24 = .ok (.invokestatic 107, 3) := by decide +kernel
theorem dX11_book_27 : decode cX11_book 27 = .ok (.ifCond .ne 6, 3) := by decide +kernel
theorem dX11_book_30 : decode cX11_book 30 = .ok (.bipush (-2), 2) := by decide +kernel
theorem dX11_book_32 : decode cX11_book 32 = .ok (.ireturn, 1) := by decide +kernel
theorem dX11_book_33 : decode cX11_book 33 = .ok (.iload_n 2, 1) := by decide +kernel
theorem dX11_book_34 : decode cX11_book 34 = .ok (.tableswitch 66 0 3 #[30, 39, 48, 57], 30) := by decide +kernel
theorem dX11_book_64 : decode cX11_book 64 = .ok (.aload_n 0, 1) := by decide +kernel
theorem dX11_book_65 : decode cX11_book 65 = .ok (.getfield 19, 3) := by decide +kernel
theorem dX11_book_68 : decode cX11_book 68 = .ok (.iload_n 1, 1) := by decide +kernel
theorem dX11_book_69 : decode cX11_book 69 = .ok (.invokevirtual 237, 3) := by decide +kernel
theorem dX11_book_72 : decode cX11_book 72 = .ok (.ireturn, 1) := by decide +kernel
theorem dX11_book_73 : decode cX11_book 73 = .ok (.aload_n 0, 1) := by decide +kernel
theorem dX11_book_74 : decode cX11_book 74 = .ok (.getfield 19, 3) := by decide +kernel
theorem dX11_book_77 : decode cX11_book 77 = .ok (.iload_n 1, 1) := by decide +kernel
theorem dX11_book_78 : decode cX11_book 78 = .ok (.invokevirtual 240, 3) := by decide +kernel
theorem dX11_book_81 : decode cX11_book 81 = .ok (.ireturn, 1) := by decide +kernel
theorem dX11_book_82 : decode cX11_book 82 = .ok (.aload_n 0, 1) := by decide +kernel
theorem dX11_book_83 : decode cX11_book 83 = .ok (.getfield 19, 3) := by decide +kernel
theorem dX11_book_86 : decode cX11_book 86 = .ok (.iload_n 1, 1) := by decide +kernel
theorem dX11_book_87 : decode cX11_book 87 = .ok (.invokevirtual 243, 3) := by decide +kernel
theorem dX11_book_90 : decode cX11_book 90 = .ok (.ireturn, 1) := by decide +kernel
theorem dX11_book_91 : decode cX11_book 91 = .ok (.aload_n 0, 1) := by decide +kernel
theorem dX11_book_92 : decode cX11_book 92 = .ok (.getfield 19, 3) := by decide +kernel
theorem dX11_book_95 : decode cX11_book 95 = .ok (.iload_n 1, 1) := by decide +kernel
theorem dX11_book_96 : decode cX11_book 96 = .ok (.invokevirtual 246, 3) := by decide +kernel
theorem dX11_book_99 : decode cX11_book 99 = .ok (.ireturn, 1) := by decide +kernel
theorem dX11_book_100 : decode cX11_book 100 = .ok (.bipush (-2), 2) := by decide +kernel
theorem dX11_book_102 : decode cX11_book 102 = .ok (.ireturn, 1) := by decide +kernel
theorem dX11_foretold_0 : decode cX11_foretold 0 = .ok (.iload_n 2, 1) := by decide +kernel
theorem dX11_foretold_1 : decode cX11_foretold 1 = .ok (.ifCond .ne 18, 3) := by decide +kernel
theorem dX11_foretold_4 : decode cX11_foretold 4 = .ok (.aload_n 0, 1) := by decide +kernel
theorem dX11_foretold_5 : decode cX11_foretold 5 = .ok (.getfield 10, 3) := by decide +kernel
theorem dX11_foretold_8 : decode cX11_foretold 8 = .ok (.iload_n 3, 1) := by decide +kernel
theorem dX11_foretold_9 : decode cX11_foretold 9 = .ok (.invokevirtual 188, 3) := by decide +kernel
theorem dX11_foretold_12 : decode cX11_foretold 12 = .ok (.ifCond .eq 7, 3) := by decide +kernel
theorem dX11_foretold_15 : decode cX11_foretold 15 = .ok (.iconst 1, 1) := by decide +kernel
theorem dX11_foretold_16 : decode cX11_foretold 16 = .ok (.goto 4, 3) := by decide +kernel
theorem dX11_foretold_19 : decode cX11_foretold 19 = .ok (.iconst 0, 1) := by decide +kernel
theorem dX11_foretold_20 : decode cX11_foretold 20 = .ok (.istore 4, 2) := by decide +kernel
theorem dX11_foretold_22 : decode cX11_foretold 22 = .ok (.iload_n 2, 1) := by decide +kernel
theorem dX11_foretold_23 : decode cX11_foretold 23 = .ok (.iconst 1, 1) := by decide +kernel
theorem dX11_foretold_24 : decode cX11_foretold 24 = .ok (.if_icmp .eq 8, 3) := by decide +kernel
theorem dX11_foretold_27 : decode cX11_foretold 27 = .ok (.iload_n 2, 1) := by decide +kernel
theorem dX11_foretold_28 : decode cX11_foretold 28 = .ok (.iconst 2, 1) := by decide +kernel
theorem dX11_foretold_29 : decode cX11_foretold 29 = .ok (.if_icmp .ne 18, 3) := by decide +kernel
theorem dX11_foretold_32 : decode cX11_foretold 32 = .ok (.aload_n 0, 1) := by decide +kernel
theorem dX11_foretold_33 : decode cX11_foretold 33 = .ok (.getfield 10, 3) := by decide +kernel
theorem dX11_foretold_36 : decode cX11_foretold 36 = .ok (.iload_n 3, 1) := by decide +kernel
theorem dX11_foretold_37 : decode cX11_foretold 37 = .ok (.invokevirtual 209, 3) := by decide +kernel
theorem dX11_foretold_40 : decode cX11_foretold 40 = .ok (.ifCond .eq 7, 3) := by decide +kernel
theorem dX11_foretold_43 : decode cX11_foretold 43 = .ok (.iconst 1, 1) := by decide +kernel
theorem dX11_foretold_44 : decode cX11_foretold 44 = .ok (.goto 4, 3) := by decide +kernel
theorem dX11_foretold_47 : decode cX11_foretold 47 = .ok (.iconst 0, 1) := by decide +kernel
theorem dX11_foretold_48 : decode cX11_foretold 48 = .ok (.istore 5, 2) := by decide +kernel
theorem dX11_foretold_50 : decode cX11_foretold 50 = .ok (.iload_n 1, 1) := by decide +kernel
theorem dX11_foretold_51 : decode cX11_foretold 51 = .ok (.iconst 1, 1) := by decide +kernel
theorem dX11_foretold_52 : decode cX11_foretold 52 = .ok (.bipush 60, 2) := by decide +kernel
theorem dX11_foretold_54 : decode cX11_foretold 54 = .ok (.invokestatic 107, 3) := by decide +kernel
theorem dX11_foretold_57 : decode cX11_foretold 57 = .ok (.ifCond .eq 13, 3) := by decide +kernel
theorem dX11_foretold_60 : decode cX11_foretold 60 = .ok (.iload 4, 2) := by decide +kernel
theorem dX11_foretold_62 : decode cX11_foretold 62 = .ok (.ifCond .ne 10, 3) := by decide +kernel
theorem dX11_foretold_65 : decode cX11_foretold 65 = .ok (.iload 5, 2) := by decide +kernel
theorem dX11_foretold_67 : decode cX11_foretold 67 = .ok (.ifCond .ne 5, 3) := by decide +kernel
theorem dX11_foretold_70 : decode cX11_foretold 70 = .ok (.iconst (-1), 1) := by decide +kernel
theorem dX11_foretold_71 : decode cX11_foretold 71 = .ok (.ireturn, 1) := by decide +kernel
theorem dX11_foretold_72 : decode cX11_foretold 72 = .ok (.aload_n 0, 1) := by decide +kernel
theorem dX11_foretold_73 : decode cX11_foretold 73 = .ok (.getfield 76, 3) := by decide +kernel
theorem dX11_foretold_76 : decode cX11_foretold 76 = .ok (.iload_n 1, 1) := by decide +kernel
theorem dX11_foretold_77 : decode cX11_foretold 77 = .ok (.iload_n 2, 1) := by decide +kernel
theorem dX11_foretold_78 : decode cX11_foretold 78 = .ok (.iload_n 3, 1) := by decide +kernel
theorem dX11_foretold_79 : decode cX11_foretold 79 = .ok (.invokevirtual 249, 3) := by decide +kernel
theorem dX11_foretold_82 : decode cX11_foretold 82 = .ok (.ireturn, 1) := by decide +kernel
theorem dX11_miles_0 : decode cX11_miles 0 = .ok (.iload_n 1, 1) := by decide +kernel
theorem dX11_miles_1 : decode cX11_miles 1 = .ok (.invokestatic 103, 3) := by decide +kernel
theorem dX11_miles_4 : decode cX11_miles 4 = .ok (.ifCond .eq 33, 3) := by decide +kernel
theorem dX11_miles_7 : decode cX11_miles 7 = .ok (.iload_n 2, 1) := by decide +kernel
theorem dX11_miles_8 : decode cX11_miles 8 = .ok (.invokestatic 103, 3) := by decide +kernel
theorem dX11_miles_11 : decode cX11_miles 11 = .ok (.ifCond .eq 26, 3) := by decide +kernel
theorem dX11_miles_14 : decode cX11_miles 14 = .ok (.iload_n 3, 1) := by decide +kernel
theorem dX11_miles_15 : decode cX11_miles 15 = .ok (.iconst 0, 1) := by decide +kernel
theorem dX11_miles_16 : decode cX11_miles 16 = .ok (.bipush 99, 2) := by decide +kernel
theorem dX11_miles_18 : decode cX11_miles 18 = .ok (.invokestatic 107, 3) := by decide +kernel
theorem dX11_miles_21 : decode cX11_miles 21 = .ok (.ifCond .eq 16, 3) := by decide +kernel
theorem dX11_miles_24 : decode cX11_miles 24 = .ok (.aload_n 0, 1) := by decide +kernel
theorem dX11_miles_25 : decode cX11_miles 25 = .ok (.getfield 85, 3) := by decide +kernel
theorem dX11_miles_28 : decode cX11_miles 28 = .ok (.iload_n 1, 1) := by decide +kernel
theorem dX11_miles_29 : decode cX11_miles 29 = .ok (.iload_n 2, 1) := by decide +kernel
theorem dX11_miles_30 : decode cX11_miles 30 = .ok (.iload_n 3, 1) := by decide +kernel
theorem dX11_miles_31 : decode cX11_miles 31 = .ok (.invokevirtual 252, 3) := by decide +kernel
theorem dX11_miles_34 : decode cX11_miles 34 = .ok (.goto 4, 3) := by decide +kernel
theorem dX11_miles_37 : decode cX11_miles 37 = .ok (.iconst (-1), 1) := by decide +kernel
theorem dX11_miles_38 : decode cX11_miles 38 = .ok (.ireturn, 1) := by decide +kernel
theorem dX11_way_0 : decode cX11_way 0 = .ok (.iload_n 1, 1) := by decide +kernel
theorem dX11_way_1 : decode cX11_way 1 = .ok (.invokestatic 103, 3) := by decide +kernel
theorem dX11_way_4 : decode cX11_way 4 = .ok (.ifCond .eq 35, 3) := by decide +kernel
theorem dX11_way_7 : decode cX11_way 7 = .ok (.iload_n 2, 1) := by decide +kernel
theorem dX11_way_8 : decode cX11_way 8 = .ok (.invokestatic 103, 3) := by decide +kernel
theorem dX11_way_11 : decode cX11_way 11 = .ok (.ifCond .eq 28, 3) := by decide +kernel
theorem dX11_way_14 : decode cX11_way 14 = .ok (.iload_n 3, 1) := by decide +kernel
theorem dX11_way_15 : decode cX11_way 15 = .ok (.iconst 0, 1) := by decide +kernel
theorem dX11_way_16 : decode cX11_way 16 = .ok (.bipush 99, 2) := by decide +kernel
theorem dX11_way_18 : decode cX11_way 18 = .ok (.invokestatic 107, 3) := by decide +kernel
theorem dX11_way_21 : decode cX11_way 21 = .ok (.ifCond .eq 18, 3) := by decide +kernel
theorem dX11_way_24 : decode cX11_way 24 = .ok (.iload 4, 2) := by decide +kernel
theorem dX11_way_26 : decode cX11_way 26 = .ok (.iconst 0, 1) := by decide +kernel
theorem dX11_way_27 : decode cX11_way 27 = .ok (.bipush 8, 2) := by decide +kernel
theorem dX11_way_29 : decode cX11_way 29 = .ok (.invokestatic 107, 3) := by decide +kernel
theorem dX11_way_32 : decode cX11_way 32 = .ok (.ifCond .eq 7, 3) := by decide +kernel
theorem dX11_way_35 : decode cX11_way 35 = .ok (.iconst 1, 1) := by decide +kernel
theorem dX11_way_36 : decode cX11_way 36 = .ok (.goto 4, 3) := by decide +kernel
theorem dX11_way_39 : decode cX11_way 39 = .ok (.iconst 0, 1) := by decide +kernel
theorem dX11_way_40 : decode cX11_way 40 = .ok (.istore 5, 2) := by decide +kernel
theorem dX11_way_42 : decode cX11_way 42 = .ok (.iload 5, 2) := by decide +kernel
theorem dX11_way_44 : decode cX11_way 44 = .ok (.ifCond .eq 18, 3) := by decide +kernel
theorem dX11_way_47 : decode cX11_way 47 = .ok (.aload_n 0, 1) := by decide +kernel
theorem dX11_way_48 : decode cX11_way 48 = .ok (.getfield 85, 3) := by decide +kernel
theorem dX11_way_51 : decode cX11_way 51 = .ok (.iload_n 1, 1) := by decide +kernel
theorem dX11_way_52 : decode cX11_way 52 = .ok (.iload_n 2, 1) := by decide +kernel
theorem dX11_way_53 : decode cX11_way 53 = .ok (.iload_n 3, 1) := by decide +kernel
theorem dX11_way_54 : decode cX11_way 54 = .ok (.iload 4, 2) := by decide +kernel
theorem dX11_way_56 : decode cX11_way 56 = .ok (.invokevirtual 255, 3) := by decide +kernel
theorem dX11_way_59 : decode cX11_way 59 = .ok (.goto 5, 3) := by decide +kernel
theorem dX11_way_62 : decode cX11_way 62 = .ok (.bipush (-2), 2) := by decide +kernel
theorem dX11_way_64 : decode cX11_way 64 = .ok (.ireturn, 1) := by decide +kernel
theorem dX11_widest_0 : decode cX11_widest 0 = .ok (.iload_n 1, 1) := by decide +kernel
theorem dX11_widest_1 : decode cX11_widest 1 = .ok (.iload_n 2, 1) := by decide +kernel
theorem dX11_widest_2 : decode cX11_widest 2 = .ok (.invokestatic 258, 3) := by decide +kernel
theorem dX11_widest_5 : decode cX11_widest 5 = .ok (.ifCond .eq 15, 3) := by decide +kernel
theorem dX11_widest_8 : decode cX11_widest 8 = .ok (.aload_n 0, 1) := by decide +kernel
theorem dX11_widest_9 : decode cX11_widest 9 = .ok (.getfield 85, 3) := by decide +kernel
theorem dX11_widest_12 : decode cX11_widest 12 = .ok (.iload_n 1, 1) := by decide +kernel
theorem dX11_widest_13 : decode cX11_widest 13 = .ok (.iload_n 2, 1) := by decide +kernel
theorem dX11_widest_14 : decode cX11_widest 14 = .ok (.invokevirtual 261, 3) := by decide +kernel
theorem dX11_widest_17 : decode cX11_widest 17 = .ok (.goto 4, 3) := by decide +kernel
theorem dX11_widest_20 : decode cX11_widest 20 = .ok (.iconst (-1), 1) := by decide +kernel
theorem dX11_widest_21 : decode cX11_widest 21 = .ok (.ireturn, 1) := by decide +kernel
theorem dX11_flow_0 : decode cX11_flow 0 = .ok (.iload_n 1, 1) := by decide +kernel
theorem dX11_flow_1 : decode cX11_flow 1 = .ok (.iload_n 2, 1) := by decide +kernel
theorem dX11_flow_2 : decode cX11_flow 2 = .ok (.invokestatic 258, 3) := by decide +kernel
theorem dX11_flow_5 : decode cX11_flow 5 = .ok (.ifCond .eq 22, 3) := by decide +kernel
theorem dX11_flow_8 : decode cX11_flow 8 = .ok (.aload_n 0, 1) := by decide +kernel
theorem dX11_flow_9 : decode cX11_flow 9 = .ok (.getfield 85, 3) := by decide +kernel
theorem dX11_flow_12 : decode cX11_flow 12 = .ok (.aload_n 0, 1) := by decide +kernel
theorem dX11_flow_13 : decode cX11_flow 13 = .ok (.getfield 85, 3) := by decide +kernel
theorem dX11_flow_16 : decode cX11_flow 16 = .ok (.iload_n 1, 1) := by decide +kernel
theorem dX11_flow_17 : decode cX11_flow 17 = .ok (.iload_n 2, 1) := by decide +kernel
theorem dX11_flow_18 : decode cX11_flow 18 = .ok (.invokevirtual 264, 3) := by decide +kernel
theorem dX11_flow_21 : decode cX11_flow 21 = .ok (.invokevirtual 267, 3) := by decide +kernel
theorem dX11_flow_24 : decode cX11_flow 24 = .ok (.goto 4, 3) := by decide +kernel
theorem dX11_flow_27 : decode cX11_flow 27 = .ok (.iconst (-1), 1) := by decide +kernel
theorem dX11_flow_28 : decode cX11_flow 28 = .ok (.ireturn, 1) := by decide +kernel
theorem dX11_cut_0 : decode cX11_cut 0 = .ok (.iload_n 1, 1) := by decide +kernel
theorem dX11_cut_1 : decode cX11_cut 1 = .ok (.iload_n 2, 1) := by decide +kernel
theorem dX11_cut_2 : decode cX11_cut 2 = .ok (.invokestatic 258, 3) := by decide +kernel
theorem dX11_cut_5 : decode cX11_cut 5 = .ok (.ifCond .eq 15, 3) := by decide +kernel
theorem dX11_cut_8 : decode cX11_cut 8 = .ok (.aload_n 0, 1) := by decide +kernel
theorem dX11_cut_9 : decode cX11_cut 9 = .ok (.getfield 85, 3) := by decide +kernel
theorem dX11_cut_12 : decode cX11_cut 12 = .ok (.iload_n 1, 1) := by decide +kernel
theorem dX11_cut_13 : decode cX11_cut 13 = .ok (.iload_n 2, 1) := by decide +kernel
theorem dX11_cut_14 : decode cX11_cut 14 = .ok (.invokevirtual 264, 3) := by decide +kernel
theorem dX11_cut_17 : decode cX11_cut 17 = .ok (.goto 4, 3) := by decide +kernel
theorem dX11_cut_20 : decode cX11_cut 20 = .ok (.iconst (-1), 1) := by decide +kernel
theorem dX11_cut_21 : decode cX11_cut 21 = .ok (.ireturn, 1) := by decide +kernel
theorem dX11_tree_0 : decode cX11_tree 0 = .ok (.aload_n 0, 1) := by decide +kernel
theorem dX11_tree_1 : decode cX11_tree 1 = .ok (.getfield 85, 3) := by decide +kernel
theorem dX11_tree_4 : decode cX11_tree 4 = .ok (.invokevirtual 270, 3) := by decide +kernel
theorem dX11_tree_7 : decode cX11_tree 7 = .ok (.istore_n 2, 1) := by decide +kernel
theorem dX11_tree_8 : decode cX11_tree 8 = .ok (.iload_n 1, 1) := by decide +kernel
theorem dX11_tree_9 : decode cX11_tree 9 = .ok (.ifCond .eq 7, 3) := by decide +kernel
theorem dX11_tree_12 : decode cX11_tree 12 = .ok (.iload_n 2, 1) := by decide +kernel
theorem dX11_tree_13 : decode cX11_tree 13 = .ok (.goto 11, 3) := by decide +kernel
theorem dX11_tree_16 : decode cX11_tree 16 = .ok (.aload_n 0, 1) := by decide +kernel
theorem dX11_tree_17 : decode cX11_tree 17 = .ok (.getfield 85, 3) := by decide +kernel
theorem dX11_tree_20 : decode cX11_tree 20 = .ok (.iload_n 2, 1) := by decide +kernel
theorem dX11_tree_21 : decode cX11_tree 21 = .ok (.invokevirtual 273, 3) := by decide +kernel
theorem dX11_tree_24 : decode cX11_tree 24 = .ok (.ireturn, 1) := by decide +kernel
theorem dX11_bridges_0 : decode cX11_bridges 0 = .ok (.aload_n 0, 1) := by decide +kernel
theorem dX11_bridges_1 : decode cX11_bridges 1 = .ok (.getfield 85, 3) := by decide +kernel
theorem dX11_bridges_4 : decode cX11_bridges 4 = .ok (.invokevirtual 276, 3) := by decide +kernel
theorem dX11_bridges_7 : decode cX11_bridges 7 = .ok (.ireturn, 1) := by decide +kernel
theorem dX11_carter_0 : decode cX11_carter 0 = .ok (.iload_n 1, 1) := by decide +kernel
theorem dX11_carter_1 : decode cX11_carter 1 = .ok (.invokestatic 103, 3) := by decide +kernel
theorem dX11_carter_4 : decode cX11_carter 4 = .ok (.ifCond .eq 14, 3) := by decide +kernel
theorem dX11_carter_7 : decode cX11_carter 7 = .ok (.aload_n 0, 1) := by decide +kernel
theorem dX11_carter_8 : decode cX11_carter 8 = .ok (.getfield 85, 3) := by decide +kernel
theorem dX11_carter_11 : decode cX11_carter 11 = .ok (.iload_n 1, 1) := by decide +kernel
theorem dX11_carter_12 : decode cX11_carter 12 = .ok (.invokevirtual 279, 3) := by decide +kernel
theorem dX11_carter_15 : decode cX11_carter 15 = .ok (.goto 4, 3) := by decide +kernel
theorem dX11_carter_18 : decode cX11_carter 18 = .ok (.iconst (-1), 1) := by decide +kernel
theorem dX11_carter_19 : decode cX11_carter 19 = .ok (.ireturn, 1) := by decide +kernel
theorem dX11_centre_0 : decode cX11_centre 0 = .ok (.aload_n 0, 1) := by decide +kernel
theorem dX11_centre_1 : decode cX11_centre 1 = .ok (.getfield 85, 3) := by decide +kernel
theorem dX11_centre_4 : decode cX11_centre 4 = .ok (.invokevirtual 282, 3) := by decide +kernel
theorem dX11_centre_7 : decode cX11_centre 7 = .ok (.ireturn, 1) := by decide +kernel
theorem dX11_pieces_0 : decode cX11_pieces 0 = .ok (.aload_n 0, 1) := by decide +kernel
theorem dX11_pieces_1 : decode cX11_pieces 1 = .ok (.getfield 85, 3) := by decide +kernel
theorem dX11_pieces_4 : decode cX11_pieces 4 = .ok (.invokevirtual 285, 3) := by decide +kernel
theorem dX11_pieces_7 : decode cX11_pieces 7 = .ok (.ireturn, 1) := by decide +kernel
theorem dX11_times_0 : decode cX11_times 0 = .ok (.aload_n 0, 1) := by decide +kernel
theorem dX11_times_1 : decode cX11_times 1 = .ok (.getfield 10, 3) := by decide +kernel
theorem dX11_times_4 : decode cX11_times 4 = .ok (.iload_n 1, 1) := by decide +kernel
theorem dX11_times_5 : decode cX11_times 5 = .ok (.invokevirtual 209, 3) := by decide +kernel
theorem dX11_times_8 : decode cX11_times 8 = .ok (.ifCond .eq 26, 3) := by decide +kernel
theorem dX11_times_11 : decode cX11_times 11 = .ok (.aload_n 0, 1) := by decide +kernel
theorem dX11_times_12 : decode cX11_times 12 = .ok (.getfield 10, 3) := by decide +kernel
theorem dX11_times_15 : decode cX11_times 15 = .ok (.iload_n 2, 1) := by decide +kernel
theorem dX11_times_16 : decode cX11_times 16 = .ok (.invokevirtual 188, 3) := by decide +kernel
theorem dX11_times_19 : decode cX11_times 19 = .ok (.ifCond .eq 15, 3) := by decide +kernel
theorem dX11_times_22 : decode cX11_times 22 = .ok (.aload_n 0, 1) := by decide +kernel
theorem dX11_times_23 : decode cX11_times 23 = .ok (.getfield 94, 3) := by decide +kernel
theorem dX11_times_26 : decode cX11_times 26 = .ok (.iload_n 1, 1) := by decide +kernel
theorem dX11_times_27 : decode cX11_times 27 = .ok (.iload_n 2, 1) := by decide +kernel
theorem dX11_times_28 : decode cX11_times 28 = .ok (.invokevirtual 288, 3) := by decide +kernel
theorem dX11_times_31 : decode cX11_times 31 = .ok (.goto 4, 3) := by decide +kernel
theorem dX11_times_34 : decode cX11_times 34 = .ok (.iconst (-1), 1) := by decide +kernel
theorem dX11_times_35 : decode cX11_times 35 = .ok (.ireturn, 1) := by decide +kernel
theorem dX11_crowd_0 : decode cX11_crowd 0 = .ok (.aload_n 0, 1) := by decide +kernel
theorem dX11_crowd_1 : decode cX11_crowd 1 = .ok (.getfield 10, 3) := by decide +kernel
theorem dX11_crowd_4 : decode cX11_crowd 4 = .ok (.iload_n 1, 1) := by decide +kernel
theorem dX11_crowd_5 : decode cX11_crowd 5 = .ok (.invokevirtual 188, 3) := by decide +kernel
theorem dX11_crowd_8 : decode cX11_crowd 8 = .ok (.ifCond .ne 6, 3) := by decide +kernel
theorem dX11_crowd_11 : decode cX11_crowd 11 = .ok (.bipush (-2), 2) := by decide +kernel
theorem dX11_crowd_13 : decode cX11_crowd 13 = .ok (.ireturn, 1) := by decide +kernel
theorem dX11_crowd_14 : decode cX11_crowd 14 = .ok (.aload_n 0, 1) := by decide +kernel
theorem dX11_crowd_15 : decode cX11_crowd 15 = .ok (.getfield 94, 3) := by decide +kernel
theorem dX11_crowd_18 : decode cX11_crowd 18 = .ok (.iload_n 1, 1) := by decide +kernel
theorem dX11_crowd_19 : decode cX11_crowd 19 = .ok (.invokevirtual 291, 3) := by decide +kernel
theorem dX11_crowd_22 : decode cX11_crowd 22 = .ok (.istore_n 3, 1) := by decide +kernel
theorem dX11_crowd_23 : decode cX11_crowd 23 = .ok (.iload_n 2, 1) := by decide +kernel
theorem dX11_crowd_24 : decode cX11_crowd 24 = .ok (.iconst (-1), 1) := by decide +kernel
theorem dX11_crowd_25 : decode cX11_crowd 25 = .ok (.if_icmp .ne 5, 3) := by decide +kernel
theorem dX11_crowd_28 : decode cX11_crowd 28 = .ok (.iload_n 3, 1) := by decide +kernel
theorem dX11_crowd_29 : decode cX11_crowd 29 = .ok (.ireturn, 1) := by decide +kernel
theorem dX11_crowd_30 : decode cX11_crowd 30 = .ok (.iload_n 2, 1) := by decide +kernel
theorem dX11_crowd_31 : decode cX11_crowd 31 = .ok (.iconst 0, 1) := by decide +kernel
theorem dX11_crowd_32 : decode cX11_crowd 32 = .ok (.iload_n 3, 1) := by decide +kernel
theorem dX11_crowd_33 : decode cX11_crowd 33 = .ok (.iconst 1, 1) := by decide +kernel
theorem dX11_crowd_34 : decode cX11_crowd 34 = .ok (.isub, 1) := by decide +kernel
theorem dX11_crowd_35 : decode cX11_crowd 35 = .ok (.invokestatic 107, 3) := by decide +kernel
theorem dX11_crowd_38 : decode cX11_crowd 38 = .ok (.ifCond .eq 15, 3) := by decide +kernel
theorem dX11_crowd_41 : decode cX11_crowd 41 = .ok (.aload_n 0, 1) := by decide +kernel
theorem dX11_crowd_42 : decode cX11_crowd 42 = .ok (.getfield 94, 3) := by decide +kernel
theorem dX11_crowd_45 : decode cX11_crowd 45 = .ok (.getfield 294, 3) := by decide +kernel
theorem dX11_crowd_48 : decode cX11_crowd 48 = .ok (.iload_n 2, 1) := by decide +kernel
theorem dX11_crowd_49 : decode cX11_crowd 49 = .ok (.iaload, 1) := by decide +kernel
theorem dX11_crowd_50 : decode cX11_crowd 50 = .ok (.goto 5, 3) := by decide +kernel
theorem dX11_crowd_53 : decode cX11_crowd 53 = .ok (.bipush (-2), 2) := by decide +kernel
theorem dX11_crowd_55 : decode cX11_crowd 55 = .ok (.ireturn, 1) := by decide +kernel
theorem dX11_who_0 : decode cX11_who 0 = .ok (.aload_n 0, 1) := by decide +kernel
theorem dX11_who_1 : decode cX11_who 1 = .ok (.getfield 10, 3) := by decide +kernel
theorem dX11_who_4 : decode cX11_who 4 = .ok (.iload_n 1, 1) := by decide +kernel
theorem dX11_who_5 : decode cX11_who 5 = .ok (.invokevirtual 188, 3) := by decide +kernel
theorem dX11_who_8 : decode cX11_who 8 = .ok (.ifCond .eq 18, 3) := by decide +kernel
theorem dX11_who_11 : decode cX11_who 11 = .ok (.aload_n 0, 1) := by decide +kernel
theorem dX11_who_12 : decode cX11_who 12 = .ok (.getfield 30, 3) := by decide +kernel
theorem dX11_who_15 : decode cX11_who 15 = .ok (.iload_n 1, 1) := by decide +kernel
theorem dX11_who_16 : decode cX11_who 16 = .ok (.invokevirtual 188, 3) := by decide +kernel
theorem dX11_who_19 : decode cX11_who 19 = .ok (.ifCond .eq 7, 3) := by decide +kernel
theorem dX11_who_22 : decode cX11_who 22 = .ok (.iconst 1, 1) := by decide +kernel
theorem dX11_who_23 : decode cX11_who 23 = .ok (.goto 4, 3) := by decide +kernel
theorem dX11_who_26 : decode cX11_who 26 = .ok (.iconst 0, 1) := by decide +kernel
theorem dX11_who_27 : decode cX11_who 27 = .ok (.istore_n 2, 1) := by decide +kernel
theorem dX11_who_28 : decode cX11_who 28 = .ok (.iload_n 2, 1) := by decide +kernel
theorem dX11_who_29 : decode cX11_who 29 = .ok (.ifCond .eq 22, 3) := by decide +kernel
theorem dX11_who_32 : decode cX11_who 32 = .ok (.aload_n 0, 1) := by decide +kernel
theorem dX11_who_33 : decode cX11_who 33 = .ok (.getfield 94, 3) := by decide +kernel
theorem dX11_who_36 : decode cX11_who 36 = .ok (.iload_n 1, 1) := by decide +kernel
theorem dX11_who_37 : decode cX11_who 37 = .ok (.aload_n 0, 1) := by decide +kernel
theorem dX11_who_38 : decode cX11_who 38 = .ok (.getfield 33, 3) := by decide +kernel
theorem dX11_who_41 : decode cX11_who 41 = .ok (.iload_n 1, 1) := by decide +kernel
theorem dX11_who_42 : decode cX11_who 42 = .ok (.invokestatic 297, 3) := by decide +kernel
theorem dX11_who_45 : decode cX11_who 45 = .ok (.invokevirtual 301, 3) := by decide +kernel
theorem dX11_who_48 : decode cX11_who 48 = .ok (.goto 6, 3) := by decide +kernel
theorem dX11_who_51 : decode cX11_who 51 = .ok (.ldc2_w 305, 3) := by decide +kernel
theorem dX11_who_54 : decode cX11_who 54 = .ok (.lreturn, 1) := by decide +kernel
theorem dX11_watch_0 : decode cX11_watch 0 = .ok (.aload_n 0, 1) := by decide +kernel
theorem dX11_watch_1 : decode cX11_watch 1 = .ok (.getfield 85, 3) := by decide +kernel
theorem dX11_watch_4 : decode cX11_watch 4 = .ok (.invokevirtual 307, 3) := by decide +kernel
theorem dX11_watch_7 : decode cX11_watch 7 = .ok (.istore_n 2, 1) := by decide +kernel
theorem dX11_watch_8 : decode cX11_watch 8 = .ok (.iload_n 1, 1) := by decide +kernel
theorem dX11_watch_9 : decode cX11_watch 9 = .ok (.ifCond .eq 10, 3) := by decide +kernel
theorem dX11_watch_12 : decode cX11_watch 12 = .ok (.iload_n 2, 1) := by decide +kernel
theorem dX11_watch_13 : decode cX11_watch 13 = .ok (.invokestatic 310, 3) := by decide +kernel
theorem dX11_watch_16 : decode cX11_watch 16 = .ok (.goto 4, 3) := by decide +kernel
theorem dX11_watch_19 : decode cX11_watch 19 = .ok (.iload_n 2, 1) := by decide +kernel
theorem dX11_watch_20 : decode cX11_watch 20 = .ok (.ireturn, 1) := by decide +kernel
theorem dX11_colours_0 : decode cX11_colours 0 = .ok (.aload_n 0, 1) := by decide +kernel
theorem dX11_colours_1 : decode cX11_colours 1 = .ok (.getfield 85, 3) := by decide +kernel
theorem dX11_colours_4 : decode cX11_colours 4 = .ok (.invokevirtual 315, 3) := by decide +kernel
theorem dX11_colours_7 : decode cX11_colours 7 = .ok (.ireturn, 1) := by decide +kernel
theorem dX11_likely_0 : decode cX11_likely 0 = .ok (.iload_n 1, 1) := by decide +kernel
theorem dX11_likely_1 : decode cX11_likely 1 = .ok (.invokestatic 103, 3) := by decide +kernel
theorem dX11_likely_4 : decode cX11_likely 4 = .ok (.ifCond .eq 34, 3) := by decide +kernel
theorem dX11_likely_7 : decode cX11_likely 7 = .ok (.iload_n 3, 1) := by decide +kernel
theorem dX11_likely_8 : decode cX11_likely 8 = .ok (.invokestatic 103, 3) := by decide +kernel
theorem dX11_likely_11 : decode cX11_likely 11 = .ok (.ifCond .eq 27, 3) := by decide +kernel
theorem dX11_likely_14 : decode cX11_likely 14 = .ok (.iload_n 2, 1) := by decide +kernel
theorem dX11_likely_15 : decode cX11_likely 15 = .ok (.iconst 0, 1) := by decide +kernel
theorem dX11_likely_16 : decode cX11_likely 16 = .ok (.iconst 3, 1) := by decide +kernel
theorem dX11_likely_17 : decode cX11_likely 17 = .ok (.invokestatic 107, 3) := by decide +kernel
theorem dX11_likely_20 : decode cX11_likely 20 = .ok (.ifCond .eq 18, 3) := by decide +kernel
theorem dX11_likely_23 : decode cX11_likely 23 = .ok (.aload_n 0, 1) := by decide +kernel
theorem dX11_likely_24 : decode cX11_likely 24 = .ok (.getfield 85, 3) := by decide +kernel
theorem dX11_likely_27 : decode cX11_likely 27 = .ok (.iload_n 1, 1) := by decide +kernel
theorem dX11_likely_28 : decode cX11_likely 28 = .ok (.iload_n 2, 1) := by decide +kernel
theorem dX11_likely_29 : decode cX11_likely 29 = .ok (.iload_n 3, 1) := by decide +kernel
theorem dX11_likely_30 : decode cX11_likely 30 = .ok (.iload 4, 2) := by decide +kernel
theorem dX11_likely_32 : decode cX11_likely 32 = .ok (.invokevirtual 318, 3) := by decide +kernel
theorem dX11_likely_35 : decode cX11_likely 35 = .ok (.goto 6, 3) := by decide +kernel
theorem dX11_likely_38 : decode cX11_likely 38 = .ok (.ldc2_w 305, 3) := by decide +kernel
theorem dX11_likely_41 : decode cX11_likely 41 = .ok (.lreturn, 1) := by decide +kernel
theorem dX11_ring_0 : decode cX11_ring 0 = .ok (.iload_n 1, 1) := by decide +kernel
theorem dX11_ring_1 : decode cX11_ring 1 = .ok (.invokestatic 103, 3) := by decide +kernel
theorem dX11_ring_4 : decode cX11_ring 4 = .ok (.ifCond .eq 14, 3) := by decide +kernel
theorem dX11_ring_7 : decode cX11_ring 7 = .ok (.aload_n 0, 1) := by decide +kernel
theorem dX11_ring_8 : decode cX11_ring 8 = .ok (.getfield 85, 3) := by decide +kernel
theorem dX11_ring_11 : decode cX11_ring 11 = .ok (.iload_n 1, 1) := by decide +kernel
theorem dX11_ring_12 : decode cX11_ring 12 = .ok (.invokevirtual 322, 3) := by decide +kernel
theorem dX11_ring_15 : decode cX11_ring 15 = .ok (.goto 4, 3) := by decide +kernel
theorem dX11_ring_18 : decode cX11_ring 18 = .ok (.iconst (-1), 1) := by decide +kernel
theorem dX11_ring_19 : decode cX11_ring 19 = .ok (.ireturn, 1) := by decide +kernel
theorem dX11_stranded_0 : decode cX11_stranded 0 = .ok (.iconst 0, 1) := by decide +kernel
theorem dX11_stranded_1 : decode cX11_stranded 1 = .ok (.istore_n 1, 1) := by decide +kernel
theorem dX11_stranded_2 : decode cX11_stranded 2 = .ok (.iconst 0, 1) := by decide +kernel
theorem dX11_stranded_3 : decode cX11_stranded 3 = .ok (.istore_n 2, 1) := by decide +kernel
theorem dX11_stranded_4 : decode cX11_stranded 4 = .ok (.iload_n 2, 1) := by decide +kernel
theorem dX11_stranded_5 : decode cX11_stranded 5 = .ok (.aload_n 0, 1) := by decide +kernel
theorem dX11_stranded_6 : decode cX11_stranded 6 = .ok (.getfield 10, 3) := by decide +kernel
theorem dX11_stranded_9 : decode cX11_stranded 9 = .ok (.getfield 325, 3) := by decide +kernel
theorem dX11_stranded_12 : decode cX11_stranded 12 = .ok (.if_icmp .ge 26, 3) := by decide +kernel
theorem dX11_stranded_15 : decode cX11_stranded 15 = .ok (.aload_n 0, 1) := by decide +kernel
theorem dX11_stranded_16 : decode cX11_stranded 16 = .ok (.getfield 76, 3) := by decide +kernel
theorem dX11_stranded_19 : decode cX11_stranded 19 = .ok (.iload_n 2, 1) := by decide +kernel
theorem dX11_stranded_20 : decode cX11_stranded 20 = .ok (.invokevirtual 218, 3) := by decide +kernel
theorem dX11_stranded_23 : decode cX11_stranded 23 = .ok (.ifCond .ne 9, 3) := by decide +kernel
theorem dX11_stranded_26 : decode cX11_stranded 26 = .ok (.iload_n 1, 1) := by decide +kernel
theorem dX11_stranded_27 : decode cX11_stranded 27 = .ok (.iconst 1, 1) := by decide +kernel
theorem dX11_stranded_28 : decode cX11_stranded 28 = .ok (.iload_n 2, 1) := by decide +kernel
theorem dX11_stranded_29 : decode cX11_stranded 29 = .ok (.ishl, 1) := by decide +kernel
theorem dX11_stranded_30 : decode cX11_stranded 30 = .ok (.ior, 1) := by decide +kernel
theorem dX11_stranded_31 : decode cX11_stranded 31 = .ok (.istore_n 1, 1) := by decide +kernel
theorem dX11_stranded_32 : decode cX11_stranded 32 = .ok (.iinc 2 1, 3) := by decide +kernel
theorem dX11_stranded_35 : decode cX11_stranded 35 = .ok (.goto (-31), 3) := by decide +kernel
theorem dX11_stranded_38 : decode cX11_stranded 38 = .ok (.iload_n 1, 1) := by decide +kernel
theorem dX11_stranded_39 : decode cX11_stranded 39 = .ok (.ireturn, 1) := by decide +kernel
theorem dX11_said_0 : decode cX11_said 0 = .ok (.iload_n 1, 1) := by decide +kernel
theorem dX11_said_1 : decode cX11_said 1 = .ok (.iconst (-1), 1) := by decide +kernel
theorem dX11_said_2 : decode cX11_said 2 = .ok (.if_icmp .ne 13, 3) := by decide +kernel
theorem dX11_said_5 : decode cX11_said 5 = .ok (.aload_n 0, 1) := by decide +kernel
theorem dX11_said_6 : decode cX11_said 6 = .ok (.getfield 10, 3) := by decide +kernel
theorem dX11_said_9 : decode cX11_said 9 = .ok (.iconst 0, 1) := by decide +kernel
theorem dX11_said_10 : decode cX11_said 10 = .ok (.putfield 328, 3) := by decide +kernel
theorem dX11_said_13 : decode cX11_said 13 = .ok (.iconst 0, 1) := by decide +kernel
theorem dX11_said_14 : decode cX11_said 14 = .ok (.ireturn, 1) := by decide +kernel
theorem dX11_said_15 : decode cX11_said 15 = .ok (.aload_n 0, 1) := by decide +kernel
theorem dX11_said_16 : decode cX11_said 16 = .ok (.getfield 10, 3) := by decide +kernel
theorem dX11_said_19 : decode cX11_said 19 = .ok (.iload_n 1, 1) := by decide +kernel
theorem dX11_said_20 : decode cX11_said 20 = .ok (.invokevirtual 209, 3) := by decide +kernel
theorem dX11_said_23 : decode cX11_said 23 = .ok (.ifCond .eq 28, 3) := by decide +kernel
theorem dX11_said_26 : decode cX11_said 26 = .ok (.aload_n 0, 1) := by decide +kernel
theorem dX11_said_27 : decode cX11_said 27 = .ok (.getfield 10, 3) := by decide +kernel
theorem dX11_said_30 : decode cX11_said 30 = .ok (.iload_n 2, 1) := by decide +kernel
theorem dX11_said_31 : decode cX11_said 31 = .ok (.invokevirtual 188, 3) := by decide +kernel
theorem dX11_said_34 : decode cX11_said 34 = .ok (.ifCond .eq 17, 3) := by decide +kernel
theorem dX11_said_37 : decode cX11_said 37 = .ok (.iload_n 3, 1) := by decide +kernel
theorem dX11_said_38 : decode cX11_said 38 = .ok (.iconst 0, 1) := by decide +kernel
theorem dX11_said_39 : decode cX11_said 39 = .ok (.bipush 99, 2) := by decide +kernel
theorem dX11_said_41 : decode cX11_said 41 = .ok (.invokestatic 107, 3) := by decide +kernel
theorem dX11_said_44 : decode cX11_said 44 = .ok (.ifCond .eq 7, 3) := by decide +kernel
theorem dX11_said_47 : decode cX11_said 47 = .ok (.iconst 1, 1) := by decide +kernel
theorem dX11_said_48 : decode cX11_said 48 = .ok (.goto 4, 3) := by decide +kernel
theorem dX11_said_51 : decode cX11_said 51 = .ok (.iconst 0, 1) := by decide +kernel
theorem dX11_said_52 : decode cX11_said 52 = .ok (.istore 4, 2) := by decide +kernel
theorem dX11_said_54 : decode cX11_said 54 = .ok (.iload 4, 2) := by decide +kernel
theorem dX11_said_56 : decode cX11_said 56 = .ok (.ifCond .eq 15, 3) := by decide +kernel
theorem dX11_said_59 : decode cX11_said 59 = .ok (.aload_n 0, 1) := by decide +kernel
theorem dX11_said_60 : decode cX11_said 60 = .ok (.getfield 10, 3) := by decide +kernel
theorem dX11_said_63 : decode cX11_said 63 = .ok (.getfield 328, 3) := by decide +kernel
theorem dX11_said_66 : decode cX11_said 66 = .ok (.bipush 8, 2) := by decide +kernel
theorem dX11_said_68 : decode cX11_said 68 = .ok (.if_icmp .lt 6, 3) := by decide +kernel
theorem dX11_said_71 : decode cX11_said 71 = .ok (.bipush (-2), 2) := by decide +kernel
theorem dX11_said_73 : decode cX11_said 73 = .ok (.ireturn, 1) := by decide +kernel
theorem dX11_said_74 : decode cX11_said 74 = .ok (.aload_n 0, 1) := by decide +kernel
theorem dX11_said_75 : decode cX11_said 75 = .ok (.getfield 10, 3) := by decide +kernel
theorem dX11_said_78 : decode cX11_said 78 = .ok (.iload_n 1, 1) := by decide +kernel
theorem dX11_said_79 : decode cX11_said 79 = .ok (.iload_n 2, 1) := by decide +kernel
theorem dX11_said_80 : decode cX11_said 80 = .ok (.iload_n 3, 1) := by decide +kernel
theorem dX11_said_81 : decode cX11_said 81 = .ok (.invokevirtual 331, 3) := by decide +kernel
theorem dX11_said_84 : decode cX11_said 84 = .ok (.aload_n 0, 1) := by decide +kernel
theorem dX11_said_85 : decode cX11_said 85 = .ok (.getfield 10, 3) := by decide +kernel
theorem dX11_said_88 : decode cX11_said 88 = .ok (.getfield 328, 3) := by decide +kernel
theorem dX11_said_91 : decode cX11_said 91 = .ok (.ireturn, 1) := by decide +kernel
theorem dX11_whose_0 : decode cX11_whose 0 = .ok (.iconst 0, 1) := by decide +kernel
theorem dX11_whose_1 : decode cX11_whose 1 = .ok (.istore_n 1, 1) := by decide +kernel
theorem dX11_whose_2 : decode cX11_whose 2 = .ok (.iconst 0, 1) := by decide +kernel
theorem dX11_whose_3 : decode cX11_whose 3 = .ok (.istore_n 2, 1) := by decide +kernel
theorem dX11_whose_4 : decode cX11_whose 4 = .ok (.iload_n 2, 1) := by decide +kernel
theorem dX11_whose_5 : decode cX11_whose 5 = .ok (.aload_n 0, 1) := by decide +kernel
theorem dX11_whose_6 : decode cX11_whose 6 = .ok (.getfield 10, 3) := by decide +kernel
theorem dX11_whose_9 : decode cX11_whose 9 = .ok (.getfield 127, 3) := by decide +kernel
theorem dX11_whose_12 : decode cX11_whose 12 = .ok (.if_icmp .ge 26, 3) := by decide +kernel
theorem dX11_whose_15 : decode cX11_whose 15 = .ok (.aload_n 0, 1) := by decide +kernel
theorem dX11_whose_16 : decode cX11_whose 16 = .ok (.getfield 67, 3) := by decide +kernel
theorem dX11_whose_19 : decode cX11_whose 19 = .ok (.iload_n 2, 1) := by decide +kernel
theorem dX11_whose_20 : decode cX11_whose 20 = .ok (.invokevirtual 335, 3) := by decide +kernel
theorem dX11_whose_23 : decode cX11_whose 23 = .ok (.ifCond .eq 9, 3) := by decide +kernel
theorem dX11_whose_26 : decode cX11_whose 26 = .ok (.iload_n 1, 1) := by decide +kernel
theorem dX11_whose_27 : decode cX11_whose 27 = .ok (.iconst 1, 1) := by decide +kernel
theorem dX11_whose_28 : decode cX11_whose 28 = .ok (.iload_n 2, 1) := by decide +kernel
theorem dX11_whose_29 : decode cX11_whose 29 = .ok (.ishl, 1) := by decide +kernel
theorem dX11_whose_30 : decode cX11_whose 30 = .ok (.ior, 1) := by decide +kernel
theorem dX11_whose_31 : decode cX11_whose 31 = .ok (.istore_n 1, 1) := by decide +kernel
theorem dX11_whose_32 : decode cX11_whose 32 = .ok (.iinc 2 1, 3) := by decide +kernel
theorem dX11_whose_35 : decode cX11_whose 35 = .ok (.goto (-31), 3) := by decide +kernel
theorem dX11_whose_38 : decode cX11_whose 38 = .ok (.iload_n 1, 1) := by decide +kernel
theorem dX11_whose_39 : decode cX11_whose 39 = .ok (.ireturn, 1) := by decide +kernel
theorem dX11_thinnest_0 : decode cX11_thinnest 0 = .ok (.iconst (-1), 1) := by decide +kernel
theorem dX11_thinnest_1 : decode cX11_thinnest 1 = .ok (.istore_n 1, 1) := by decide +kernel
theorem dX11_thinnest_2 : decode cX11_thinnest 2 = .ok (.iconst 0, 1) := by decide +kernel
theorem dX11_thinnest_3 : decode cX11_thinnest 3 = .ok (.istore_n 2, 1) := by decide +kernel
theorem dX11_thinnest_4 : decode cX11_thinnest 4 = .ok (.iload_n 2, 1) := by decide +kernel
theorem dX11_thinnest_5 : decode cX11_thinnest 5 = .ok (.aload_n 0, 1) := by decide +kernel
theorem dX11_thinnest_6 : decode cX11_thinnest 6 = .ok (.getfield 10, 3) := by decide +kernel
theorem dX11_thinnest_9 : decode cX11_thinnest 9 = .ok (.getfield 338, 3) := by decide +kernel
theorem dX11_thinnest_12 : decode cX11_thinnest 12 = .ok (.if_icmp .ge 37, 3) := by decide +kernel
theorem dX11_thinnest_15 : decode cX11_thinnest 15 = .ok (.iload_n 1, 1) := by decide +kernel
theorem dX11_thinnest_16 : decode cX11_thinnest 16 = .ok (.iconst (-1), 1) := by decide +kernel
theorem dX11_thinnest_17 : decode cX11_thinnest 17 = .ok (.if_icmp .eq 24, 3) := by decide +kernel
theorem dX11_thinnest_20 : decode cX11_thinnest 20 = .ok (.aload_n 0, 1) := by decide +kernel
theorem dX11_thinnest_21 : decode cX11_thinnest 21 = .ok (.getfield 19, 3) := by decide +kernel
theorem dX11_thinnest_24 : decode cX11_thinnest 24 = .ok (.getfield 199, 3) := by decide +kernel
theorem dX11_thinnest_27 : decode cX11_thinnest 27 = .ok (.iload_n 2, 1) := by decide +kernel
theorem dX11_thinnest_28 : decode cX11_thinnest 28 = .ok (.iaload, 1) := by decide +kernel
theorem dX11_thinnest_29 : decode cX11_thinnest 29 = .ok (.aload_n 0, 1) := by decide +kernel
theorem dX11_thinnest_30 : decode cX11_thinnest 30 = .ok (.getfield 19, 3) := by decide +kernel
theorem dX11_thinnest_33 : decode cX11_thinnest 33 = .ok (.getfield 199, 3) := by decide +kernel
theorem dX11_thinnest_36 : decode cX11_thinnest 36 = .ok (.iload_n 1, 1) := by decide +kernel
theorem dX11_thinnest_37 : decode cX11_thinnest 37 = .ok (.iaload, 1) := by decide +kernel
theorem dX11_thinnest_38 : decode cX11_thinnest 38 = .ok (.if_icmp .ge 5, 3) := by decide +kernel
theorem dX11_thinnest_41 : decode cX11_thinnest 41 = .ok (.iload_n 2, 1) := by decide +kernel
theorem dX11_thinnest_42 : decode cX11_thinnest 42 = .ok (.istore_n 1, 1) := by decide +kernel
theorem dX11_thinnest_43 : decode cX11_thinnest 43 = .ok (.iinc 2 1, 3) := by decide +kernel
theorem dX11_thinnest_46 : decode cX11_thinnest 46 = .ok (.goto (-42), 3) := by decide +kernel
theorem dX11_thinnest_49 : decode cX11_thinnest 49 = .ok (.iload_n 1, 1) := by decide +kernel
theorem dX11_thinnest_50 : decode cX11_thinnest 50 = .ok (.ireturn, 1) := by decide +kernel
theorem dX11_busiest_0 : decode cX11_busiest 0 = .ok (.iconst (-1), 1) := by decide +kernel
theorem dX11_busiest_1 : decode cX11_busiest 1 = .ok (.istore_n 1, 1) := by decide +kernel
theorem dX11_busiest_2 : decode cX11_busiest 2 = .ok (.iconst 0, 1) := by decide +kernel
theorem dX11_busiest_3 : decode cX11_busiest 3 = .ok (.istore_n 2, 1) := by decide +kernel
theorem dX11_busiest_4 : decode cX11_busiest 4 = .ok (.iconst 0, 1) := by decide +kernel
theorem dX11_busiest_5 : decode cX11_busiest 5 = .ok (.istore_n 3, 1) := by decide +kernel
theorem dX11_busiest_6 : decode cX11_busiest 6 = .ok (.iload_n 3, 1) := by decide +kernel
theorem dX11_busiest_7 : decode cX11_busiest 7 = .ok (.aload_n 0, 1) := by decide +kernel
theorem dX11_busiest_8 : decode cX11_busiest 8 = .ok (.getfield 10, 3) := by decide +kernel
theorem dX11_busiest_11 : decode cX11_busiest 11 = .ok (.getfield 325, 3) := by decide +kernel
theorem dX11_busiest_14 : decode cX11_busiest 14 = .ok (.if_icmp .ge 34, 3) := by decide +kernel
theorem dX11_busiest_17 : decode cX11_busiest 17 = .ok (.aload_n 0, 1) := by decide +kernel
theorem dX11_busiest_18 : decode cX11_busiest 18 = .ok (.getfield 19, 3) := by decide +kernel
theorem dX11_busiest_21 : decode cX11_busiest 21 = .ok (.getfield 215, 3) := by decide +kernel
theorem dX11_busiest_24 : decode cX11_busiest 24 = .ok (.iload_n 3, 1) := by decide +kernel
theorem dX11_busiest_25 : decode cX11_busiest 25 = .ok (.iaload, 1) := by decide +kernel
theorem dX11_busiest_26 : decode cX11_busiest 26 = .ok (.iload_n 2, 1) := by decide +kernel
theorem dX11_busiest_27 : decode cX11_busiest 27 = .ok (.if_icmp .le 15, 3) := by decide +kernel
theorem dX11_busiest_30 : decode cX11_busiest 30 = .ok (.iload_n 3, 1) := by decide +kernel
theorem dX11_busiest_31 : decode cX11_busiest 31 = .ok (.istore_n 1, 1) := by decide +kernel
theorem dX11_busiest_32 : decode cX11_busiest 32 = .ok (.aload_n 0, 1) := by decide +kernel
theorem dX11_busiest_33 : decode cX11_busiest 33 = .ok (.getfield 19, 3) := by decide +kernel
theorem dX11_busiest_36 : decode cX11_busiest 36 = .ok (.getfield 215, 3) := by decide +kernel
theorem dX11_busiest_39 : decode cX11_busiest 39 = .ok (.iload_n 3, 1) := by decide +kernel
theorem dX11_busiest_40 : decode cX11_busiest 40 = .ok (.iaload, 1) := by decide +kernel
theorem dX11_busiest_41 : decode cX11_busiest 41 = .ok (.istore_n 2, 1) := by decide +kernel
theorem dX11_busiest_42 : decode cX11_busiest 42 = .ok (.iinc 3 1, 3) := by decide +kernel
theorem dX11_busiest_45 : decode cX11_busiest 45 = .ok (.goto (-39), 3) := by decide +kernel
theorem dX11_busiest_48 : decode cX11_busiest 48 = .ok (.iload_n 1, 1) := by decide +kernel
theorem dX11_busiest_49 : decode cX11_busiest 49 = .ok (.ireturn, 1) := by decide +kernel
theorem dX11_lonely_0 : decode cX11_lonely 0 = .ok (.iconst 0, 1) := by decide +kernel
theorem dX11_lonely_1 : decode cX11_lonely 1 = .ok (.istore_n 1, 1) := by decide +kernel
theorem dX11_lonely_2 : decode cX11_lonely 2 = .ok (.iconst 0, 1) := by decide +kernel
theorem dX11_lonely_3 : decode cX11_lonely 3 = .ok (.istore_n 2, 1) := by decide +kernel
theorem dX11_lonely_4 : decode cX11_lonely 4 = .ok (.iload_n 2, 1) := by decide +kernel
theorem dX11_lonely_5 : decode cX11_lonely 5 = .ok (.bipush 8, 2) := by decide +kernel
theorem dX11_lonely_7 : decode cX11_lonely 7 = .ok (.if_icmp .ge 26, 3) := by decide +kernel
theorem dX11_lonely_10 : decode cX11_lonely 10 = .ok (.aload_n 0, 1) := by decide +kernel
theorem dX11_lonely_11 : decode cX11_lonely 11 = .ok (.getfield 85, 3) := by decide +kernel
theorem dX11_lonely_14 : decode cX11_lonely 14 = .ok (.iload_n 2, 1) := by decide +kernel
theorem dX11_lonely_15 : decode cX11_lonely 15 = .ok (.invokevirtual 341, 3) := by decide +kernel
theorem dX11_lonely_18 : decode cX11_lonely 18 = .ok (.ifCond .ne 9, 3) := by decide +kernel
theorem dX11_lonely_21 : decode cX11_lonely 21 = .ok (.iload_n 1, 1) := by decide +kernel
theorem dX11_lonely_22 : decode cX11_lonely 22 = .ok (.iconst 1, 1) := by decide +kernel
theorem dX11_lonely_23 : decode cX11_lonely 23 = .ok (.iload_n 2, 1) := by decide +kernel
theorem dX11_lonely_24 : decode cX11_lonely 24 = .ok (.ishl, 1) := by decide +kernel
theorem dX11_lonely_25 : decode cX11_lonely 25 = .ok (.ior, 1) := by decide +kernel
theorem dX11_lonely_26 : decode cX11_lonely 26 = .ok (.istore_n 1, 1) := by decide +kernel
theorem dX11_lonely_27 : decode cX11_lonely 27 = .ok (.iinc 2 1, 3) := by decide +kernel
theorem dX11_lonely_30 : decode cX11_lonely 30 = .ok (.goto (-26), 3) := by decide +kernel
theorem dX11_lonely_33 : decode cX11_lonely 33 = .ok (.iload_n 1, 1) := by decide +kernel
theorem dX11_lonely_34 : decode cX11_lonely 34 = .ok (.ireturn, 1) := by decide +kernel
theorem dX11_ledger_0 : decode cX11_ledger 0 = .ok (.iload_n 1, 1) := by decide +kernel
theorem dX11_ledger_1 : decode cX11_ledger 1 = .ok (.iconst (-1), 1) := by decide +kernel
theorem dX11_ledger_2 : decode cX11_ledger 2 = .ok (.if_icmp .eq 17, 3) := by decide +kernel
theorem dX11_ledger_5 : decode cX11_ledger 5 = .ok (.aload_n 0, 1) := by decide +kernel
theorem dX11_ledger_6 : decode cX11_ledger 6 = .ok (.getfield 10, 3) := by decide +kernel
theorem dX11_ledger_9 : decode cX11_ledger 9 = .ok (.iload_n 1, 1) := by decide +kernel
theorem dX11_ledger_10 : decode cX11_ledger 10 = .ok (.invokevirtual 209, 3) := by decide +kernel
theorem dX11_ledger_13 : decode cX11_ledger 13 = .ok (.ifCond .ne 6, 3) := by decide +kernel
theorem dX11_ledger_16 : decode cX11_ledger 16 = .ok (.bipush (-2), 2) := by decide +kernel
theorem dX11_ledger_18 : decode cX11_ledger 18 = .ok (.ireturn, 1) := by decide +kernel
theorem dX11_ledger_19 : decode cX11_ledger 19 = .ok (.iconst 0, 1) := by decide +kernel
theorem dX11_ledger_20 : decode cX11_ledger 20 = .ok (.istore_n 2, 1) := by decide +kernel
theorem dX11_ledger_21 : decode cX11_ledger 21 = .ok (.iconst 0, 1) := by decide +kernel
theorem dX11_ledger_22 : decode cX11_ledger 22 = .ok (.istore_n 3, 1) := by decide +kernel
theorem dX11_ledger_23 : decode cX11_ledger 23 = .ok (.iload_n 3, 1) := by decide +kernel
theorem dX11_ledger_24 : decode cX11_ledger 24 = .ok (.aload_n 0, 1) := by decide +kernel
theorem dX11_ledger_25 : decode cX11_ledger 25 = .ok (.getfield 19, 3) := by decide +kernel
theorem dX11_ledger_28 : decode cX11_ledger 28 = .ok (.getfield 234, 3) := by decide +kernel
theorem dX11_ledger_31 : decode cX11_ledger 31 = .ok (.if_icmp .ge 37, 3) := by decide +kernel
theorem dX11_ledger_34 : decode cX11_ledger 34 = .ok (.iload_n 1, 1) := by decide +kernel
theorem dX11_ledger_35 : decode cX11_ledger 35 = .ok (.iconst (-1), 1) := by decide +kernel
theorem dX11_ledger_36 : decode cX11_ledger 36 = .ok (.if_icmp .eq 15, 3) := by decide +kernel
theorem dX11_ledger_39 : decode cX11_ledger 39 = .ok (.aload_n 0, 1) := by decide +kernel
theorem dX11_ledger_40 : decode cX11_ledger 40 = .ok (.getfield 19, 3) := by decide +kernel
theorem dX11_ledger_43 : decode cX11_ledger 43 = .ok (.iload_n 3, 1) := by decide +kernel
theorem dX11_ledger_44 : decode cX11_ledger 44 = .ok (.invokevirtual 240, 3) := by decide +kernel
theorem dX11_ledger_47 : decode cX11_ledger 47 = .ok (.iload_n 1, 1) := by decide +kernel
theorem dX11_ledger_48 : decode cX11_ledger 48 = .ok (.if_icmp .ne 14, 3) := by decide +kernel
theorem dX11_ledger_51 : decode cX11_ledger 51 = .ok (.iload_n 2, 1) := by decide +kernel
theorem dX11_ledger_52 : decode cX11_ledger 52 = .ok (.aload_n 0, 1) := by decide +kernel
theorem dX11_ledger_53 : decode cX11_ledger 53 = .ok (.getfield 19, 3) := by decide +kernel
theorem dX11_ledger_56 : decode cX11_ledger 56 = .ok (.iload_n 3, 1) := by decide +kernel
theorem dX11_ledger_57 : decode cX11_ledger 57 = .ok (.invokevirtual 246, 3) := by decide +kernel
theorem dX11_ledger_60 : decode cX11_ledger 60 = .ok (.iadd, 1) := by decide +kernel
theorem dX11_ledger_61 : decode cX11_ledger 61 = .ok (.istore_n 2, 1) := by decide +kernel
theorem dX11_ledger_62 : decode cX11_ledger 62 = .ok (.iinc 3 1, 3) := by decide +kernel
theorem dX11_ledger_65 : decode cX11_ledger 65 = .ok (.goto (-42), 3) := by decide +kernel
theorem dX11_ledger_68 : decode cX11_ledger 68 = .ok (.iload_n 2, 1) := by decide +kernel
theorem dX11_ledger_69 : decode cX11_ledger 69 = .ok (.ireturn, 1) := by decide +kernel
theorem dX11_image_0 : decode cX11_image 0 = .ok (.aload_n 0, 1) := by decide +kernel
theorem dX11_image_1 : decode cX11_image 1 = .ok (.getfield 30, 3) := by decide +kernel
theorem dX11_image_4 : decode cX11_image 4 = .ok (.aload_n 0, 1) := by decide +kernel
theorem dX11_image_5 : decode cX11_image 5 = .ok (.getfield 10, 3) := by decide +kernel
theorem dX11_image_8 : decode cX11_image 8 = .ok (.invokevirtual 344, 3) := by decide +kernel
theorem dX11_image_11 : decode cX11_image 11 = .ok (.aload_n 0, 1) := by decide +kernel
theorem dX11_image_12 : decode cX11_image 12 = .ok (.getfield 19, 3) := by decide +kernel
theorem dX11_image_15 : decode cX11_image 15 = .ok (.aload_n 0, 1) := by decide +kernel
theorem dX11_image_16 : decode cX11_image 16 = .ok (.getfield 33, 3) := by decide +kernel
theorem dX11_image_19 : decode cX11_image 19 = .ok (.iconst 0, 1) := by decide +kernel
theorem dX11_image_20 : decode cX11_image 20 = .ok (.aload_n 0, 1) := by decide +kernel
theorem dX11_image_21 : decode cX11_image 21 = .ok (.getfield 10, 3) := by decide +kernel
theorem dX11_image_24 : decode cX11_image 24 = .ok (.invokevirtual 99, 3) := by decide +kernel
theorem dX11_image_27 : decode cX11_image 27 = .ok (.aload_n 0, 1) := by decide +kernel
theorem dX11_image_28 : decode cX11_image 28 = .ok (.getfield 37, 3) := by decide +kernel
theorem dX11_image_31 : decode cX11_image 31 = .ok (.aload_n 0, 1) := by decide +kernel
theorem dX11_image_32 : decode cX11_image 32 = .ok (.getfield 26, 3) := by decide +kernel
theorem dX11_image_35 : decode cX11_image 35 = .ok (.invokevirtual 348, 3) := by decide +kernel
theorem dX11_image_38 : decode cX11_image 38 = .ok (.aload_n 0, 1) := by decide +kernel
theorem dX11_image_39 : decode cX11_image 39 = .ok (.getfield 19, 3) := by decide +kernel
theorem dX11_image_42 : decode cX11_image 42 = .ok (.getfield 157, 3) := by decide +kernel
theorem dX11_image_45 : decode cX11_image 45 = .ok (.ireturn, 1) := by decide +kernel
theorem dX11_back_0 : decode cX11_back 0 = .ok (.aload_n 0, 1) := by decide +kernel
theorem dX11_back_1 : decode cX11_back 1 = .ok (.getfield 10, 3) := by decide +kernel
theorem dX11_back_4 : decode cX11_back 4 = .ok (.aload_n 0, 1) := by decide +kernel
theorem dX11_back_5 : decode cX11_back 5 = .ok (.getfield 30, 3) := by decide +kernel
theorem dX11_back_8 : decode cX11_back 8 = .ok (.invokevirtual 344, 3) := by decide +kernel
theorem dX11_back_11 : decode cX11_back 11 = .ok (.aload_n 0, 1) := by decide +kernel
theorem dX11_back_12 : decode cX11_back 12 = .ok (.getfield 19, 3) := by decide +kernel
theorem dX11_back_15 : decode cX11_back 15 = .ok (.aload_n 0, 1) := by decide +kernel
theorem dX11_back_16 : decode cX11_back 16 = .ok (.getfield 33, 3) := by decide +kernel
theorem dX11_back_19 : decode cX11_back 19 = .ok (.iconst 0, 1) := by decide +kernel
theorem dX11_back_20 : decode cX11_back 20 = .ok (.invokevirtual 351, 3) := by decide +kernel
theorem dX11_back_23 : decode cX11_back 23 = .ok (.aload_n 0, 1) := by decide +kernel
theorem dX11_back_24 : decode cX11_back 24 = .ok (.getfield 26, 3) := by decide +kernel
theorem dX11_back_27 : decode cX11_back 27 = .ok (.aload_n 0, 1) := by decide +kernel
theorem dX11_back_28 : decode cX11_back 28 = .ok (.getfield 37, 3) := by decide +kernel
theorem dX11_back_31 : decode cX11_back 31 = .ok (.invokevirtual 348, 3) := by decide +kernel
theorem dX11_back_34 : decode cX11_back 34 = .ok (.aload_n 0, 1) := by decide +kernel
theorem dX11_back_35 : decode cX11_back 35 = .ok (.getfield 19, 3) := by decide +kernel
theorem dX11_back_38 : decode cX11_back 38 = .ok (.getfield 157, 3) := by decide +kernel
theorem dX11_back_41 : decode cX11_back 41 = .ok (.ireturn, 1) := by decide +kernel
theorem dX11_about_0 : decode cX11_about 0 = .ok (.iload_n 1, 1) := by decide +kernel
theorem dX11_about_1 : decode cX11_about 1 = .ok (.tableswitch 99 0 6 #[43, 51, 59, 67, 75, 83, 91], 43) := by decide +kernel
theorem dX11_about_44 : decode cX11_about 44 = .ok (.aload_n 0, 1) := by decide +kernel
theorem dX11_about_45 : decode cX11_about 45 = .ok (.getfield 10, 3) := by decide +kernel
theorem dX11_about_48 : decode cX11_about 48 = .ok (.getfield 338, 3) := by decide +kernel
theorem dX11_about_51 : decode cX11_about 51 = .ok (.ireturn, 1) := by decide +kernel
theorem dX11_about_52 : decode cX11_about 52 = .ok (.aload_n 0, 1) := by decide +kernel
theorem dX11_about_53 : decode cX11_about 53 = .ok (.getfield 10, 3) := by decide +kernel
theorem dX11_about_56 : decode cX11_about 56 = .ok (.getfield 325, 3) := by decide +kernel
theorem dX11_about_59 : decode cX11_about 59 = .ok (.ireturn, 1) := by decide +kernel
theorem dX11_about_60 : decode cX11_about 60 = .ok (.aload_n 0, 1) := by decide +kernel
theorem dX11_about_61 : decode cX11_about 61 = .ok (.getfield 10, 3) := by decide +kernel
theorem dX11_about_64 : decode cX11_about 64 = .ok (.getfield 127, 3) := by decide +kernel
theorem dX11_about_67 : decode cX11_about 67 = .ok (.ireturn, 1) := by decide +kernel
theorem dX11_about_68 : decode cX11_about 68 = .ok (.aload_n 0, 1) := by decide +kernel
theorem dX11_about_69 : decode cX11_about 69 = .ok (.getfield 10, 3) := by decide +kernel
theorem dX11_about_72 : decode cX11_about 72 = .ok (.getfield 142, 3) := by decide +kernel
theorem dX11_about_75 : decode cX11_about 75 = .ok (.ireturn, 1) := by decide +kernel
theorem dX11_about_76 : decode cX11_about 76 = .ok (.aload_n 0, 1) := by decide +kernel
theorem dX11_about_77 : decode cX11_about 77 = .ok (.getfield 26, 3) := by decide +kernel
theorem dX11_about_80 : decode cX11_about 80 = .ok (.getfield 185, 3) := by decide +kernel
theorem dX11_about_83 : decode cX11_about 83 = .ok (.ireturn, 1) := by decide +kernel
theorem dX11_about_84 : decode cX11_about 84 = .ok (.aload_n 0, 1) := by decide +kernel
theorem dX11_about_85 : decode cX11_about 85 = .ok (.getfield 10, 3) := by decide +kernel
theorem dX11_about_88 : decode cX11_about 88 = .ok (.getfield 328, 3) := by decide +kernel
theorem dX11_about_91 : decode cX11_about 91 = .ok (.ireturn, 1) := by decide +kernel
theorem dX11_about_92 : decode cX11_about 92 = .ok (.aload_n 0, 1) := by decide +kernel
theorem dX11_about_93 : decode cX11_about 93 = .ok (.getfield 49, 3) := by decide +kernel
theorem dX11_about_96 : decode cX11_about 96 = .ok (.getfield 119, 3) := by decide +kernel
theorem dX11_about_99 : decode cX11_about 99 = .ok (.ireturn, 1) := by decide +kernel
theorem dX11_about_100 : decode cX11_about 100 = .ok (.bipush (-2), 2) := by decide +kernel
theorem dX11_about_102 : decode cX11_about 102 = .ok (.ireturn, 1) := by decide +kernel
theorem dX11_within_0 : decode cX11_within 0 = .ok (.iload_n 0, 1) := by decide +kernel
theorem dX11_within_1 : decode cX11_within 1 = .ok (.iload_n 1, 1) := by decide +kernel
theorem dX11_within_2 : decode cX11_within 2 = .ok (.if_icmp .lt 12, 3) := by decide +kernel
theorem dX11_within_5 : decode cX11_within 5 = .ok (.iload_n 0, 1) := by decide +kernel
theorem dX11_within_6 : decode cX11_within 6 = .ok (.iload_n 2, 1) := by decide +kernel
theorem dX11_within_7 : decode cX11_within 7 = .ok (.if_icmp .gt 7, 3) := by decide +kernel
theorem dX11_within_10 : decode cX11_within 10 = .ok (.iconst 1, 1) := by decide +kernel
theorem dX11_within_11 : decode cX11_within 11 = .ok (.goto 4, 3) := by decide +kernel
theorem dX11_within_14 : decode cX11_within 14 = .ok (.iconst 0, 1) := by decide +kernel
theorem dX11_within_15 : decode cX11_within 15 = .ok (.ireturn, 1) := by decide +kernel
theorem dX11_isTown_0 : decode cX11_isTown 0 = .ok (.iload_n 0, 1) := by decide +kernel
theorem dX11_isTown_1 : decode cX11_isTown 1 = .ok (.iconst 0, 1) := by decide +kernel
theorem dX11_isTown_2 : decode cX11_isTown 2 = .ok (.bipush 7, 2) := by decide +kernel
theorem dX11_isTown_4 : decode cX11_isTown 4 = .ok (.invokestatic 107, 3) := by decide +kernel
theorem dX11_isTown_7 : decode cX11_isTown 7 = .ok (.ireturn, 1) := by decide +kernel
theorem dX11_areUnlikeTowns_0 : decode cX11_areUnlikeTowns 0 = .ok (.iload_n 0, 1) := by decide +kernel
theorem dX11_areUnlikeTowns_1 : decode cX11_areUnlikeTowns 1 = .ok (.invokestatic 103, 3) := by decide +kernel
theorem dX11_areUnlikeTowns_4 : decode cX11_areUnlikeTowns 4 = .ok (.ifCond .eq 19, 3) := by decide +kernel
theorem dX11_areUnlikeTowns_7 : decode cX11_areUnlikeTowns 7 = .ok (.iload_n 1, 1) := by decide +kernel
theorem dX11_areUnlikeTowns_8 : decode cX11_areUnlikeTowns 8 = .ok (.invokestatic 103, 3) := by decide +kernel
theorem dX11_areUnlikeTowns_11 : decode cX11_areUnlikeTowns 11 = .ok (.ifCond .eq 12, 3) := by decide +kernel
theorem dX11_areUnlikeTowns_14 : decode cX11_areUnlikeTowns 14 = .ok (.iload_n 0, 1) := by decide +kernel
theorem dX11_areUnlikeTowns_15 : decode cX11_areUnlikeTowns 15 = .ok (.iload_n 1, 1) := by decide +kernel
theorem dX11_areUnlikeTowns_16 : decode cX11_areUnlikeTowns 16 = .ok (.if_icmp .eq 7, 3) := by decide +kernel
theorem dX11_areUnlikeTowns_19 : decode cX11_areUnlikeTowns 19 = .ok (.iconst 1, 1) := by decide +kernel
theorem dX11_areUnlikeTowns_20 : decode cX11_areUnlikeTowns 20 = .ok (.goto 4, 3) := by decide +kernel
theorem dX11_areUnlikeTowns_23 : decode cX11_areUnlikeTowns 23 = .ok (.iconst 0, 1) := by decide +kernel
theorem dX11_areUnlikeTowns_24 : decode cX11_areUnlikeTowns 24 = .ok (.ireturn, 1) := by decide +kernel
theorem dX11_isText_0 : decode cX11_isText 0 = .ok (.iload_n 1, 1) := by decide +kernel
theorem dX11_isText_1 : decode cX11_isText 1 = .ok (.iconst 0, 1) := by decide +kernel
theorem dX11_isText_2 : decode cX11_isText 2 = .ok (.aload_n 0, 1) := by decide +kernel
theorem dX11_isText_3 : decode cX11_isText 3 = .ok (.getfield 10, 3) := by decide +kernel
theorem dX11_isText_6 : decode cX11_isText 6 = .ok (.getfield 127, 3) := by decide +kernel
theorem dX11_isText_9 : decode cX11_isText 9 = .ok (.iconst 1, 1) := by decide +kernel
theorem dX11_isText_10 : decode cX11_isText 10 = .ok (.isub, 1) := by decide +kernel
theorem dX11_isText_11 : decode cX11_isText 11 = .ok (.invokestatic 107, 3) := by decide +kernel
theorem dX11_isText_14 : decode cX11_isText 14 = .ok (.ireturn, 1) := by decide +kernel
theorem dJ11_isValidCodePoint_9a6ad_0 : decode cJ11_isValidCodePoint_9a6ad 0 = .ok (.iload_n 0, 1) := by decide +kernel
theorem dJ11_isValidCodePoint_9a6ad_1 : decode cJ11_isValidCodePoint_9a6ad 1 = .ok (.bipush 16, 2) := by decide +kernel
theorem dJ11_isValidCodePoint_9a6ad_3 : decode cJ11_isValidCodePoint_9a6ad 3 = .ok (.iushr, 1) := by decide +kernel
theorem dJ11_isValidCodePoint_9a6ad_4 : decode cJ11_isValidCodePoint_9a6ad 4 = .ok (.istore_n 1, 1) := by decide +kernel
theorem dJ11_isValidCodePoint_9a6ad_5 : decode cJ11_isValidCodePoint_9a6ad 5 = .ok (.iload_n 1, 1) := by decide +kernel
theorem dJ11_isValidCodePoint_9a6ad_6 : decode cJ11_isValidCodePoint_9a6ad 6 = .ok (.bipush 17, 2) := by decide +kernel
theorem dJ11_isValidCodePoint_9a6ad_8 : decode cJ11_isValidCodePoint_9a6ad 8 = .ok (.if_icmp .ge 7, 3) := by decide +kernel
theorem dJ11_isValidCodePoint_9a6ad_11 : decode cJ11_isValidCodePoint_9a6ad 11 = .ok (.iconst 1, 1) := by decide +kernel
theorem dJ11_isValidCodePoint_9a6ad_12 : decode cJ11_isValidCodePoint_9a6ad 12 = .ok (.goto 4, 3) := by decide +kernel
theorem dJ11_isValidCodePoint_9a6ad_15 : decode cJ11_isValidCodePoint_9a6ad 15 = .ok (.iconst 0, 1) := by decide +kernel
theorem dJ11_isValidCodePoint_9a6ad_16 : decode cJ11_isValidCodePoint_9a6ad 16 = .ok (.ireturn, 1) := by decide +kernel
theorem dJ11_highSurrogate_5068e_0 : decode cJ11_highSurrogate_5068e 0 = .ok (.iload_n 0, 1) := by decide +kernel
theorem dJ11_highSurrogate_5068e_1 : decode cJ11_highSurrogate_5068e 1 = .ok (.bipush 10, 2) := by decide +kernel
theorem dJ11_highSurrogate_5068e_3 : decode cJ11_highSurrogate_5068e 3 = .ok (.iushr, 1) := by decide +kernel
theorem dJ11_highSurrogate_5068e_4 : decode cJ11_highSurrogate_5068e 4 = .ok (.ldc 110, 2) := by decide +kernel
theorem dJ11_highSurrogate_5068e_6 : decode cJ11_highSurrogate_5068e 6 = .ok (.iadd, 1) := by decide +kernel
theorem dJ11_highSurrogate_5068e_7 : decode cJ11_highSurrogate_5068e 7 = .ok (.i2c, 1) := by decide +kernel
theorem dJ11_highSurrogate_5068e_8 : decode cJ11_highSurrogate_5068e 8 = .ok (.ireturn, 1) := by decide +kernel
theorem dJ11_lowSurrogate_5068e_0 : decode cJ11_lowSurrogate_5068e 0 = .ok (.iload_n 0, 1) := by decide +kernel
theorem dJ11_lowSurrogate_5068e_1 : decode cJ11_lowSurrogate_5068e 1 = .ok (.sipush 1023, 3) := by decide +kernel
theorem dJ11_lowSurrogate_5068e_4 : decode cJ11_lowSurrogate_5068e 4 = .ok (.iand, 1) := by decide +kernel
theorem dJ11_lowSurrogate_5068e_5 : decode cJ11_lowSurrogate_5068e 5 = .ok (.ldc 76, 2) := by decide +kernel
theorem dJ11_lowSurrogate_5068e_7 : decode cJ11_lowSurrogate_5068e 7 = .ok (.iadd, 1) := by decide +kernel
theorem dJ11_lowSurrogate_5068e_8 : decode cJ11_lowSurrogate_5068e 8 = .ok (.i2c, 1) := by decide +kernel
theorem dJ11_lowSurrogate_5068e_9 : decode cJ11_lowSurrogate_5068e 9 = .ok (.ireturn, 1) := by decide +kernel
theorem dJ6_numberOfTrailingZeros_0f7a4_0 : decode cJ6_numberOfTrailingZeros_0f7a4 0 = .ok (.iload_n 0, 1) := by decide +kernel
theorem dJ6_numberOfTrailingZeros_0f7a4_1 : decode cJ6_numberOfTrailingZeros_0f7a4 1 = .ok (.iconst (-1), 1) := by decide +kernel
theorem dJ6_numberOfTrailingZeros_0f7a4_2 : decode cJ6_numberOfTrailingZeros_0f7a4 2 = .ok (.ixor, 1) := by decide +kernel
theorem dJ6_numberOfTrailingZeros_0f7a4_3 : decode cJ6_numberOfTrailingZeros_0f7a4 3 = .ok (.iload_n 0, 1) := by decide +kernel
theorem dJ6_numberOfTrailingZeros_0f7a4_4 : decode cJ6_numberOfTrailingZeros_0f7a4 4 = .ok (.iconst 1, 1) := by decide +kernel
theorem dJ6_numberOfTrailingZeros_0f7a4_5 : decode cJ6_numberOfTrailingZeros_0f7a4 5 = .ok (.isub, 1) := by decide +kernel
theorem dJ6_numberOfTrailingZeros_0f7a4_6 : decode cJ6_numberOfTrailingZeros_0f7a4 6 = .ok (.iand, 1) := by decide +kernel
theorem dJ6_numberOfTrailingZeros_0f7a4_7 : decode cJ6_numberOfTrailingZeros_0f7a4 7 = .ok (.istore_n 0, 1) := by decide +kernel
theorem dJ6_numberOfTrailingZeros_0f7a4_8 : decode cJ6_numberOfTrailingZeros_0f7a4 8 = .ok (.iload_n 0, 1) := by decide +kernel
theorem dJ6_numberOfTrailingZeros_0f7a4_9 : decode cJ6_numberOfTrailingZeros_0f7a4 9 = .ok (.ifCond .gt 8, 3) := by decide +kernel
theorem dJ6_numberOfTrailingZeros_0f7a4_12 : decode cJ6_numberOfTrailingZeros_0f7a4 12 = .ok (.iload_n 0, 1) := by decide +kernel
theorem dJ6_numberOfTrailingZeros_0f7a4_13 : decode cJ6_numberOfTrailingZeros_0f7a4 13 = .ok (.bipush 32, 2) := by decide +kernel
theorem dJ6_numberOfTrailingZeros_0f7a4_15 : decode cJ6_numberOfTrailingZeros_0f7a4 15 = .ok (.iand, 1) := by decide +kernel
theorem dJ6_numberOfTrailingZeros_0f7a4_16 : decode cJ6_numberOfTrailingZeros_0f7a4 16 = .ok (.ireturn, 1) := by decide +kernel
theorem dJ6_numberOfTrailingZeros_0f7a4_17 : decode cJ6_numberOfTrailingZeros_0f7a4 17 = .ok (.iconst 1, 1) := by decide +kernel
theorem dJ6_numberOfTrailingZeros_0f7a4_18 : decode cJ6_numberOfTrailingZeros_0f7a4 18 = .ok (.istore_n 1, 1) := by decide +kernel
theorem dJ6_numberOfTrailingZeros_0f7a4_19 : decode cJ6_numberOfTrailingZeros_0f7a4 19 = .ok (.iload_n 0, 1) := by decide +kernel
theorem dJ6_numberOfTrailingZeros_0f7a4_20 : decode cJ6_numberOfTrailingZeros_0f7a4 20 = .ok (.ldc_w 264, 3) := by decide +kernel
theorem dJ6_numberOfTrailingZeros_0f7a4_23 : decode cJ6_numberOfTrailingZeros_0f7a4 23 = .ok (.if_icmp .le 11, 3) := by decide +kernel
theorem dJ6_numberOfTrailingZeros_0f7a4_26 : decode cJ6_numberOfTrailingZeros_0f7a4 26 = .ok (.iinc 1 16, 3) := by decide +kernel
theorem dJ6_numberOfTrailingZeros_0f7a4_29 : decode cJ6_numberOfTrailingZeros_0f7a4 29 = .ok (.iload_n 0, 1) := by decide +kernel
theorem dJ6_numberOfTrailingZeros_0f7a4_30 : decode cJ6_numberOfTrailingZeros_0f7a4 30 = .ok (.bipush 16, 2) := by decide +kernel
theorem dJ6_numberOfTrailingZeros_0f7a4_32 : decode cJ6_numberOfTrailingZeros_0f7a4 32 = .ok (.iushr, 1) := by decide +kernel
theorem dJ6_numberOfTrailingZeros_0f7a4_33 : decode cJ6_numberOfTrailingZeros_0f7a4 33 = .ok (.istore_n 0, 1) := by decide +kernel
theorem dJ6_numberOfTrailingZeros_0f7a4_34 : decode cJ6_numberOfTrailingZeros_0f7a4 34 = .ok (.iload_n 0, 1) := by decide +kernel
theorem dJ6_numberOfTrailingZeros_0f7a4_35 : decode cJ6_numberOfTrailingZeros_0f7a4 35 = .ok (.sipush 256, 3) := by decide +kernel
theorem dJ6_numberOfTrailingZeros_0f7a4_38 : decode cJ6_numberOfTrailingZeros_0f7a4 38 = .ok (.if_icmp .le 11, 3) := by decide +kernel
theorem dJ6_numberOfTrailingZeros_0f7a4_41 : decode cJ6_numberOfTrailingZeros_0f7a4 41 = .ok (.iinc 1 8, 3) := by decide +kernel
theorem dJ6_numberOfTrailingZeros_0f7a4_44 : decode cJ6_numberOfTrailingZeros_0f7a4 44 = .ok (.iload_n 0, 1) := by decide +kernel
theorem dJ6_numberOfTrailingZeros_0f7a4_45 : decode cJ6_numberOfTrailingZeros_0f7a4 45 = .ok (.bipush 8, 2) := by decide +kernel
theorem dJ6_numberOfTrailingZeros_0f7a4_47 : decode cJ6_numberOfTrailingZeros_0f7a4 47 = .ok (.iushr, 1) := by decide +kernel
theorem dJ6_numberOfTrailingZeros_0f7a4_48 : decode cJ6_numberOfTrailingZeros_0f7a4 48 = .ok (.istore_n 0, 1) := by decide +kernel
theorem dJ6_numberOfTrailingZeros_0f7a4_49 : decode cJ6_numberOfTrailingZeros_0f7a4 49 = .ok (.iload_n 0, 1) := by decide +kernel
theorem dJ6_numberOfTrailingZeros_0f7a4_50 : decode cJ6_numberOfTrailingZeros_0f7a4 50 = .ok (.bipush 16, 2) := by decide +kernel
theorem dJ6_numberOfTrailingZeros_0f7a4_52 : decode cJ6_numberOfTrailingZeros_0f7a4 52 = .ok (.if_icmp .le 10, 3) := by decide +kernel
theorem dJ6_numberOfTrailingZeros_0f7a4_55 : decode cJ6_numberOfTrailingZeros_0f7a4 55 = .ok (.iinc 1 4, 3) := by decide +kernel
theorem dJ6_numberOfTrailingZeros_0f7a4_58 : decode cJ6_numberOfTrailingZeros_0f7a4 58 = .ok (.iload_n 0, 1) := by decide +kernel
theorem dJ6_numberOfTrailingZeros_0f7a4_59 : decode cJ6_numberOfTrailingZeros_0f7a4 59 = .ok (.iconst 4, 1) := by decide +kernel
theorem dJ6_numberOfTrailingZeros_0f7a4_60 : decode cJ6_numberOfTrailingZeros_0f7a4 60 = .ok (.iushr, 1) := by decide +kernel
theorem dJ6_numberOfTrailingZeros_0f7a4_61 : decode cJ6_numberOfTrailingZeros_0f7a4 61 = .ok (.istore_n 0, 1) := by decide +kernel
theorem dJ6_numberOfTrailingZeros_0f7a4_62 : decode cJ6_numberOfTrailingZeros_0f7a4 62 = .ok (.iload_n 0, 1) := by decide +kernel
theorem dJ6_numberOfTrailingZeros_0f7a4_63 : decode cJ6_numberOfTrailingZeros_0f7a4 63 = .ok (.iconst 4, 1) := by decide +kernel
theorem dJ6_numberOfTrailingZeros_0f7a4_64 : decode cJ6_numberOfTrailingZeros_0f7a4 64 = .ok (.if_icmp .le 10, 3) := by decide +kernel
theorem dJ6_numberOfTrailingZeros_0f7a4_67 : decode cJ6_numberOfTrailingZeros_0f7a4 67 = .ok (.iinc 1 2, 3) := by decide +kernel
theorem dJ6_numberOfTrailingZeros_0f7a4_70 : decode cJ6_numberOfTrailingZeros_0f7a4 70 = .ok (.iload_n 0, 1) := by decide +kernel
theorem dJ6_numberOfTrailingZeros_0f7a4_71 : decode cJ6_numberOfTrailingZeros_0f7a4 71 = .ok (.iconst 2, 1) := by decide +kernel
theorem dJ6_numberOfTrailingZeros_0f7a4_72 : decode cJ6_numberOfTrailingZeros_0f7a4 72 = .ok (.iushr, 1) := by decide +kernel
theorem dJ6_numberOfTrailingZeros_0f7a4_73 : decode cJ6_numberOfTrailingZeros_0f7a4 73 = .ok (.istore_n 0, 1) := by decide +kernel
theorem dJ6_numberOfTrailingZeros_0f7a4_74 : decode cJ6_numberOfTrailingZeros_0f7a4 74 = .ok (.iload_n 1, 1) := by decide +kernel
theorem dJ6_numberOfTrailingZeros_0f7a4_75 : decode cJ6_numberOfTrailingZeros_0f7a4 75 = .ok (.iload_n 0, 1) := by decide +kernel
theorem dJ6_numberOfTrailingZeros_0f7a4_76 : decode cJ6_numberOfTrailingZeros_0f7a4 76 = .ok (.iconst 1, 1) := by decide +kernel
theorem dJ6_numberOfTrailingZeros_0f7a4_77 : decode cJ6_numberOfTrailingZeros_0f7a4 77 = .ok (.iushr, 1) := by decide +kernel
theorem dJ6_numberOfTrailingZeros_0f7a4_78 : decode cJ6_numberOfTrailingZeros_0f7a4 78 = .ok (.iadd, 1) := by decide +kernel
theorem dJ6_numberOfTrailingZeros_0f7a4_79 : decode cJ6_numberOfTrailingZeros_0f7a4 79 = .ok (.ireturn, 1) := by decide +kernel
theorem dJ6_bitCount_0f7a4_0 : decode cJ6_bitCount_0f7a4 0 = .ok (.iload_n 0, 1) := by decide +kernel
theorem dJ6_bitCount_0f7a4_1 : decode cJ6_bitCount_0f7a4 1 = .ok (.iload_n 0, 1) := by decide +kernel
theorem dJ6_bitCount_0f7a4_2 : decode cJ6_bitCount_0f7a4 2 = .ok (.iconst 1, 1) := by decide +kernel
theorem dJ6_bitCount_0f7a4_3 : decode cJ6_bitCount_0f7a4 3 = .ok (.iushr, 1) := by decide +kernel
theorem dJ6_bitCount_0f7a4_4 : decode cJ6_bitCount_0f7a4 4 = .ok (.ldc_w 265, 3) := by decide +kernel
theorem dJ6_bitCount_0f7a4_7 : decode cJ6_bitCount_0f7a4 7 = .ok (.iand, 1) := by decide +kernel
theorem dJ6_bitCount_0f7a4_8 : decode cJ6_bitCount_0f7a4 8 = .ok (.isub, 1) := by decide +kernel
theorem dJ6_bitCount_0f7a4_9 : decode cJ6_bitCount_0f7a4 9 = .ok (.istore_n 0, 1) := by decide +kernel
theorem dJ6_bitCount_0f7a4_10 : decode cJ6_bitCount_0f7a4 10 = .ok (.iload_n 0, 1) := by decide +kernel
theorem dJ6_bitCount_0f7a4_11 : decode cJ6_bitCount_0f7a4 11 = .ok (.ldc_w 266, 3) := by decide +kernel
theorem dJ6_bitCount_0f7a4_14 : decode cJ6_bitCount_0f7a4 14 = .ok (.iand, 1) := by decide +kernel
theorem dJ6_bitCount_0f7a4_15 : decode cJ6_bitCount_0f7a4 15 = .ok (.iload_n 0, 1) := by decide +kernel
theorem dJ6_bitCount_0f7a4_16 : decode cJ6_bitCount_0f7a4 16 = .ok (.iconst 2, 1) := by decide +kernel
theorem dJ6_bitCount_0f7a4_17 : decode cJ6_bitCount_0f7a4 17 = .ok (.iushr, 1) := by decide +kernel
theorem dJ6_bitCount_0f7a4_18 : decode cJ6_bitCount_0f7a4 18 = .ok (.ldc_w 266, 3) := by decide +kernel
theorem dJ6_bitCount_0f7a4_21 : decode cJ6_bitCount_0f7a4 21 = .ok (.iand, 1) := by decide +kernel
theorem dJ6_bitCount_0f7a4_22 : decode cJ6_bitCount_0f7a4 22 = .ok (.iadd, 1) := by decide +kernel
theorem dJ6_bitCount_0f7a4_23 : decode cJ6_bitCount_0f7a4 23 = .ok (.istore_n 0, 1) := by decide +kernel
theorem dJ6_bitCount_0f7a4_24 : decode cJ6_bitCount_0f7a4 24 = .ok (.iload_n 0, 1) := by decide +kernel
theorem dJ6_bitCount_0f7a4_25 : decode cJ6_bitCount_0f7a4 25 = .ok (.iload_n 0, 1) := by decide +kernel
theorem dJ6_bitCount_0f7a4_26 : decode cJ6_bitCount_0f7a4 26 = .ok (.iconst 4, 1) := by decide +kernel
theorem dJ6_bitCount_0f7a4_27 : decode cJ6_bitCount_0f7a4 27 = .ok (.iushr, 1) := by decide +kernel
theorem dJ6_bitCount_0f7a4_28 : decode cJ6_bitCount_0f7a4 28 = .ok (.iadd, 1) := by decide +kernel
theorem dJ6_bitCount_0f7a4_29 : decode cJ6_bitCount_0f7a4 29 = .ok (.ldc_w 267, 3) := by decide +kernel
theorem dJ6_bitCount_0f7a4_32 : decode cJ6_bitCount_0f7a4 32 = .ok (.iand, 1) := by decide +kernel
theorem dJ6_bitCount_0f7a4_33 : decode cJ6_bitCount_0f7a4 33 = .ok (.istore_n 0, 1) := by decide +kernel
theorem dJ6_bitCount_0f7a4_34 : decode cJ6_bitCount_0f7a4 34 = .ok (.iload_n 0, 1) := by decide +kernel
theorem dJ6_bitCount_0f7a4_35 : decode cJ6_bitCount_0f7a4 35 = .ok (.iload_n 0, 1) := by decide +kernel
theorem dJ6_bitCount_0f7a4_36 : decode cJ6_bitCount_0f7a4 36 = .ok (.bipush 8, 2) := by decide +kernel
theorem dJ6_bitCount_0f7a4_38 : decode cJ6_bitCount_0f7a4 38 = .ok (.iushr, 1) := by decide +kernel
theorem dJ6_bitCount_0f7a4_39 : decode cJ6_bitCount_0f7a4 39 = .ok (.iadd, 1) := by decide +kernel
theorem dJ6_bitCount_0f7a4_40 : decode cJ6_bitCount_0f7a4 40 = .ok (.istore_n 0, 1) := by decide +kernel
theorem dJ6_bitCount_0f7a4_41 : decode cJ6_bitCount_0f7a4 41 = .ok (.iload_n 0, 1) := by decide +kernel
theorem dJ6_bitCount_0f7a4_42 : decode cJ6_bitCount_0f7a4 42 = .ok (.iload_n 0, 1) := by decide +kernel
theorem dJ6_bitCount_0f7a4_43 : decode cJ6_bitCount_0f7a4 43 = .ok (.bipush 16, 2) := by decide +kernel
theorem dJ6_bitCount_0f7a4_45 : decode cJ6_bitCount_0f7a4 45 = .ok (.iushr, 1) := by decide +kernel
theorem dJ6_bitCount_0f7a4_46 : decode cJ6_bitCount_0f7a4 46 = .ok (.iadd, 1) := by decide +kernel
theorem dJ6_bitCount_0f7a4_47 : decode cJ6_bitCount_0f7a4 47 = .ok (.istore_n 0, 1) := by decide +kernel
theorem dJ6_bitCount_0f7a4_48 : decode cJ6_bitCount_0f7a4 48 = .ok (.iload_n 0, 1) := by decide +kernel
theorem dJ6_bitCount_0f7a4_49 : decode cJ6_bitCount_0f7a4 49 = .ok (.bipush 63, 2) := by decide +kernel
theorem dJ6_bitCount_0f7a4_51 : decode cJ6_bitCount_0f7a4 51 = .ok (.iand, 1) := by decide +kernel
theorem dJ6_bitCount_0f7a4_52 : decode cJ6_bitCount_0f7a4 52 = .ok (.ireturn, 1) := by decide +kernel
theorem dJ9_abs_0f7a4_0 : decode cJ9_abs_0f7a4 0 = .ok (.iload_n 0, 1) := by decide +kernel
theorem dJ9_abs_0f7a4_1 : decode cJ9_abs_0f7a4 1 = .ok (.ifCond .ge 8, 3) := by decide +kernel
theorem dJ9_abs_0f7a4_4 : decode cJ9_abs_0f7a4 4 = .ok (.iload_n 0, 1) := by decide +kernel
theorem dJ9_abs_0f7a4_5 : decode cJ9_abs_0f7a4 5 = .ok (.ineg, 1) := by decide +kernel
theorem dJ9_abs_0f7a4_6 : decode cJ9_abs_0f7a4 6 = .ok (.goto 4, 3) := by decide +kernel
theorem dJ9_abs_0f7a4_9 : decode cJ9_abs_0f7a4 9 = .ok (.iload_n 0, 1) := by decide +kernel
theorem dJ9_abs_0f7a4_10 : decode cJ9_abs_0f7a4 10 = .ok (.ireturn, 1) := by decide +kernel
theorem dJ9_max_7cf53_0 : decode cJ9_max_7cf53 0 = .ok (.iload_n 0, 1) := by decide +kernel
theorem dJ9_max_7cf53_1 : decode cJ9_max_7cf53 1 = .ok (.iload_n 1, 1) := by decide +kernel
theorem dJ9_max_7cf53_2 : decode cJ9_max_7cf53 2 = .ok (.if_icmp .lt 7, 3) := by decide +kernel
theorem dJ9_max_7cf53_5 : decode cJ9_max_7cf53 5 = .ok (.iload_n 0, 1) := by decide +kernel
theorem dJ9_max_7cf53_6 : decode cJ9_max_7cf53 6 = .ok (.goto 4, 3) := by decide +kernel
theorem dJ9_max_7cf53_9 : decode cJ9_max_7cf53 9 = .ok (.iload_n 1, 1) := by decide +kernel
theorem dJ9_max_7cf53_10 : decode cJ9_max_7cf53 10 = .ok (.ireturn, 1) := by decide +kernel
theorem dJ9_max_f86c9_0 : decode cJ9_max_f86c9 0 = .ok (.lload_n 0, 1) := by decide +kernel
theorem dJ9_max_f86c9_1 : decode cJ9_max_f86c9 1 = .ok (.lload_n 2, 1) := by decide +kernel
theorem dJ9_max_f86c9_2 : decode cJ9_max_f86c9 2 = .ok (.lcmp, 1) := by decide +kernel
theorem dJ9_max_f86c9_3 : decode cJ9_max_f86c9 3 = .ok (.ifCond .lt 7, 3) := by decide +kernel
theorem dJ9_max_f86c9_6 : decode cJ9_max_f86c9 6 = .ok (.lload_n 0, 1) := by decide +kernel
theorem dJ9_max_f86c9_7 : decode cJ9_max_f86c9 7 = .ok (.goto 4, 3) := by decide +kernel
theorem dJ9_max_f86c9_10 : decode cJ9_max_f86c9 10 = .ok (.lload_n 2, 1) := by decide +kernel
theorem dJ9_max_f86c9_11 : decode cJ9_max_f86c9 11 = .ok (.lreturn, 1) := by decide +kernel
theorem dJ9_min_7cf53_0 : decode cJ9_min_7cf53 0 = .ok (.iload_n 0, 1) := by decide +kernel
theorem dJ9_min_7cf53_1 : decode cJ9_min_7cf53 1 = .ok (.iload_n 1, 1) := by decide +kernel
theorem dJ9_min_7cf53_2 : decode cJ9_min_7cf53 2 = .ok (.if_icmp .gt 7, 3) := by decide +kernel
theorem dJ9_min_7cf53_5 : decode cJ9_min_7cf53 5 = .ok (.iload_n 0, 1) := by decide +kernel
theorem dJ9_min_7cf53_6 : decode cJ9_min_7cf53 6 = .ok (.goto 4, 3) := by decide +kernel
theorem dJ9_min_7cf53_9 : decode cJ9_min_7cf53 9 = .ok (.iload_n 1, 1) := by decide +kernel
theorem dJ9_min_7cf53_10 : decode cJ9_min_7cf53 10 = .ok (.ireturn, 1) := by decide +kernel
theorem dJ9_min_f86c9_0 : decode cJ9_min_f86c9 0 = .ok (.lload_n 0, 1) := by decide +kernel
theorem dJ9_min_f86c9_1 : decode cJ9_min_f86c9 1 = .ok (.lload_n 2, 1) := by decide +kernel
theorem dJ9_min_f86c9_2 : decode cJ9_min_f86c9 2 = .ok (.lcmp, 1) := by decide +kernel
theorem dJ9_min_f86c9_3 : decode cJ9_min_f86c9 3 = .ok (.ifCond .gt 7, 3) := by decide +kernel
theorem dJ9_min_f86c9_6 : decode cJ9_min_f86c9 6 = .ok (.lload_n 0, 1) := by decide +kernel
theorem dJ9_min_f86c9_7 : decode cJ9_min_f86c9 7 = .ok (.goto 4, 3) := by decide +kernel
theorem dJ9_min_f86c9_10 : decode cJ9_min_f86c9 10 = .ok (.lload_n 2, 1) := by decide +kernel
theorem dJ9_min_f86c9_11 : decode cJ9_min_f86c9 11 = .ok (.lreturn, 1) := by decide +kernel
theorem dJ0_length_8abf5_0 : decode cJ0_length_8abf5 0 = .ok (.aload_n 0, 1) := by decide +kernel
theorem dJ0_length_8abf5_1 : decode cJ0_length_8abf5 1 = .ok (.getfield 9, 3) := by decide +kernel
theorem dJ0_length_8abf5_4 : decode cJ0_length_8abf5 4 = .ok (.arraylength, 1) := by decide +kernel
theorem dJ0_length_8abf5_5 : decode cJ0_length_8abf5 5 = .ok (.aload_n 0, 1) := by decide +kernel
theorem dJ0_length_8abf5_6 : decode cJ0_length_8abf5 6 = .ok (.invokevirtual 335, 3) := by decide +kernel
theorem dJ0_length_8abf5_9 : decode cJ0_length_8abf5 9 = .ok (.ishr, 1) := by decide +kernel
theorem dJ0_length_8abf5_10 : decode cJ0_length_8abf5 10 = .ok (.ireturn, 1) := by decide +kernel
theorem dJ0_charAt_5068e_0 : decode cJ0_charAt_5068e 0 = .ok (.aload_n 0, 1) := by decide +kernel
theorem dJ0_charAt_5068e_1 : decode cJ0_charAt_5068e 1 = .ok (.invokevirtual 492, 3) := by decide +kernel
theorem dJ0_charAt_5068e_4 : decode cJ0_charAt_5068e 4 = .ok (.ifCond .eq 12, 3) := by decide +kernel
theorem dJ0_charAt_5068e_7 : decode cJ0_charAt_5068e 7 = .ok (.aload_n 0, 1) := by decide +kernel
theorem dJ0_charAt_5068e_8 : decode cJ0_charAt_5068e 8 = .ok (.getfield 9, 3) := by decide +kernel
theorem dJ0_charAt_5068e_11 : decode cJ0_charAt_5068e 11 = .ok (.iload_n 1, 1) := by decide +kernel
theorem dJ0_charAt_5068e_12 : decode cJ0_charAt_5068e 12 = .ok (.invokestatic 495, 3) := by decide +kernel
theorem dJ0_charAt_5068e_15 : decode cJ0_charAt_5068e 15 = .ok (.ireturn, 1) := by decide +kernel
theorem dJ0_charAt_5068e_16 : decode cJ0_charAt_5068e 16 = .ok (.aload_n 0, 1) := by decide +kernel
theorem dJ0_charAt_5068e_17 : decode cJ0_charAt_5068e 17 = .ok (.getfield 9, 3) := by decide +kernel
theorem dJ0_charAt_5068e_20 : decode cJ0_charAt_5068e 20 = .ok (.iload_n 1, 1) := by decide +kernel
theorem dJ0_charAt_5068e_21 : decode cJ0_charAt_5068e 21 = .ok (.invokestatic 498, 3) := by decide +kernel
theorem dJ0_charAt_5068e_24 : decode cJ0_charAt_5068e 24 = .ok (.ireturn, 1) := by decide +kernel
theorem dJ0_indexOf_0f7a4_0 : decode cJ0_indexOf_0f7a4 0 = .ok (.aload_n 0, 1) := by decide +kernel
theorem dJ0_indexOf_0f7a4_1 : decode cJ0_indexOf_0f7a4 1 = .ok (.iload_n 1, 1) := by decide +kernel
theorem dJ0_indexOf_0f7a4_2 : decode cJ0_indexOf_0f7a4 2 = .ok (.iconst 0, 1) := by decide +kernel
theorem dJ0_indexOf_0f7a4_3 : decode cJ0_indexOf_0f7a4 3 = .ok (.invokevirtual 633, 3) := by decide +kernel
theorem dJ0_indexOf_0f7a4_6 : decode cJ0_indexOf_0f7a4 6 = .ok (.ireturn, 1) := by decide +kernel
theorem dJ0_indexOf_7cf53_0 : decode cJ0_indexOf_7cf53 0 = .ok (.aload_n 0, 1) := by decide +kernel
theorem dJ0_indexOf_7cf53_1 : decode cJ0_indexOf_7cf53 1 = .ok (.invokevirtual 492, 3) := by decide +kernel
theorem dJ0_indexOf_7cf53_4 : decode cJ0_indexOf_7cf53 4 = .ok (.ifCond .eq 19, 3) := by decide +kernel
theorem dJ0_indexOf_7cf53_7 : decode cJ0_indexOf_7cf53 7 = .ok (.aload_n 0, 1) := by decide +kernel
theorem dJ0_indexOf_7cf53_8 : decode cJ0_indexOf_7cf53 8 = .ok (.getfield 9, 3) := by decide +kernel
theorem dJ0_indexOf_7cf53_11 : decode cJ0_indexOf_7cf53 11 = .ok (.iload_n 1, 1) := by decide +kernel
theorem dJ0_indexOf_7cf53_12 : decode cJ0_indexOf_7cf53 12 = .ok (.iload_n 2, 1) := by decide +kernel
theorem dJ0_indexOf_7cf53_13 : decode cJ0_indexOf_7cf53 13 = .ok (.aload_n 0, 1) := by decide +kernel
theorem dJ0_indexOf_7cf53_14 : decode cJ0_indexOf_7cf53 14 = .ok (.invokevirtual 505, 3) := by decide +kernel
theorem dJ0_indexOf_7cf53_17 : decode cJ0_indexOf_7cf53 17 = .ok (.invokestatic 637, 3) := by decide +kernel
theorem dJ0_indexOf_7cf53_20 : decode cJ0_indexOf_7cf53 20 = .ok (.goto 16, 3) := by decide +kernel
theorem dJ0_indexOf_7cf53_23 : decode cJ0_indexOf_7cf53 23 = .ok (.aload_n 0, 1) := by decide +kernel
theorem dJ0_indexOf_7cf53_24 : decode cJ0_indexOf_7cf53 24 = .ok (.getfield 9, 3) := by decide +kernel
theorem dJ0_indexOf_7cf53_27 : decode cJ0_indexOf_7cf53 27 = .ok (.iload_n 1, 1) := by decide +kernel
theorem dJ0_indexOf_7cf53_28 : decode cJ0_indexOf_7cf53 28 = .ok (.iload_n 2, 1) := by decide +kernel
theorem dJ0_indexOf_7cf53_29 : decode cJ0_indexOf_7cf53 29 = .ok (.aload_n 0, 1) := by decide +kernel
theorem dJ0_indexOf_7cf53_30 : decode cJ0_indexOf_7cf53 30 = .ok (.invokevirtual 505, 3) := by decide +kernel
theorem dJ0_indexOf_7cf53_33 : decode cJ0_indexOf_7cf53 33 = .ok (.invokestatic 640, 3) := by decide +kernel
theorem dJ0_indexOf_7cf53_36 : decode cJ0_indexOf_7cf53 36 = .ok (.ireturn, 1) := by decide +kernel
theorem dJ0_coder_7d493_0 : decode cJ0_coder_7d493 0 = .ok (.getstatic 38, 3) := by decide +kernel
theorem dJ0_coder_7d493_3 : decode cJ0_coder_7d493 3 = .ok (.ifCond .eq 10, 3) := by decide +kernel
theorem dJ0_coder_7d493_6 : decode cJ0_coder_7d493 6 = .ok (.aload_n 0, 1) := by decide +kernel
theorem dJ0_coder_7d493_7 : decode cJ0_coder_7d493 7 = .ok (.getfield 15, 3) := by decide +kernel
theorem dJ0_coder_7d493_10 : decode cJ0_coder_7d493 10 = .ok (.goto 4, 3) := by decide +kernel
theorem dJ0_coder_7d493_13 : decode cJ0_coder_7d493 13 = .ok (.iconst 1, 1) := by decide +kernel
theorem dJ0_coder_7d493_14 : decode cJ0_coder_7d493 14 = .ok (.ireturn, 1) := by decide +kernel
theorem dJ0_isLatin1_aae02_0 : decode cJ0_isLatin1_aae02 0 = .ok (.getstatic 38, 3) := by decide +kernel
theorem dJ0_isLatin1_aae02_3 : decode cJ0_isLatin1_aae02 3 = .ok (.ifCond .eq 14, 3) := by decide +kernel
theorem dJ0_isLatin1_aae02_6 : decode cJ0_isLatin1_aae02 6 = .ok (.aload_n 0, 1) := by decide +kernel
theorem dJ0_isLatin1_aae02_7 : decode cJ0_isLatin1_aae02 7 = .ok (.getfield 15, 3) := by decide +kernel
theorem dJ0_isLatin1_aae02_10 : decode cJ0_isLatin1_aae02 10 = .ok (.ifCond .ne 7, 3) := by decide +kernel
theorem dJ0_isLatin1_aae02_13 : decode cJ0_isLatin1_aae02 13 = .ok (.iconst 1, 1) := by decide +kernel
theorem dJ0_isLatin1_aae02_14 : decode cJ0_isLatin1_aae02 14 = .ok (.goto 4, 3) := by decide +kernel
theorem dJ0_isLatin1_aae02_17 : decode cJ0_isLatin1_aae02 17 = .ok (.iconst 0, 1) := by decide +kernel
theorem dJ0_isLatin1_aae02_18 : decode cJ0_isLatin1_aae02 18 = .ok (.ireturn, 1) := by decide +kernel
theorem dJ0_checkIndex_df160_0 : decode cJ0_checkIndex_df160 0 = .ok (.iload_n 0, 1) := by decide +kernel
theorem dJ0_checkIndex_df160_1 : decode cJ0_checkIndex_df160 1 = .ok (.iload_n 1, 1) := by decide +kernel
theorem dJ0_checkIndex_df160_2 : decode cJ0_checkIndex_df160 2 = .ok (.getstatic 1053, 3) := by decide +kernel
theorem dJ0_checkIndex_df160_5 : decode cJ0_checkIndex_df160 5 = .ok (.invokestatic 1059, 3) := by decide +kernel
theorem dJ0_checkIndex_df160_8 : decode cJ0_checkIndex_df160 8 = .ok (.pop, 1) := by decide +kernel
theorem dJ0_checkIndex_df160_9 : decode cJ0_checkIndex_df160 9 = .ok (.return_, 1) := by decide +kernel
theorem dJ0_checkBoundsBeginEnd_23922_0 : decode cJ0_checkBoundsBeginEnd_23922 0 = .ok (.iload_n 0, 1) := by decide +kernel
theorem dJ0_checkBoundsBeginEnd_23922_1 : decode cJ0_checkBoundsBeginEnd_23922 1 = .ok (.iload_n 1, 1) := by decide +kernel
theorem dJ0_checkBoundsBeginEnd_23922_2 : decode cJ0_checkBoundsBeginEnd_23922 2 = .ok (.iload_n 2, 1) := by decide +kernel
theorem dJ0_checkBoundsBeginEnd_23922_3 : decode cJ0_checkBoundsBeginEnd_23922 3 = .ok (.getstatic 1053, 3) := by decide +kernel
theorem dJ0_checkBoundsBeginEnd_23922_6 : decode cJ0_checkBoundsBeginEnd_23922 6 = .ok (.invokestatic 1062, 3) := by decide +kernel
theorem dJ0_checkBoundsBeginEnd_23922_9 : decode cJ0_checkBoundsBeginEnd_23922 9 = .ok (.pop, 1) := by decide +kernel
theorem dJ0_checkBoundsBeginEnd_23922_10 : decode cJ0_checkBoundsBeginEnd_23922 10 = .ok (.return_, 1) := by decide +kernel
theorem dJ1_charAt_3b067_0 : decode cJ1_charAt_3b067 0 = .ok (.iload_n 1, 1) := by decide +kernel
theorem dJ1_charAt_3b067_1 : decode cJ1_charAt_3b067 1 = .ok (.aload_n 0, 1) := by decide +kernel
theorem dJ1_charAt_3b067_2 : decode cJ1_charAt_3b067 2 = .ok (.arraylength, 1) := by decide +kernel
theorem dJ1_charAt_3b067_3 : decode cJ1_charAt_3b067 3 = .ok (.invokestatic 9, 3) := by decide +kernel
theorem dJ1_charAt_3b067_6 : decode cJ1_charAt_3b067 6 = .ok (.aload_n 0, 1) := by decide +kernel
theorem dJ1_charAt_3b067_7 : decode cJ1_charAt_3b067 7 = .ok (.iload_n 1, 1) := by decide +kernel
theorem dJ1_charAt_3b067_8 : decode cJ1_charAt_3b067 8 = .ok (.baload, 1) := by decide +kernel
theorem dJ1_charAt_3b067_9 : decode cJ1_charAt_3b067 9 = .ok (.sipush 255, 3) := by decide +kernel
theorem dJ1_charAt_3b067_12 : decode cJ1_charAt_3b067 12 = .ok (.iand, 1) := by decide +kernel
theorem dJ1_charAt_3b067_13 : decode cJ1_charAt_3b067 13 = .ok (.i2c, 1) := by decide +kernel
theorem dJ1_charAt_3b067_14 : decode cJ1_charAt_3b067 14 = .ok (.ireturn, 1) := by decide +kernel
theorem dJ1_canEncode_9a6ad_0 : decode cJ1_canEncode_9a6ad 0 = .ok (.iload_n 0, 1) := by decide +kernel
theorem dJ1_canEncode_9a6ad_1 : decode cJ1_canEncode_9a6ad 1 = .ok (.ifCond .lt 14, 3) := by decide +kernel
theorem dJ1_canEncode_9a6ad_4 : decode cJ1_canEncode_9a6ad 4 = .ok (.iload_n 0, 1) := by decide +kernel
theorem dJ1_canEncode_9a6ad_5 : decode cJ1_canEncode_9a6ad 5 = .ok (.sipush 255, 3) := by decide +kernel
theorem dJ1_canEncode_9a6ad_8 : decode cJ1_canEncode_9a6ad 8 = .ok (.if_icmp .gt 7, 3) := by decide +kernel
theorem dJ1_canEncode_9a6ad_11 : decode cJ1_canEncode_9a6ad 11 = .ok (.iconst 1, 1) := by decide +kernel
theorem dJ1_canEncode_9a6ad_12 : decode cJ1_canEncode_9a6ad 12 = .ok (.goto 4, 3) := by decide +kernel
theorem dJ1_canEncode_9a6ad_15 : decode cJ1_canEncode_9a6ad 15 = .ok (.iconst 0, 1) := by decide +kernel
theorem dJ1_canEncode_9a6ad_16 : decode cJ1_canEncode_9a6ad 16 = .ok (.ireturn, 1) := by decide +kernel
theorem dJ1_indexOf_4cfef_0 : decode cJ1_indexOf_4cfef 0 = .ok (.iload_n 1, 1) := by decide +kernel
theorem dJ1_indexOf_4cfef_1 : decode cJ1_indexOf_4cfef 1 = .ok (.invokestatic 88, 3) := by decide +kernel
theorem dJ1_indexOf_4cfef_4 : decode cJ1_indexOf_4cfef 4 = .ok (.ifCond .ne 5, 3) := by decide +kernel
theorem dJ1_indexOf_4cfef_7 : decode cJ1_indexOf_4cfef 7 = .ok (.iconst (-1), 1) := by decide +kernel
theorem dJ1_indexOf_4cfef_8 : decode cJ1_indexOf_4cfef 8 = .ok (.ireturn, 1) := by decide +kernel
theorem dJ1_indexOf_4cfef_9 : decode cJ1_indexOf_4cfef 9 = .ok (.iload_n 2, 1) := by decide +kernel
theorem dJ1_indexOf_4cfef_10 : decode cJ1_indexOf_4cfef 10 = .ok (.iconst 0, 1) := by decide +kernel
theorem dJ1_indexOf_4cfef_11 : decode cJ1_indexOf_4cfef 11 = .ok (.invokestatic 92, 3) := by decide +kernel
theorem dJ1_indexOf_4cfef_14 : decode cJ1_indexOf_4cfef 14 = .ok (.istore_n 2, 1) := by decide +kernel
theorem dJ1_indexOf_4cfef_15 : decode cJ1_indexOf_4cfef 15 = .ok (.iload_n 3, 1) := by decide +kernel
theorem dJ1_indexOf_4cfef_16 : decode cJ1_indexOf_4cfef 16 = .ok (.aload_n 0, 1) := by decide +kernel
theorem dJ1_indexOf_4cfef_17 : decode cJ1_indexOf_4cfef 17 = .ok (.arraylength, 1) := by decide +kernel
theorem dJ1_indexOf_4cfef_18 : decode cJ1_indexOf_4cfef 18 = .ok (.invokestatic 38, 3) := by decide +kernel
theorem dJ1_indexOf_4cfef_21 : decode cJ1_indexOf_4cfef 21 = .ok (.istore_n 3, 1) := by decide +kernel
theorem dJ1_indexOf_4cfef_22 : decode cJ1_indexOf_4cfef 22 = .ok (.iload_n 2, 1) := by decide +kernel
theorem dJ1_indexOf_4cfef_23 : decode cJ1_indexOf_4cfef 23 = .ok (.iload_n 3, 1) := by decide +kernel
theorem dJ1_indexOf_4cfef_24 : decode cJ1_indexOf_4cfef 24 = .ok (.if_icmp .lt 5, 3) := by decide +kernel
theorem dJ1_indexOf_4cfef_27 : decode cJ1_indexOf_4cfef 27 = .ok (.iconst (-1), 1) := by decide +kernel
theorem dJ1_indexOf_4cfef_28 : decode cJ1_indexOf_4cfef 28 = .ok (.ireturn, 1) := by decide +kernel
theorem dJ1_indexOf_4cfef_29 : decode cJ1_indexOf_4cfef 29 = .ok (.aload_n 0, 1) := by decide +kernel
theorem dJ1_indexOf_4cfef_30 : decode cJ1_indexOf_4cfef 30 = .ok (.iload_n 1, 1) := by decide +kernel
theorem dJ1_indexOf_4cfef_31 : decode cJ1_indexOf_4cfef 31 = .ok (.iload_n 2, 1) := by decide +kernel
theorem dJ1_indexOf_4cfef_32 : decode cJ1_indexOf_4cfef 32 = .ok (.iload_n 3, 1) := by decide +kernel
theorem dJ1_indexOf_4cfef_33 : decode cJ1_indexOf_4cfef 33 = .ok (.invokestatic 95, 3) := by decide +kernel
theorem dJ1_indexOf_4cfef_36 : decode cJ1_indexOf_4cfef 36 = .ok (.ireturn, 1) := by decide +kernel
theorem dJ1_indexOfChar_4cfef_0 : decode cJ1_indexOfChar_4cfef 0 = .ok (.iload_n 1, 1) := by decide +kernel
theorem dJ1_indexOfChar_4cfef_1 : decode cJ1_indexOfChar_4cfef 1 = .ok (.i2b, 1) := by decide +kernel
theorem dJ1_indexOfChar_4cfef_2 : decode cJ1_indexOfChar_4cfef 2 = .ok (.istore 4, 2) := by decide +kernel
theorem dJ1_indexOfChar_4cfef_4 : decode cJ1_indexOfChar_4cfef 4 = .ok (.iload_n 2, 1) := by decide +kernel
theorem dJ1_indexOfChar_4cfef_5 : decode cJ1_indexOfChar_4cfef 5 = .ok (.istore 5, 2) := by decide +kernel
theorem dJ1_indexOfChar_4cfef_7 : decode cJ1_indexOfChar_4cfef 7 = .ok (.iload 5, 2) := by decide +kernel
theorem dJ1_indexOfChar_4cfef_9 : decode cJ1_indexOfChar_4cfef 9 = .ok (.iload_n 3, 1) := by decide +kernel
theorem dJ1_indexOfChar_4cfef_10 : decode cJ1_indexOfChar_4cfef 10 = .ok (.if_icmp .ge 21, 3) := by decide +kernel
theorem dJ1_indexOfChar_4cfef_13 : decode cJ1_indexOfChar_4cfef 13 = .ok (.aload_n 0, 1) := by decide +kernel
theorem dJ1_indexOfChar_4cfef_14 : decode cJ1_indexOfChar_4cfef 14 = .ok (.iload 5, 2) := by decide +kernel
theorem dJ1_indexOfChar_4cfef_16 : decode cJ1_indexOfChar_4cfef 16 = .ok (.baload, 1) := by decide +kernel
theorem dJ1_indexOfChar_4cfef_17 : decode cJ1_indexOfChar_4cfef 17 = .ok (.iload 4, 2) := by decide +kernel
theorem dJ1_indexOfChar_4cfef_19 : decode cJ1_indexOfChar_4cfef 19 = .ok (.if_icmp .ne 6, 3) := by decide +kernel
theorem dJ1_indexOfChar_4cfef_22 : decode cJ1_indexOfChar_4cfef 22 = .ok (.iload 5, 2) := by decide +kernel
theorem dJ1_indexOfChar_4cfef_24 : decode cJ1_indexOfChar_4cfef 24 = .ok (.ireturn, 1) := by decide +kernel
theorem dJ1_indexOfChar_4cfef_25 : decode cJ1_indexOfChar_4cfef 25 = .ok (.iinc 5 1, 3) := by decide +kernel
theorem dJ1_indexOfChar_4cfef_28 : decode cJ1_indexOfChar_4cfef 28 = .ok (.goto (-21), 3) := by decide +kernel
theorem dJ1_indexOfChar_4cfef_31 : decode cJ1_indexOfChar_4cfef 31 = .ok (.iconst (-1), 1) := by decide +kernel
theorem dJ1_indexOfChar_4cfef_32 : decode cJ1_indexOfChar_4cfef 32 = .ok (.ireturn, 1) := by decide +kernel
theorem dJ2_getChar_3b067_0 : decode cJ2_getChar_3b067 0 = .ok (.getstatic 44, 3) := by decide +kernel
theorem dJ2_getChar_3b067_3 : decode cJ2_getChar_3b067 3 = .ok (.ifCond .ne 25, 3) := by decide +kernel
theorem dJ2_getChar_3b067_6 : decode cJ2_getChar_3b067 6 = .ok (.iload_n 1, 1) := by decide +kernel
theorem dJ2_getChar_3b067_7 : decode cJ2_getChar_3b067 7 = .ok (.ifCond .lt 11, 3) := by decide +kernel
theorem dJ2_getChar_3b067_10 : decode cJ2_getChar_3b067 10 = .ok (.iload_n 1, 1) := by decide +kernel
theorem dJ2_getChar_3b067_11 : decode cJ2_getChar_3b067 11 = .ok (.aload_n 0, 1) := by decide +kernel
theorem dJ2_getChar_3b067_12 : decode cJ2_getChar_3b067 12 = .ok (.invokestatic 48, 3) := by decide +kernel
theorem dJ2_getChar_3b067_15 : decode cJ2_getChar_3b067 15 = .ok (.if_icmp .lt 13, 3) := by decide +kernel
theorem dJ2_getChar_3b067_18 : decode cJ2_getChar_3b067 18 = .ok (.new 52, 3) := by decide +kernel
theorem dJ2_getChar_3b067_21 : decode cJ2_getChar_3b067 21 = .ok (.dup, 1) := by decide +kernel
theorem dJ2_getChar_3b067_22 : decode cJ2_getChar_3b067 22 = .ok (.ldc 54, 2) := by decide +kernel
theorem dJ2_getChar_3b067_24 : decode cJ2_getChar_3b067 24 = .ok (.invokespecial 56, 3) := by decide +kernel
theorem dJ2_getChar_3b067_27 : decode cJ2_getChar_3b067 27 = .ok (.athrow, 1) := by decide +kernel
theorem dJ2_getChar_3b067_28 : decode cJ2_getChar_3b067 28 = .ok (.iload_n 1, 1) := by decide +kernel
theorem dJ2_getChar_3b067_29 : decode cJ2_getChar_3b067 29 = .ok (.iconst 1, 1) := by decide +kernel
theorem dJ2_getChar_3b067_30 : decode cJ2_getChar_3b067 30 = .ok (.ishl, 1) := by decide +kernel
theorem dJ2_getChar_3b067_31 : decode cJ2_getChar_3b067 31 = .ok (.istore_n 1, 1) := by decide +kernel
theorem dJ2_getChar_3b067_32 : decode cJ2_getChar_3b067 32 = .ok (.aload_n 0, 1) := by decide +kernel
theorem dJ2_getChar_3b067_33 : decode cJ2_getChar_3b067 33 = .ok (.iload_n 1, 1) := by decide +kernel
theorem dJ2_getChar_3b067_34 : decode cJ2_getChar_3b067 34 = .ok (.iinc 1 1, 3) := by decide +kernel
theorem dJ2_getChar_3b067_37 : decode cJ2_getChar_3b067 37 = .ok (.baload, 1) := by decide +kernel
theorem dJ2_getChar_3b067_38 : decode cJ2_getChar_3b067 38 = .ok (.sipush 255, 3) := by decide +kernel
theorem dJ2_getChar_3b067_41 : decode cJ2_getChar_3b067 41 = .ok (.iand, 1) := by decide +kernel
theorem dJ2_getChar_3b067_42 : decode cJ2_getChar_3b067 42 = .ok (.getstatic 59, 3) := by decide +kernel
theorem dJ2_getChar_3b067_45 : decode cJ2_getChar_3b067 45 = .ok (.ishl, 1) := by decide +kernel
theorem dJ2_getChar_3b067_46 : decode cJ2_getChar_3b067 46 = .ok (.aload_n 0, 1) := by decide +kernel
theorem dJ2_getChar_3b067_47 : decode cJ2_getChar_3b067 47 = .ok (.iload_n 1, 1) := by decide +kernel
theorem dJ2_getChar_3b067_48 : decode cJ2_getChar_3b067 48 = .ok (.baload, 1) := by decide +kernel
theorem dJ2_getChar_3b067_49 : decode cJ2_getChar_3b067 49 = .ok (.sipush 255, 3) := by decide +kernel
theorem dJ2_getChar_3b067_52 : decode cJ2_getChar_3b067 52 = .ok (.iand, 1) := by decide +kernel
theorem dJ2_getChar_3b067_53 : decode cJ2_getChar_3b067 53 = .ok (.getstatic 63, 3) := by decide +kernel
theorem dJ2_getChar_3b067_56 : decode cJ2_getChar_3b067 56 = .ok (.ishl, 1) := by decide +kernel
theorem dJ2_getChar_3b067_57 : decode cJ2_getChar_3b067 57 = .ok (.ior, 1) := by decide +kernel
theorem dJ2_getChar_3b067_58 : decode cJ2_getChar_3b067 58 = .ok (.i2c, 1) := by decide +kernel
theorem dJ2_getChar_3b067_59 : decode cJ2_getChar_3b067 59 = .ok (.ireturn, 1) := by decide +kernel
theorem dJ2_length_9d52b_0 : decode cJ2_length_9d52b 0 = .ok (.aload_n 0, 1) := by decide +kernel
theorem dJ2_length_9d52b_1 : decode cJ2_length_9d52b 1 = .ok (.arraylength, 1) := by decide +kernel
theorem dJ2_length_9d52b_2 : decode cJ2_length_9d52b 2 = .ok (.iconst 1, 1) := by decide +kernel
theorem dJ2_length_9d52b_3 : decode cJ2_length_9d52b 3 = .ok (.ishr, 1) := by decide +kernel
theorem dJ2_length_9d52b_4 : decode cJ2_length_9d52b 4 = .ok (.ireturn, 1) := by decide +kernel
theorem dJ2_indexOf_4cfef_0 : decode cJ2_indexOf_4cfef 0 = .ok (.iload_n 2, 1) := by decide +kernel
theorem dJ2_indexOf_4cfef_1 : decode cJ2_indexOf_4cfef 1 = .ok (.iconst 0, 1) := by decide +kernel
theorem dJ2_indexOf_4cfef_2 : decode cJ2_indexOf_4cfef 2 = .ok (.invokestatic 224, 3) := by decide +kernel
theorem dJ2_indexOf_4cfef_5 : decode cJ2_indexOf_4cfef 5 = .ok (.istore_n 2, 1) := by decide +kernel
theorem dJ2_indexOf_4cfef_6 : decode cJ2_indexOf_4cfef 6 = .ok (.iload_n 3, 1) := by decide +kernel
theorem dJ2_indexOf_4cfef_7 : decode cJ2_indexOf_4cfef 7 = .ok (.aload_n 0, 1) := by decide +kernel
theorem dJ2_indexOf_4cfef_8 : decode cJ2_indexOf_4cfef 8 = .ok (.arraylength, 1) := by decide +kernel
theorem dJ2_indexOf_4cfef_9 : decode cJ2_indexOf_4cfef 9 = .ok (.iconst 1, 1) := by decide +kernel
theorem dJ2_indexOf_4cfef_10 : decode cJ2_indexOf_4cfef 10 = .ok (.ishr, 1) := by decide +kernel
theorem dJ2_indexOf_4cfef_11 : decode cJ2_indexOf_4cfef 11 = .ok (.invokestatic 183, 3) := by decide +kernel
theorem dJ2_indexOf_4cfef_14 : decode cJ2_indexOf_4cfef 14 = .ok (.istore_n 3, 1) := by decide +kernel
theorem dJ2_indexOf_4cfef_15 : decode cJ2_indexOf_4cfef 15 = .ok (.iload_n 2, 1) := by decide +kernel
theorem dJ2_indexOf_4cfef_16 : decode cJ2_indexOf_4cfef 16 = .ok (.iload_n 3, 1) := by decide +kernel
theorem dJ2_indexOf_4cfef_17 : decode cJ2_indexOf_4cfef 17 = .ok (.if_icmp .lt 5, 3) := by decide +kernel
theorem dJ2_indexOf_4cfef_20 : decode cJ2_indexOf_4cfef 20 = .ok (.iconst (-1), 1) := by decide +kernel
theorem dJ2_indexOf_4cfef_21 : decode cJ2_indexOf_4cfef 21 = .ok (.ireturn, 1) := by decide +kernel
theorem dJ2_indexOf_4cfef_22 : decode cJ2_indexOf_4cfef 22 = .ok (.iload_n 1, 1) := by decide +kernel
theorem dJ2_indexOf_4cfef_23 : decode cJ2_indexOf_4cfef 23 = .ok (.ldc 227, 2) := by decide +kernel
theorem dJ2_indexOf_4cfef_25 : decode cJ2_indexOf_4cfef 25 = .ok (.if_icmp .ge 11, 3) := by decide +kernel
theorem dJ2_indexOf_4cfef_28 : decode cJ2_indexOf_4cfef 28 = .ok (.aload_n 0, 1) := by decide +kernel
theorem dJ2_indexOf_4cfef_29 : decode cJ2_indexOf_4cfef 29 = .ok (.iload_n 1, 1) := by decide +kernel
theorem dJ2_indexOf_4cfef_30 : decode cJ2_indexOf_4cfef 30 = .ok (.iload_n 2, 1) := by decide +kernel
theorem dJ2_indexOf_4cfef_31 : decode cJ2_indexOf_4cfef 31 = .ok (.iload_n 3, 1) := by decide +kernel
theorem dJ2_indexOf_4cfef_32 : decode cJ2_indexOf_4cfef 32 = .ok (.invokestatic 228, 3) := by decide +kernel
theorem dJ2_indexOf_4cfef_35 : decode cJ2_indexOf_4cfef 35 = .ok (.ireturn, 1) := by decide +kernel
theorem dJ2_indexOf_4cfef_36 : decode cJ2_indexOf_4cfef 36 = .ok (.aload_n 0, 1) := by decide +kernel
theorem dJ2_indexOf_4cfef_37 : decode cJ2_indexOf_4cfef 37 = .ok (.iload_n 1, 1) := by decide +kernel
theorem dJ2_indexOf_4cfef_38 : decode cJ2_indexOf_4cfef 38 = .ok (.iload_n 2, 1) := by decide +kernel
theorem dJ2_indexOf_4cfef_39 : decode cJ2_indexOf_4cfef 39 = .ok (.iload_n 3, 1) := by decide +kernel
theorem dJ2_indexOf_4cfef_40 : decode cJ2_indexOf_4cfef 40 = .ok (.invokestatic 232, 3) := by decide +kernel
theorem dJ2_indexOf_4cfef_43 : decode cJ2_indexOf_4cfef 43 = .ok (.ireturn, 1) := by decide +kernel
theorem dJ2_indexOfChar_4cfef_0 : decode cJ2_indexOfChar_4cfef 0 = .ok (.iload_n 2, 1) := by decide +kernel
theorem dJ2_indexOfChar_4cfef_1 : decode cJ2_indexOfChar_4cfef 1 = .ok (.iload_n 3, 1) := by decide +kernel
theorem dJ2_indexOfChar_4cfef_2 : decode cJ2_indexOfChar_4cfef 2 = .ok (.aload_n 0, 1) := by decide +kernel
theorem dJ2_indexOfChar_4cfef_3 : decode cJ2_indexOfChar_4cfef 3 = .ok (.invokestatic 96, 3) := by decide +kernel
theorem dJ2_indexOfChar_4cfef_6 : decode cJ2_indexOfChar_4cfef 6 = .ok (.aload_n 0, 1) := by decide +kernel
theorem dJ2_indexOfChar_4cfef_7 : decode cJ2_indexOfChar_4cfef 7 = .ok (.iload_n 1, 1) := by decide +kernel
theorem dJ2_indexOfChar_4cfef_8 : decode cJ2_indexOfChar_4cfef 8 = .ok (.iload_n 2, 1) := by decide +kernel
theorem dJ2_indexOfChar_4cfef_9 : decode cJ2_indexOfChar_4cfef 9 = .ok (.iload_n 3, 1) := by decide +kernel
theorem dJ2_indexOfChar_4cfef_10 : decode cJ2_indexOfChar_4cfef 10 = .ok (.invokestatic 244, 3) := by decide +kernel
theorem dJ2_indexOfChar_4cfef_13 : decode cJ2_indexOfChar_4cfef 13 = .ok (.ireturn, 1) := by decide +kernel
theorem dJ2_indexOfCharUnsafe_4cfef_0 : decode cJ2_indexOfCharUnsafe_4cfef 0 = .ok (.iload_n 2, 1) := by decide +kernel
theorem dJ2_indexOfCharUnsafe_4cfef_1 : decode cJ2_indexOfCharUnsafe_4cfef 1 = .ok (.istore 4, 2) := by decide +kernel
theorem dJ2_indexOfCharUnsafe_4cfef_3 : decode cJ2_indexOfCharUnsafe_4cfef 3 = .ok (.iload 4, 2) := by decide +kernel
theorem dJ2_indexOfCharUnsafe_4cfef_5 : decode cJ2_indexOfCharUnsafe_4cfef 5 = .ok (.iload_n 3, 1) := by decide +kernel
theorem dJ2_indexOfCharUnsafe_4cfef_6 : decode cJ2_indexOfCharUnsafe_4cfef 6 = .ok (.if_icmp .ge 22, 3) := by decide +kernel
theorem dJ2_indexOfCharUnsafe_4cfef_9 : decode cJ2_indexOfCharUnsafe_4cfef 9 = .ok (.aload_n 0, 1) := by decide +kernel
theorem dJ2_indexOfCharUnsafe_4cfef_10 : decode cJ2_indexOfCharUnsafe_4cfef 10 = .ok (.iload 4, 2) := by decide +kernel
theorem dJ2_indexOfCharUnsafe_4cfef_12 : decode cJ2_indexOfCharUnsafe_4cfef 12 = .ok (.invokestatic 71, 3) := by decide +kernel
theorem dJ2_indexOfCharUnsafe_4cfef_15 : decode cJ2_indexOfCharUnsafe_4cfef 15 = .ok (.iload_n 1, 1) := by decide +kernel
theorem dJ2_indexOfCharUnsafe_4cfef_16 : decode cJ2_indexOfCharUnsafe_4cfef 16 = .ok (.if_icmp .ne 6, 3) := by decide +kernel
theorem dJ2_indexOfCharUnsafe_4cfef_19 : decode cJ2_indexOfCharUnsafe_4cfef 19 = .ok (.iload 4, 2) := by decide +kernel
theorem dJ2_indexOfCharUnsafe_4cfef_21 : decode cJ2_indexOfCharUnsafe_4cfef 21 = .ok (.ireturn, 1) := by decide +kernel
theorem dJ2_indexOfCharUnsafe_4cfef_22 : decode cJ2_indexOfCharUnsafe_4cfef 22 = .ok (.iinc 4 1, 3) := by decide +kernel
theorem dJ2_indexOfCharUnsafe_4cfef_25 : decode cJ2_indexOfCharUnsafe_4cfef 25 = .ok (.goto (-22), 3) := by decide +kernel
theorem dJ2_indexOfCharUnsafe_4cfef_28 : decode cJ2_indexOfCharUnsafe_4cfef 28 = .ok (.iconst (-1), 1) := by decide +kernel
theorem dJ2_indexOfCharUnsafe_4cfef_29 : decode cJ2_indexOfCharUnsafe_4cfef 29 = .ok (.ireturn, 1) := by decide +kernel
theorem dJ2_indexOfSupplementary_4cfef_0 : decode cJ2_indexOfSupplementary_4cfef 0 = .ok (.iload_n 1, 1) := by decide +kernel
theorem dJ2_indexOfSupplementary_4cfef_1 : decode cJ2_indexOfSupplementary_4cfef 1 = .ok (.invokestatic 164, 3) := by decide +kernel
theorem dJ2_indexOfSupplementary_4cfef_4 : decode cJ2_indexOfSupplementary_4cfef 4 = .ok (.ifCond .eq 65, 3) := by decide +kernel
theorem dJ2_indexOfSupplementary_4cfef_7 : decode cJ2_indexOfSupplementary_4cfef 7 = .ok (.iload_n 1, 1) := by decide +kernel
theorem dJ2_indexOfSupplementary_4cfef_8 : decode cJ2_indexOfSupplementary_4cfef 8 = .ok (.invokestatic 157, 3) := by decide +kernel
theorem dJ2_indexOfSupplementary_4cfef_11 : decode cJ2_indexOfSupplementary_4cfef 11 = .ok (.istore 4, 2) := by decide +kernel
theorem dJ2_indexOfSupplementary_4cfef_13 : decode cJ2_indexOfSupplementary_4cfef 13 = .ok (.iload_n 1, 1) := by decide +kernel
theorem dJ2_indexOfSupplementary_4cfef_14 : decode cJ2_indexOfSupplementary_4cfef 14 = .ok (.invokestatic 161, 3) := by decide +kernel
theorem dJ2_indexOfSupplementary_4cfef_17 : decode cJ2_indexOfSupplementary_4cfef 17 = .ok (.istore 5, 2) := by decide +kernel
theorem dJ2_indexOfSupplementary_4cfef_19 : decode cJ2_indexOfSupplementary_4cfef 19 = .ok (.iload_n 2, 1) := by decide +kernel
theorem dJ2_indexOfSupplementary_4cfef_20 : decode cJ2_indexOfSupplementary_4cfef 20 = .ok (.iload_n 3, 1) := by decide +kernel
theorem dJ2_indexOfSupplementary_4cfef_21 : decode cJ2_indexOfSupplementary_4cfef 21 = .ok (.aload_n 0, 1) := by decide +kernel
theorem dJ2_indexOfSupplementary_4cfef_22 : decode cJ2_indexOfSupplementary_4cfef 22 = .ok (.invokestatic 96, 3) := by decide +kernel
theorem dJ2_indexOfSupplementary_4cfef_25 : decode cJ2_indexOfSupplementary_4cfef 25 = .ok (.iload_n 2, 1) := by decide +kernel
theorem dJ2_indexOfSupplementary_4cfef_26 : decode cJ2_indexOfSupplementary_4cfef 26 = .ok (.istore 6, 2) := by decide +kernel
theorem dJ2_indexOfSupplementary_4cfef_28 : decode cJ2_indexOfSupplementary_4cfef 28 = .ok (.iload 6, 2) := by decide +kernel
theorem dJ2_indexOfSupplementary_4cfef_30 : decode cJ2_indexOfSupplementary_4cfef 30 = .ok (.iload_n 3, 1) := by decide +kernel
theorem dJ2_indexOfSupplementary_4cfef_31 : decode cJ2_indexOfSupplementary_4cfef 31 = .ok (.iconst 1, 1) := by decide +kernel
theorem dJ2_indexOfSupplementary_4cfef_32 : decode cJ2_indexOfSupplementary_4cfef 32 = .ok (.isub, 1) := by decide +kernel
theorem dJ2_indexOfSupplementary_4cfef_33 : decode cJ2_indexOfSupplementary_4cfef 33 = .ok (.if_icmp .ge 36, 3) := by decide +kernel
theorem dJ2_indexOfSupplementary_4cfef_36 : decode cJ2_indexOfSupplementary_4cfef 36 = .ok (.aload_n 0, 1) := by decide +kernel
theorem dJ2_indexOfSupplementary_4cfef_37 : decode cJ2_indexOfSupplementary_4cfef 37 = .ok (.iload 6, 2) := by decide +kernel
theorem dJ2_indexOfSupplementary_4cfef_39 : decode cJ2_indexOfSupplementary_4cfef 39 = .ok (.invokestatic 71, 3) := by decide +kernel
theorem dJ2_indexOfSupplementary_4cfef_42 : decode cJ2_indexOfSupplementary_4cfef 42 = .ok (.iload 4, 2) := by decide +kernel
theorem dJ2_indexOfSupplementary_4cfef_44 : decode cJ2_indexOfSupplementary_4cfef 44 = .ok (.if_icmp .ne 19, 3) := by decide +kernel
theorem dJ2_indexOfSupplementary_4cfef_47 : decode cJ2_indexOfSupplementary_4cfef 47 = .ok (.aload_n 0, 1) := by decide +kernel
theorem dJ2_indexOfSupplementary_4cfef_48 : decode cJ2_indexOfSupplementary_4cfef 48 = .ok (.iload 6, 2) := by decide +kernel
theorem dJ2_indexOfSupplementary_4cfef_50 : decode cJ2_indexOfSupplementary_4cfef 50 = .ok (.iconst 1, 1) := by decide +kernel
theorem dJ2_indexOfSupplementary_4cfef_51 : decode cJ2_indexOfSupplementary_4cfef 51 = .ok (.iadd, 1) := by decide +kernel
theorem dJ2_indexOfSupplementary_4cfef_52 : decode cJ2_indexOfSupplementary_4cfef 52 = .ok (.invokestatic 71, 3) := by decide +kernel
theorem dJ2_indexOfSupplementary_4cfef_55 : decode cJ2_indexOfSupplementary_4cfef 55 = .ok (.iload 5, 2) := by decide +kernel
theorem dJ2_indexOfSupplementary_4cfef_57 : decode cJ2_indexOfSupplementary_4cfef 57 = .ok (.if_icmp .ne 6, 3) := by decide +kernel
theorem dJ2_indexOfSupplementary_4cfef_60 : decode cJ2_indexOfSupplementary_4cfef 60 = .ok (.iload 6, 2) := by decide +kernel
theorem dJ2_indexOfSupplementary_4cfef_62 : decode cJ2_indexOfSupplementary_4cfef 62 = .ok (.ireturn, 1) := by decide +kernel
theorem dJ2_indexOfSupplementary_4cfef_63 : decode cJ2_indexOfSupplementary_4cfef 63 = .ok (.iinc 6 1, 3) := by decide +kernel
theorem dJ2_indexOfSupplementary_4cfef_66 : decode cJ2_indexOfSupplementary_4cfef 66 = .ok (.goto (-38), 3) := by decide +kernel
theorem dJ2_indexOfSupplementary_4cfef_69 : decode cJ2_indexOfSupplementary_4cfef 69 = .ok (.iconst (-1), 1) := by decide +kernel
theorem dJ2_indexOfSupplementary_4cfef_70 : decode cJ2_indexOfSupplementary_4cfef 70 = .ok (.ireturn, 1) := by decide +kernel
theorem dJ2_charAt_3b067_0 : decode cJ2_charAt_3b067 0 = .ok (.iload_n 1, 1) := by decide +kernel
theorem dJ2_charAt_3b067_1 : decode cJ2_charAt_3b067 1 = .ok (.aload_n 0, 1) := by decide +kernel
theorem dJ2_charAt_3b067_2 : decode cJ2_charAt_3b067 2 = .ok (.invokestatic 67, 3) := by decide +kernel
theorem dJ2_charAt_3b067_5 : decode cJ2_charAt_3b067 5 = .ok (.aload_n 0, 1) := by decide +kernel
theorem dJ2_charAt_3b067_6 : decode cJ2_charAt_3b067 6 = .ok (.iload_n 1, 1) := by decide +kernel
theorem dJ2_charAt_3b067_7 : decode cJ2_charAt_3b067 7 = .ok (.invokestatic 71, 3) := by decide +kernel
theorem dJ2_charAt_3b067_10 : decode cJ2_charAt_3b067 10 = .ok (.ireturn, 1) := by decide +kernel
theorem dJ2_checkIndex_2214a_0 : decode cJ2_checkIndex_2214a 0 = .ok (.iload_n 0, 1) := by decide +kernel
theorem dJ2_checkIndex_2214a_1 : decode cJ2_checkIndex_2214a 1 = .ok (.aload_n 1, 1) := by decide +kernel
theorem dJ2_checkIndex_2214a_2 : decode cJ2_checkIndex_2214a 2 = .ok (.invokestatic 48, 3) := by decide +kernel
theorem dJ2_checkIndex_2214a_5 : decode cJ2_checkIndex_2214a 5 = .ok (.invokestatic 414, 3) := by decide +kernel
theorem dJ2_checkIndex_2214a_8 : decode cJ2_checkIndex_2214a 8 = .ok (.return_, 1) := by decide +kernel
theorem dJ2_checkBoundsBeginEnd_d044e_0 : decode cJ2_checkBoundsBeginEnd_d044e 0 = .ok (.iload_n 0, 1) := by decide +kernel
theorem dJ2_checkBoundsBeginEnd_d044e_1 : decode cJ2_checkBoundsBeginEnd_d044e 1 = .ok (.iload_n 1, 1) := by decide +kernel
theorem dJ2_checkBoundsBeginEnd_d044e_2 : decode cJ2_checkBoundsBeginEnd_d044e 2 = .ok (.aload_n 2, 1) := by decide +kernel
theorem dJ2_checkBoundsBeginEnd_d044e_3 : decode cJ2_checkBoundsBeginEnd_d044e 3 = .ok (.invokestatic 48, 3) := by decide +kernel
theorem dJ2_checkBoundsBeginEnd_d044e_6 : decode cJ2_checkBoundsBeginEnd_d044e 6 = .ok (.invokestatic 241, 3) := by decide +kernel
theorem dJ2_checkBoundsBeginEnd_d044e_9 : decode cJ2_checkBoundsBeginEnd_d044e 9 = .ok (.return_, 1) := by decide +kernel
theorem dJ7_fill_d0a16_0 : decode cJ7_fill_d0a16 0 = .ok (.iconst 0, 1) := by decide +kernel
theorem dJ7_fill_d0a16_1 : decode cJ7_fill_d0a16 1 = .ok (.istore_n 3, 1) := by decide +kernel
theorem dJ7_fill_d0a16_2 : decode cJ7_fill_d0a16 2 = .ok (.aload_n 0, 1) := by decide +kernel
theorem dJ7_fill_d0a16_3 : decode cJ7_fill_d0a16 3 = .ok (.arraylength, 1) := by decide +kernel
theorem dJ7_fill_d0a16_4 : decode cJ7_fill_d0a16 4 = .ok (.istore 4, 2) := by decide +kernel
theorem dJ7_fill_d0a16_6 : decode cJ7_fill_d0a16 6 = .ok (.iload_n 3, 1) := by decide +kernel
theorem dJ7_fill_d0a16_7 : decode cJ7_fill_d0a16 7 = .ok (.iload 4, 2) := by decide +kernel
theorem dJ7_fill_d0a16_9 : decode cJ7_fill_d0a16 9 = .ok (.if_icmp .ge 13, 3) := by decide +kernel
theorem dJ7_fill_d0a16_12 : decode cJ7_fill_d0a16 12 = .ok (.aload_n 0, 1) := by decide +kernel
theorem dJ7_fill_d0a16_13 : decode cJ7_fill_d0a16 13 = .ok (.iload_n 3, 1) := by decide +kernel
theorem dJ7_fill_d0a16_14 : decode cJ7_fill_d0a16 14 = .ok (.lload_n 1, 1) := by decide +kernel
theorem dJ7_fill_d0a16_15 : decode cJ7_fill_d0a16 15 = .ok (.lastore, 1) := by decide +kernel
theorem dJ7_fill_d0a16_16 : decode cJ7_fill_d0a16 16 = .ok (.iinc 3 1, 3) := by decide +kernel
theorem dJ7_fill_d0a16_19 : decode cJ7_fill_d0a16 19 = .ok (.goto (-13), 3) := by decide +kernel
theorem dJ7_fill_d0a16_22 : decode cJ7_fill_d0a16 22 = .ok (.return_, 1) := by decide +kernel
theorem dJ7_fill_53178_0 : decode cJ7_fill_53178 0 = .ok (.iconst 0, 1) := by decide +kernel
theorem dJ7_fill_53178_1 : decode cJ7_fill_53178 1 = .ok (.istore_n 2, 1) := by decide +kernel
theorem dJ7_fill_53178_2 : decode cJ7_fill_53178 2 = .ok (.aload_n 0, 1) := by decide +kernel
theorem dJ7_fill_53178_3 : decode cJ7_fill_53178 3 = .ok (.arraylength, 1) := by decide +kernel
theorem dJ7_fill_53178_4 : decode cJ7_fill_53178 4 = .ok (.istore_n 3, 1) := by decide +kernel
theorem dJ7_fill_53178_5 : decode cJ7_fill_53178 5 = .ok (.iload_n 2, 1) := by decide +kernel
theorem dJ7_fill_53178_6 : decode cJ7_fill_53178 6 = .ok (.iload_n 3, 1) := by decide +kernel
theorem dJ7_fill_53178_7 : decode cJ7_fill_53178 7 = .ok (.if_icmp .ge 13, 3) := by decide +kernel
theorem dJ7_fill_53178_10 : decode cJ7_fill_53178 10 = .ok (.aload_n 0, 1) := by decide +kernel
theorem dJ7_fill_53178_11 : decode cJ7_fill_53178 11 = .ok (.iload_n 2, 1) := by decide +kernel
theorem dJ7_fill_53178_12 : decode cJ7_fill_53178 12 = .ok (.iload_n 1, 1) := by decide +kernel
theorem dJ7_fill_53178_13 : decode cJ7_fill_53178 13 = .ok (.iastore, 1) := by decide +kernel
theorem dJ7_fill_53178_14 : decode cJ7_fill_53178 14 = .ok (.iinc 2 1, 3) := by decide +kernel
theorem dJ7_fill_53178_17 : decode cJ7_fill_53178 17 = .ok (.goto (-12), 3) := by decide +kernel
theorem dJ7_fill_53178_20 : decode cJ7_fill_53178 20 = .ok (.return_, 1) := by decide +kernel
theorem dJ3_checkIndex_8e157_0 : decode cJ3_checkIndex_8e157 0 = .ok (.iload_n 0, 1) := by decide +kernel
theorem dJ3_checkIndex_8e157_1 : decode cJ3_checkIndex_8e157 1 = .ok (.ifCond .lt 8, 3) := by decide +kernel
theorem dJ3_checkIndex_8e157_4 : decode cJ3_checkIndex_8e157 4 = .ok (.iload_n 0, 1) := by decide +kernel
theorem dJ3_checkIndex_8e157_5 : decode cJ3_checkIndex_8e157 5 = .ok (.iload_n 1, 1) := by decide +kernel
theorem dJ3_checkIndex_8e157_6 : decode cJ3_checkIndex_8e157 6 = .ok (.if_icmp .lt 10, 3) := by decide +kernel
theorem dJ3_checkIndex_8e157_9 : decode cJ3_checkIndex_8e157 9 = .ok (.aload_n 2, 1) := by decide +kernel
theorem dJ3_checkIndex_8e157_10 : decode cJ3_checkIndex_8e157 10 = .ok (.iload_n 0, 1) := by decide +kernel
theorem dJ3_checkIndex_8e157_11 : decode cJ3_checkIndex_8e157 11 = .ok (.iload_n 1, 1) := by decide +kernel
theorem dJ3_checkIndex_8e157_12 : decode cJ3_checkIndex_8e157 12 = .ok (.invokestatic 95, 3) := by decide +kernel
theorem dJ3_checkIndex_8e157_15 : decode cJ3_checkIndex_8e157 15 = .ok (.athrow, 1) := by decide +kernel
theorem dJ3_checkIndex_8e157_16 : decode cJ3_checkIndex_8e157 16 = .ok (.iload_n 0, 1) := by decide +kernel
theorem dJ3_checkIndex_8e157_17 : decode cJ3_checkIndex_8e157 17 = .ok (.ireturn, 1) := by decide +kernel
theorem dJ3_checkFromToIndex_8c36e_0 : decode cJ3_checkFromToIndex_8c36e 0 = .ok (.iload_n 0, 1) := by decide +kernel
theorem dJ3_checkFromToIndex_8c36e_1 : decode cJ3_checkFromToIndex_8c36e 1 = .ok (.ifCond .lt 13, 3) := by decide +kernel
theorem dJ3_checkFromToIndex_8c36e_4 : decode cJ3_checkFromToIndex_8c36e 4 = .ok (.iload_n 0, 1) := by decide +kernel
theorem dJ3_checkFromToIndex_8c36e_5 : decode cJ3_checkFromToIndex_8c36e 5 = .ok (.iload_n 1, 1) := by decide +kernel
theorem dJ3_checkFromToIndex_8c36e_6 : decode cJ3_checkFromToIndex_8c36e 6 = .ok (.if_icmp .gt 8, 3) := by decide +kernel
theorem dJ3_checkFromToIndex_8c36e_9 : decode cJ3_checkFromToIndex_8c36e 9 = .ok (.iload_n 1, 1) := by decide +kernel
theorem dJ3_checkFromToIndex_8c36e_10 : decode cJ3_checkFromToIndex_8c36e 10 = .ok (.iload_n 2, 1) := by decide +kernel
theorem dJ3_checkFromToIndex_8c36e_11 : decode cJ3_checkFromToIndex_8c36e 11 = .ok (.if_icmp .le 11, 3) := by decide +kernel
theorem dJ3_checkFromToIndex_8c36e_14 : decode cJ3_checkFromToIndex_8c36e 14 = .ok (.aload_n 3, 1) := by decide +kernel
theorem dJ3_checkFromToIndex_8c36e_15 : decode cJ3_checkFromToIndex_8c36e 15 = .ok (.iload_n 0, 1) := by decide +kernel
theorem dJ3_checkFromToIndex_8c36e_16 : decode cJ3_checkFromToIndex_8c36e 16 = .ok (.iload_n 1, 1) := by decide +kernel
theorem dJ3_checkFromToIndex_8c36e_17 : decode cJ3_checkFromToIndex_8c36e 17 = .ok (.iload_n 2, 1) := by decide +kernel
theorem dJ3_checkFromToIndex_8c36e_18 : decode cJ3_checkFromToIndex_8c36e 18 = .ok (.invokestatic 99, 3) := by decide +kernel
theorem dJ3_checkFromToIndex_8c36e_21 : decode cJ3_checkFromToIndex_8c36e 21 = .ok (.athrow, 1) := by decide +kernel
theorem dJ3_checkFromToIndex_8c36e_22 : decode cJ3_checkFromToIndex_8c36e 22 = .ok (.iload_n 0, 1) := by decide +kernel
theorem dJ3_checkFromToIndex_8c36e_23 : decode cJ3_checkFromToIndex_8c36e 23 = .ok (.ireturn, 1) := by decide +kernel
