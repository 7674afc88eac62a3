theorem dX0_init_0 : decode cX0_init 0 = .ok (.aload_n 0, 1) := by decide +kernel
theorem dX0_init_1 : decode cX0_init 1 = .ok (.invokespecial 3, 3) := by decide +kernel
theorem dX0_init_4 : decode cX0_init 4 = .ok (.aload_n 0, 1) := by decide +kernel
theorem dX0_init_5 : decode cX0_init 5 = .ok (.bipush 65, 2) := by decide +kernel
theorem dX0_init_7 : decode cX0_init 7 = .ok (.newarray .int, 2) := by decide +kernel
theorem dX0_init_9 : decode cX0_init 9 = .ok (.putfield 11, 3) := by decide +kernel
theorem dX0_init_12 : decode cX0_init 12 = .ok (.aload_n 0, 1) := by decide +kernel
theorem dX0_init_13 : decode cX0_init 13 = .ok (.aload_n 1, 1) := by decide +kernel
theorem dX0_init_14 : decode cX0_init 14 = .ok (.putfield 17, 3) := by decide +kernel
theorem dX0_init_17 : decode cX0_init 17 = .ok (.aload_n 0, 1) := by decide +kernel
theorem dX0_init_18 : decode cX0_init 18 = .ok (.aload_n 2, 1) := by decide +kernel
theorem dX0_init_19 : decode cX0_init 19 = .ok (.putfield 21, 3) := by decide +kernel
theorem dX0_init_22 : decode cX0_init 22 = .ok (.aload_n 0, 1) := by decide +kernel
theorem dX0_init_23 : decode cX0_init 23 = .ok (.aload_n 3, 1) := by decide +kernel
theorem dX0_init_24 : decode cX0_init 24 = .ok (.putfield 25, 3) := by decide +kernel
theorem dX0_init_27 : decode cX0_init 27 = .ok (.aload_n 0, 1) := by decide +kernel
theorem dX0_init_28 : decode cX0_init 28 = .ok (.aload 4, 2) := by decide +kernel
theorem dX0_init_30 : decode cX0_init 30 = .ok (.putfield 29, 3) := by decide +kernel
theorem dX0_init_33 : decode cX0_init 33 = .ok (.return_, 1) := by decide +kernel
theorem dX0_tellRoad_0 : decode cX0_tellRoad 0 = .ok (.aload_n 0, 1) := by decide +kernel
theorem dX0_tellRoad_1 : decode cX0_tellRoad 1 = .ok (.getfield 17, 3) := by decide +kernel
theorem dX0_tellRoad_4 : decode cX0_tellRoad 4 = .ok (.getfield 33, 3) := by decide +kernel
theorem dX0_tellRoad_7 : decode cX0_tellRoad 7 = .ok (.istore 5, 2) := by decide +kernel
theorem dX0_tellRoad_9 : decode cX0_tellRoad 9 = .ok (.iload 5, 2) := by decide +kernel
theorem dX0_tellRoad_11 : decode cX0_tellRoad 11 = .ok (.bipush 16, 2) := by decide +kernel
theorem dX0_tellRoad_13 : decode cX0_tellRoad 13 = .ok (.if_icmp .ge 8, 3) := by decide +kernel
theorem dX0_tellRoad_16 : decode cX0_tellRoad 16 = .ok (.iload_n 1, 1) := by decide +kernel
theorem dX0_tellRoad_17 : decode cX0_tellRoad 17 = .ok (.iload_n 2, 1) := by decide +kernel
theorem dX0_tellRoad_18 : decode cX0_tellRoad 18 = .ok (.if_icmp .ne 5, 3) := by decide +kernel
theorem dX0_tellRoad_21 : decode cX0_tellRoad 21 = .ok (.iconst (-1), 1) := by decide +kernel
theorem dX0_tellRoad_22 : decode cX0_tellRoad 22 = .ok (.ireturn, 1) := by decide +kernel
theorem dX0_tellRoad_23 : decode cX0_tellRoad 23 = .ok (.aload_n 0, 1) := by decide +kernel
theorem dX0_tellRoad_24 : decode cX0_tellRoad 24 = .ok (.getfield 17, 3) := by decide +kernel
theorem dX0_tellRoad_27 : decode cX0_tellRoad 27 = .ok (.getfield 39, 3) := by decide +kernel
theorem dX0_tellRoad_30 : decode cX0_tellRoad 30 = .ok (.iload 5, 2) := by decide +kernel
theorem dX0_tellRoad_32 : decode cX0_tellRoad 32 = .ok (.iload_n 1, 1) := by decide +kernel
theorem dX0_tellRoad_33 : decode cX0_tellRoad 33 = .ok (.iastore, 1) := by decide +kernel
theorem dX0_tellRoad_34 : decode cX0_tellRoad 34 = .ok (.aload_n 0, 1) := by decide +kernel
theorem dX0_tellRoad_35 : decode cX0_tellRoad 35 = .ok (.getfield 17, 3) := by decide +kernel
theorem dX0_tellRoad_38 : decode cX0_tellRoad 38 = .ok (.getfield 42, 3) := by decide +kernel
theorem dX0_tellRoad_41 : decode cX0_tellRoad 41 = .ok (.iload 5, 2) := by decide +kernel
theorem dX0_tellRoad_43 : decode cX0_tellRoad 43 = .ok (.iload_n 2, 1) := by decide +kernel
theorem dX0_tellRoad_44 : decode cX0_tellRoad 44 = .ok (.iastore, 1) := by decide +kernel
theorem dX0_tellRoad_45 : decode cX0_tellRoad 45 = .ok (.aload_n 0, 1) := by decide +kernel
theorem dX0_tellRoad_46 : decode cX0_tellRoad 46 = .ok (.getfield 17, 3) := by decide +kernel
theorem dX0_tellRoad_49 : decode cX0_tellRoad 49 = .ok (.getfield 45, 3) := by decide +kernel
theorem dX0_tellRoad_52 : decode cX0_tellRoad 52 = .ok (.iload 5, 2) := by decide +kernel
theorem dX0_tellRoad_54 : decode cX0_tellRoad 54 = .ok (.iload_n 3, 1) := by decide +kernel
theorem dX0_tellRoad_55 : decode cX0_tellRoad 55 = .ok (.iastore, 1) := by decide +kernel
theorem dX0_tellRoad_56 : decode cX0_tellRoad 56 = .ok (.aload_n 0, 1) := by decide +kernel
theorem dX0_tellRoad_57 : decode cX0_tellRoad 57 = .ok (.getfield 17, 3) := by decide +kernel
theorem dX0_tellRoad_60 : decode cX0_tellRoad 60 = .ok (.getfield 48, 3) := by decide +kernel
theorem dX0_tellRoad_63 : decode cX0_tellRoad 63 = .ok (.iload 5, 2) := by decide +kernel
theorem dX0_tellRoad_65 : decode cX0_tellRoad 65 = .ok (.iload 4, 2) := by decide +kernel
theorem dX0_tellRoad_67 : decode cX0_tellRoad 67 = .ok (.iastore, 1) := by decide +kernel
theorem dX0_tellRoad_68 : decode cX0_tellRoad 68 = .ok (.aload_n 0, 1) := by decide +kernel
theorem dX0_tellRoad_69 : decode cX0_tellRoad 69 = .ok (.getfield 21, 3) := by decide +kernel
theorem dX0_tellRoad_72 : decode cX0_tellRoad 72 = .ok (.getfield 51, 3) := by decide +kernel
theorem dX0_tellRoad_75 : decode cX0_tellRoad 75 = .ok (.iload 5, 2) := by decide +kernel
theorem dX0_tellRoad_77 : decode cX0_tellRoad 77 = .ok (.iload 4, 2) := by decide +kernel
theorem dX0_tellRoad_79 : decode cX0_tellRoad 79 = .ok (.iastore, 1) := by decide +kernel
theorem dX0_tellRoad_80 : decode cX0_tellRoad 80 = .ok (.aload_n 0, 1) := by decide +kernel
theorem dX0_tellRoad_81 : decode cX0_tellRoad 81 = .ok (.getfield 17, 3) := by decide +kernel
theorem dX0_tellRoad_84 : decode cX0_tellRoad 84 = .ok (.dup, 1) := by decide +kernel
theorem dX0_tellRoad_85 : decode cX0_tellRoad 85 = .ok (.getfield 33, 3) := by decide +kernel
theorem dX0_tellRoad_88 : decode cX0_tellRoad 88 = .ok (.iconst 1, 1) := by decide +kernel
theorem dX0_tellRoad_89 : decode cX0_tellRoad 89 = .ok (.iadd, 1) := by decide +kernel
theorem dX0_tellRoad_90 : decode cX0_tellRoad 90 = .ok (.putfield 33, 3) := by decide +kernel
theorem dX0_tellRoad_93 : decode cX0_tellRoad 93 = .ok (.iload 5, 2) := by decide +kernel
theorem dX0_tellRoad_95 : decode cX0_tellRoad 95 = .ok (.ireturn, 1) := by decide +kernel
theorem dX0_tellGoer_0 : decode cX0_tellGoer 0 = .ok (.aload_n 0, 1) := by decide +kernel
theorem dX0_tellGoer_1 : decode cX0_tellGoer 1 = .ok (.getfield 17, 3) := by decide +kernel
theorem dX0_tellGoer_4 : decode cX0_tellGoer 4 = .ok (.getfield 54, 3) := by decide +kernel
theorem dX0_tellGoer_7 : decode cX0_tellGoer 7 = .ok (.istore_n 3, 1) := by decide +kernel
theorem dX0_tellGoer_8 : decode cX0_tellGoer 8 = .ok (.iload_n 3, 1) := by decide +kernel
theorem dX0_tellGoer_9 : decode cX0_tellGoer 9 = .ok (.bipush 6, 2) := by decide +kernel
theorem dX0_tellGoer_11 : decode cX0_tellGoer 11 = .ok (.if_icmp .lt 5, 3) := by decide +kernel
theorem dX0_tellGoer_14 : decode cX0_tellGoer 14 = .ok (.iconst (-1), 1) := by decide +kernel
theorem dX0_tellGoer_15 : decode cX0_tellGoer 15 = .ok (.ireturn, 1) := by decide +kernel
theorem dX0_tellGoer_16 : decode cX0_tellGoer 16 = .ok (.aload_n 0, 1) := by decide +kernel
theorem dX0_tellGoer_17 : decode cX0_tellGoer 17 = .ok (.getfield 17, 3) := by decide +kernel
theorem dX0_tellGoer_20 : decode cX0_tellGoer 20 = .ok (.getfield 57, 3) := by decide +kernel
theorem dX0_tellGoer_23 : decode cX0_tellGoer 23 = .ok (.iload_n 3, 1) := by decide +kernel
theorem dX0_tellGoer_24 : decode cX0_tellGoer 24 = .ok (.iload_n 2, 1) := by decide +kernel
theorem dX0_tellGoer_25 : decode cX0_tellGoer 25 = .ok (.iastore, 1) := by decide +kernel
theorem dX0_tellGoer_26 : decode cX0_tellGoer 26 = .ok (.aload_n 0, 1) := by decide +kernel
theorem dX0_tellGoer_27 : decode cX0_tellGoer 27 = .ok (.getfield 21, 3) := by decide +kernel
theorem dX0_tellGoer_30 : decode cX0_tellGoer 30 = .ok (.getfield 60, 3) := by decide +kernel
theorem dX0_tellGoer_33 : decode cX0_tellGoer 33 = .ok (.iload_n 3, 1) := by decide +kernel
theorem dX0_tellGoer_34 : decode cX0_tellGoer 34 = .ok (.iload_n 1, 1) := by decide +kernel
theorem dX0_tellGoer_35 : decode cX0_tellGoer 35 = .ok (.iastore, 1) := by decide +kernel
theorem dX0_tellGoer_36 : decode cX0_tellGoer 36 = .ok (.aload_n 0, 1) := by decide +kernel
theorem dX0_tellGoer_37 : decode cX0_tellGoer 37 = .ok (.getfield 21, 3) := by decide +kernel
theorem dX0_tellGoer_40 : decode cX0_tellGoer 40 = .ok (.getfield 63, 3) := by decide +kernel
theorem dX0_tellGoer_43 : decode cX0_tellGoer 43 = .ok (.iload_n 3, 1) := by decide +kernel
theorem dX0_tellGoer_44 : decode cX0_tellGoer 44 = .ok (.iconst 0, 1) := by decide +kernel
theorem dX0_tellGoer_45 : decode cX0_tellGoer 45 = .ok (.iastore, 1) := by decide +kernel
theorem dX0_tellGoer_46 : decode cX0_tellGoer 46 = .ok (.aload_n 0, 1) := by decide +kernel
theorem dX0_tellGoer_47 : decode cX0_tellGoer 47 = .ok (.getfield 17, 3) := by decide +kernel
theorem dX0_tellGoer_50 : decode cX0_tellGoer 50 = .ok (.dup, 1) := by decide +kernel
theorem dX0_tellGoer_51 : decode cX0_tellGoer 51 = .ok (.getfield 54, 3) := by decide +kernel
theorem dX0_tellGoer_54 : decode cX0_tellGoer 54 = .ok (.iconst 1, 1) := by decide +kernel
theorem dX0_tellGoer_55 : decode cX0_tellGoer 55 = .ok (.iadd, 1) := by decide +kernel
theorem dX0_tellGoer_56 : decode cX0_tellGoer 56 = .ok (.putfield 54, 3) := by decide +kernel
theorem dX0_tellGoer_59 : decode cX0_tellGoer 59 = .ok (.iload_n 3, 1) := by decide +kernel
theorem dX0_tellGoer_60 : decode cX0_tellGoer 60 = .ok (.ireturn, 1) := by decide +kernel
theorem dX0_openRoads_0 : decode cX0_openRoads 0 = .ok (.iconst 0, 1) := by decide +kernel
theorem dX0_openRoads_1 : decode cX0_openRoads 1 = .ok (.istore_n 2, 1) := by decide +kernel
theorem dX0_openRoads_2 : decode cX0_openRoads 2 = .ok (.iconst 0, 1) := by decide +kernel
theorem dX0_openRoads_3 : decode cX0_openRoads 3 = .ok (.istore_n 3, 1) := by decide +kernel
theorem dX0_openRoads_4 : decode cX0_openRoads 4 = .ok (.iload_n 3, 1) := by decide +kernel
theorem dX0_openRoads_5 : decode cX0_openRoads 5 = .ok (.aload_n 0, 1) := by decide +kernel
theorem dX0_openRoads_6 : decode cX0_openRoads 6 = .ok (.getfield 17, 3) := by decide +kernel
theorem dX0_openRoads_9 : decode cX0_openRoads 9 = .ok (.getfield 33, 3) := by decide +kernel
theorem dX0_openRoads_12 : decode cX0_openRoads 12 = .ok (.if_icmp .ge 63, 3) := by decide +kernel
theorem dX0_openRoads_15 : decode cX0_openRoads 15 = .ok (.aload_n 0, 1) := by decide +kernel
theorem dX0_openRoads_16 : decode cX0_openRoads 16 = .ok (.getfield 17, 3) := by decide +kernel
theorem dX0_openRoads_19 : decode cX0_openRoads 19 = .ok (.iload_n 3, 1) := by decide +kernel
theorem dX0_openRoads_20 : decode cX0_openRoads 20 = .ok (.aload_n 0, 1) := by decide +kernel
theorem dX0_openRoads_21 : decode cX0_openRoads 21 = .ok (.getfield 21, 3) := by decide +kernel
theorem dX0_openRoads_24 : decode cX0_openRoads 24 = .ok (.getfield 60, 3) := by decide +kernel
theorem dX0_openRoads_27 : decode cX0_openRoads 27 = .ok (.iload_n 1, 1) := by decide +kernel
theorem dX0_openRoads_28 : decode cX0_openRoads 28 = .ok (.iaload, 1) := by decide +kernel
theorem dX0_openRoads_29 : decode cX0_openRoads 29 = .ok (.invokevirtual 66, 3) := by decide +kernel
theorem dX0_openRoads_32 : decode cX0_openRoads 32 = .ok (.ifCond .eq 37, 3) := by decide +kernel
theorem dX0_openRoads_35 : decode cX0_openRoads 35 = .ok (.aload_n 0, 1) := by decide +kernel
theorem dX0_openRoads_36 : decode cX0_openRoads 36 = .ok (.getfield 29, 3) := by decide +kernel
theorem dX0_openRoads_39 : decode cX0_openRoads 39 = .ok (.aload_n 0, 1) := by decide +kernel
theorem dX0_openRoads_40 : decode cX0_openRoads 40 = .ok (.getfield 17, 3) := by decide +kernel
theorem dX0_openRoads_43 : decode cX0_openRoads 43 = .ok (.getfield 70, 3) := by decide +kernel
theorem dX0_openRoads_46 : decode cX0_openRoads 46 = .ok (.iload_n 1, 1) := by decide +kernel
theorem dX0_openRoads_47 : decode cX0_openRoads 47 = .ok (.iload_n 3, 1) := by decide +kernel
theorem dX0_openRoads_48 : decode cX0_openRoads 48 = .ok (.invokevirtual 73, 3) := by decide +kernel
theorem dX0_openRoads_51 : decode cX0_openRoads 51 = .ok (.aload_n 0, 1) := by decide +kernel
theorem dX0_openRoads_52 : decode cX0_openRoads 52 = .ok (.getfield 21, 3) := by decide +kernel
theorem dX0_openRoads_55 : decode cX0_openRoads 55 = .ok (.getfield 51, 3) := by decide +kernel
theorem dX0_openRoads_58 : decode cX0_openRoads 58 = .ok (.iload_n 3, 1) := by decide +kernel
theorem dX0_openRoads_59 : decode cX0_openRoads 59 = .ok (.iaload, 1) := by decide +kernel
theorem dX0_openRoads_60 : decode cX0_openRoads 60 = .ok (.if_icmp .gt 9, 3) := by decide +kernel
theorem dX0_openRoads_63 : decode cX0_openRoads 63 = .ok (.iload_n 2, 1) := by decide +kernel
theorem dX0_openRoads_64 : decode cX0_openRoads 64 = .ok (.iconst 1, 1) := by decide +kernel
theorem dX0_openRoads_65 : decode cX0_openRoads 65 = .ok (.iload_n 3, 1) := by decide +kernel
theorem dX0_openRoads_66 : decode cX0_openRoads 66 = .ok (.ishl, 1) := by decide +kernel
theorem dX0_openRoads_67 : decode cX0_openRoads 67 = .ok (.ior, 1) := by decide +kernel
theorem dX0_openRoads_68 : decode cX0_openRoads 68 = .ok (.istore_n 2, 1) := by decide +kernel
theorem dX0_openRoads_69 : decode cX0_openRoads 69 = .ok (.iinc 3 1, 3) := by decide +kernel
theorem dX0_openRoads_72 : decode cX0_openRoads 72 = .ok (.goto (-68), 3) := by decide +kernel
theorem dX0_openRoads_75 : decode cX0_openRoads 75 = .ok (.iload_n 2, 1) := by decide +kernel
theorem dX0_openRoads_76 : decode cX0_openRoads 76 = .ok (.ireturn, 1) := by decide +kernel
theorem dX0_toll_0 : decode cX0_toll 0 = .ok (.aload_n 0, 1) := by decide +kernel
theorem dX0_toll_1 : decode cX0_toll 1 = .ok (.getfield 17, 3) := by decide +kernel
theorem dX0_toll_4 : decode cX0_toll 4 = .ok (.iload_n 1, 1) := by decide +kernel
theorem dX0_toll_5 : decode cX0_toll 5 = .ok (.invokevirtual 79, 3) := by decide +kernel
theorem dX0_toll_8 : decode cX0_toll 8 = .ok (.ifCond .eq 34, 3) := by decide +kernel
theorem dX0_toll_11 : decode cX0_toll 11 = .ok (.aload_n 0, 1) := by decide +kernel
theorem dX0_toll_12 : decode cX0_toll 12 = .ok (.getfield 17, 3) := by decide +kernel
theorem dX0_toll_15 : decode cX0_toll 15 = .ok (.iload_n 2, 1) := by decide +kernel
theorem dX0_toll_16 : decode cX0_toll 16 = .ok (.invokevirtual 83, 3) := by decide +kernel
theorem dX0_toll_19 : decode cX0_toll 19 = .ok (.ifCond .eq 23, 3) := by decide +kernel
theorem dX0_toll_22 : decode cX0_toll 22 = .ok (.aload_n 0, 1) := by decide +kernel
theorem dX0_toll_23 : decode cX0_toll 23 = .ok (.getfield 17, 3) := by decide +kernel
theorem dX0_toll_26 : decode cX0_toll 26 = .ok (.iload_n 2, 1) := by decide +kernel
theorem dX0_toll_27 : decode cX0_toll 27 = .ok (.aload_n 0, 1) := by decide +kernel
theorem dX0_toll_28 : decode cX0_toll 28 = .ok (.getfield 21, 3) := by decide +kernel
theorem dX0_toll_31 : decode cX0_toll 31 = .ok (.getfield 60, 3) := by decide +kernel
theorem dX0_toll_34 : decode cX0_toll 34 = .ok (.iload_n 1, 1) := by decide +kernel
theorem dX0_toll_35 : decode cX0_toll 35 = .ok (.iaload, 1) := by decide +kernel
theorem dX0_toll_36 : decode cX0_toll 36 = .ok (.invokevirtual 66, 3) := by decide +kernel
theorem dX0_toll_39 : decode cX0_toll 39 = .ok (.ifCond .ne 5, 3) := by decide +kernel
theorem dX0_toll_42 : decode cX0_toll 42 = .ok (.iconst (-1), 1) := by decide +kernel
theorem dX0_toll_43 : decode cX0_toll 43 = .ok (.ireturn, 1) := by decide +kernel
theorem dX0_toll_44 : decode cX0_toll 44 = .ok (.aload_n 0, 1) := by decide +kernel
theorem dX0_toll_45 : decode cX0_toll 45 = .ok (.getfield 29, 3) := by decide +kernel
theorem dX0_toll_48 : decode cX0_toll 48 = .ok (.aload_n 0, 1) := by decide +kernel
theorem dX0_toll_49 : decode cX0_toll 49 = .ok (.getfield 17, 3) := by decide +kernel
theorem dX0_toll_52 : decode cX0_toll 52 = .ok (.getfield 70, 3) := by decide +kernel
theorem dX0_toll_55 : decode cX0_toll 55 = .ok (.iload_n 1, 1) := by decide +kernel
theorem dX0_toll_56 : decode cX0_toll 56 = .ok (.iload_n 2, 1) := by decide +kernel
theorem dX0_toll_57 : decode cX0_toll 57 = .ok (.invokevirtual 73, 3) := by decide +kernel
theorem dX0_toll_60 : decode cX0_toll 60 = .ok (.istore_n 3, 1) := by decide +kernel
theorem dX0_toll_61 : decode cX0_toll 61 = .ok (.iload_n 3, 1) := by decide +kernel
theorem dX0_toll_62 : decode cX0_toll 62 = .ok (.aload_n 0, 1) := by decide +kernel
theorem dX0_toll_63 : decode cX0_toll 63 = .ok (.getfield 21, 3) := by decide +kernel
theorem dX0_toll_66 : decode cX0_toll 66 = .ok (.getfield 51, 3) := by decide +kernel
theorem dX0_toll_69 : decode cX0_toll 69 = .ok (.iload_n 2, 1) := by decide +kernel
theorem dX0_toll_70 : decode cX0_toll 70 = .ok (.iaload, 1) := by decide +kernel
theorem dX0_toll_71 : decode cX0_toll 71 = .ok (.if_icmp .gt 7, 3) := by decide +kernel
theorem dX0_toll_74 : decode cX0_toll 74 = .ok (.iload_n 3, 1) := by decide +kernel
theorem dX0_toll_75 : decode cX0_toll 75 = .ok (.goto 4, 3) := by decide +kernel
theorem dX0_toll_78 : decode cX0_toll 78 = .ok (.iconst (-1), 1) := by decide +kernel
theorem dX0_toll_79 : decode cX0_toll 79 = .ok (.ireturn, 1) := by decide +kernel
theorem dX0_canLay_0 : decode cX0_canLay 0 = .ok (.aload_n 0, 1) := by decide +kernel
theorem dX0_canLay_1 : decode cX0_canLay 1 = .ok (.getfield 17, 3) := by decide +kernel
theorem dX0_canLay_4 : decode cX0_canLay 4 = .ok (.iload_n 1, 1) := by decide +kernel
theorem dX0_canLay_5 : decode cX0_canLay 5 = .ok (.invokevirtual 83, 3) := by decide +kernel
theorem dX0_canLay_8 : decode cX0_canLay 8 = .ok (.ifCond .eq 47, 3) := by decide +kernel
theorem dX0_canLay_11 : decode cX0_canLay 11 = .ok (.aload_n 0, 1) := by decide +kernel
theorem dX0_canLay_12 : decode cX0_canLay 12 = .ok (.getfield 21, 3) := by decide +kernel
theorem dX0_canLay_15 : decode cX0_canLay 15 = .ok (.getfield 51, 3) := by decide +kernel
theorem dX0_canLay_18 : decode cX0_canLay 18 = .ok (.iload_n 1, 1) := by decide +kernel
theorem dX0_canLay_19 : decode cX0_canLay 19 = .ok (.iaload, 1) := by decide +kernel
theorem dX0_canLay_20 : decode cX0_canLay 20 = .ok (.aload_n 0, 1) := by decide +kernel
theorem dX0_canLay_21 : decode cX0_canLay 21 = .ok (.getfield 17, 3) := by decide +kernel
theorem dX0_canLay_24 : decode cX0_canLay 24 = .ok (.getfield 48, 3) := by decide +kernel
theorem dX0_canLay_27 : decode cX0_canLay 27 = .ok (.iload_n 1, 1) := by decide +kernel
theorem dX0_canLay_28 : decode cX0_canLay 28 = .ok (.iaload, 1) := by decide +kernel
theorem dX0_canLay_29 : decode cX0_canLay 29 = .ok (.if_icmp .ge 26, 3) := by decide +kernel
theorem dX0_canLay_32 : decode cX0_canLay 32 = .ok (.aload_n 0, 1) := by decide +kernel
theorem dX0_canLay_33 : decode cX0_canLay 33 = .ok (.getfield 21, 3) := by decide +kernel
theorem dX0_canLay_36 : decode cX0_canLay 36 = .ok (.getfield 86, 3) := by decide +kernel
theorem dX0_canLay_39 : decode cX0_canLay 39 = .ok (.aload_n 0, 1) := by decide +kernel
theorem dX0_canLay_40 : decode cX0_canLay 40 = .ok (.getfield 17, 3) := by decide +kernel
theorem dX0_canLay_43 : decode cX0_canLay 43 = .ok (.getfield 45, 3) := by decide +kernel
theorem dX0_canLay_46 : decode cX0_canLay 46 = .ok (.iload_n 1, 1) := by decide +kernel
theorem dX0_canLay_47 : decode cX0_canLay 47 = .ok (.iaload, 1) := by decide +kernel
theorem dX0_canLay_48 : decode cX0_canLay 48 = .ok (.if_icmp .lt 7, 3) := by decide +kernel
theorem dX0_canLay_51 : decode cX0_canLay 51 = .ok (.iconst 1, 1) := by decide +kernel
theorem dX0_canLay_52 : decode cX0_canLay 52 = .ok (.goto 4, 3) := by decide +kernel
theorem dX0_canLay_55 : decode cX0_canLay 55 = .ok (.iconst 0, 1) := by decide +kernel
theorem dX0_canLay_56 : decode cX0_canLay 56 = .ok (.ireturn, 1) := by decide +kernel
theorem dX0_lay_0 : decode cX0_lay 0 = .ok (.aload_n 0, 1) := by decide +kernel
theorem dX0_lay_1 : decode cX0_lay 1 = .ok (.getfield 21, 3) := by decide +kernel
theorem dX0_lay_4 : decode cX0_lay 4 = .ok (.getfield 51, 3) := by decide +kernel
theorem dX0_lay_7 : decode cX0_lay 7 = .ok (.iload_n 1, 1) := by decide +kernel
theorem dX0_lay_8 : decode cX0_lay 8 = .ok (.aload_n 0, 1) := by decide +kernel
theorem dX0_lay_9 : decode cX0_lay 9 = .ok (.getfield 17, 3) := by decide +kernel
theorem dX0_lay_12 : decode cX0_lay 12 = .ok (.getfield 48, 3) := by decide +kernel
theorem dX0_lay_15 : decode cX0_lay 15 = .ok (.iload_n 1, 1) := by decide +kernel
theorem dX0_lay_16 : decode cX0_lay 16 = .ok (.iaload, 1) := by decide +kernel
theorem dX0_lay_17 : decode cX0_lay 17 = .ok (.iastore, 1) := by decide +kernel
theorem dX0_lay_18 : decode cX0_lay 18 = .ok (.aload_n 0, 1) := by decide +kernel
theorem dX0_lay_19 : decode cX0_lay 19 = .ok (.getfield 21, 3) := by decide +kernel
theorem dX0_lay_22 : decode cX0_lay 22 = .ok (.dup, 1) := by decide +kernel
theorem dX0_lay_23 : decode cX0_lay 23 = .ok (.getfield 86, 3) := by decide +kernel
theorem dX0_lay_26 : decode cX0_lay 26 = .ok (.aload_n 0, 1) := by decide +kernel
theorem dX0_lay_27 : decode cX0_lay 27 = .ok (.getfield 17, 3) := by decide +kernel
theorem dX0_lay_30 : decode cX0_lay 30 = .ok (.getfield 45, 3) := by decide +kernel
theorem dX0_lay_33 : decode cX0_lay 33 = .ok (.iload_n 1, 1) := by decide +kernel
theorem dX0_lay_34 : decode cX0_lay 34 = .ok (.iaload, 1) := by decide +kernel
theorem dX0_lay_35 : decode cX0_lay 35 = .ok (.isub, 1) := by decide +kernel
theorem dX0_lay_36 : decode cX0_lay 36 = .ok (.putfield 86, 3) := by decide +kernel
theorem dX0_lay_39 : decode cX0_lay 39 = .ok (.return_, 1) := by decide +kernel
theorem dX0_stepGo_0 : decode cX0_stepGo 0 = .ok (.aload_n 0, 1) := by decide +kernel
theorem dX0_stepGo_1 : decode cX0_stepGo 1 = .ok (.iload_n 1, 1) := by decide +kernel
theorem dX0_stepGo_2 : decode cX0_stepGo 2 = .ok (.iload_n 2, 1) := by decide +kernel
theorem dX0_stepGo_3 : decode cX0_stepGo 3 = .ok (.invokevirtual 89, 3) := by decide +kernel
theorem dX0_stepGo_6 : decode cX0_stepGo 6 = .ok (.istore_n 3, 1) := by decide +kernel
theorem dX0_stepGo_7 : decode cX0_stepGo 7 = .ok (.iload_n 3, 1) := by decide +kernel
theorem dX0_stepGo_8 : decode cX0_stepGo 8 = .ok (.iconst (-1), 1) := by decide +kernel
theorem dX0_stepGo_9 : decode cX0_stepGo 9 = .ok (.if_icmp .ne 5, 3) := by decide +kernel
theorem dX0_stepGo_12 : decode cX0_stepGo 12 = .ok (.iconst 0, 1) := by decide +kernel
theorem dX0_stepGo_13 : decode cX0_stepGo 13 = .ok (.ireturn, 1) := by decide +kernel
theorem dX0_stepGo_14 : decode cX0_stepGo 14 = .ok (.aload_n 0, 1) := by decide +kernel
theorem dX0_stepGo_15 : decode cX0_stepGo 15 = .ok (.getfield 25, 3) := by decide +kernel
theorem dX0_stepGo_18 : decode cX0_stepGo 18 = .ok (.aload_n 0, 1) := by decide +kernel
theorem dX0_stepGo_19 : decode cX0_stepGo 19 = .ok (.getfield 21, 3) := by decide +kernel
theorem dX0_stepGo_22 : decode cX0_stepGo 22 = .ok (.aload_n 0, 1) := by decide +kernel
theorem dX0_stepGo_23 : decode cX0_stepGo 23 = .ok (.getfield 17, 3) := by decide +kernel
theorem dX0_stepGo_26 : decode cX0_stepGo 26 = .ok (.invokevirtual 93, 3) := by decide +kernel
theorem dX0_stepGo_29 : decode cX0_stepGo 29 = .ok (.aload_n 0, 1) := by decide +kernel
theorem dX0_stepGo_30 : decode cX0_stepGo 30 = .ok (.getfield 21, 3) := by decide +kernel
theorem dX0_stepGo_33 : decode cX0_stepGo 33 = .ok (.iload_n 1, 1) := by decide +kernel
theorem dX0_stepGo_34 : decode cX0_stepGo 34 = .ok (.iload_n 2, 1) := by decide +kernel
theorem dX0_stepGo_35 : decode cX0_stepGo 35 = .ok (.aload_n 0, 1) := by decide +kernel
theorem dX0_stepGo_36 : decode cX0_stepGo 36 = .ok (.getfield 17, 3) := by decide +kernel
theorem dX0_stepGo_39 : decode cX0_stepGo 39 = .ok (.iload_n 2, 1) := by decide +kernel
theorem dX0_stepGo_40 : decode cX0_stepGo 40 = .ok (.aload_n 0, 1) := by decide +kernel
theorem dX0_stepGo_41 : decode cX0_stepGo 41 = .ok (.getfield 21, 3) := by decide +kernel
theorem dX0_stepGo_44 : decode cX0_stepGo 44 = .ok (.getfield 60, 3) := by decide +kernel
theorem dX0_stepGo_47 : decode cX0_stepGo 47 = .ok (.iload_n 1, 1) := by decide +kernel
theorem dX0_stepGo_48 : decode cX0_stepGo 48 = .ok (.iaload, 1) := by decide +kernel
theorem dX0_stepGo_49 : decode cX0_stepGo 49 = .ok (.invokevirtual 99, 3) := by decide +kernel
theorem dX0_stepGo_52 : decode cX0_stepGo 52 = .ok (.iload_n 3, 1) := by decide +kernel
theorem dX0_stepGo_53 : decode cX0_stepGo 53 = .ok (.invokevirtual 102, 3) := by decide +kernel
theorem dX0_stepGo_56 : decode cX0_stepGo 56 = .ok (.iconst 1, 1) := by decide +kernel
theorem dX0_stepGo_57 : decode cX0_stepGo 57 = .ok (.ireturn, 1) := by decide +kernel
theorem dX0_stepLay_0 : decode cX0_stepLay 0 = .ok (.aload_n 0, 1) := by decide +kernel
theorem dX0_stepLay_1 : decode cX0_stepLay 1 = .ok (.iload_n 1, 1) := by decide +kernel
theorem dX0_stepLay_2 : decode cX0_stepLay 2 = .ok (.invokevirtual 106, 3) := by decide +kernel
theorem dX0_stepLay_5 : decode cX0_stepLay 5 = .ok (.ifCond .ne 5, 3) := by decide +kernel
theorem dX0_stepLay_8 : decode cX0_stepLay 8 = .ok (.iconst 0, 1) := by decide +kernel
theorem dX0_stepLay_9 : decode cX0_stepLay 9 = .ok (.ireturn, 1) := by decide +kernel
theorem dX0_stepLay_10 : decode cX0_stepLay 10 = .ok (.aload_n 0, 1) := by decide +kernel
theorem dX0_stepLay_11 : decode cX0_stepLay 11 = .ok (.getfield 25, 3) := by decide +kernel
theorem dX0_stepLay_14 : decode cX0_stepLay 14 = .ok (.aload_n 0, 1) := by decide +kernel
theorem dX0_stepLay_15 : decode cX0_stepLay 15 = .ok (.getfield 21, 3) := by decide +kernel
theorem dX0_stepLay_18 : decode cX0_stepLay 18 = .ok (.aload_n 0, 1) := by decide +kernel
theorem dX0_stepLay_19 : decode cX0_stepLay 19 = .ok (.getfield 17, 3) := by decide +kernel
theorem dX0_stepLay_22 : decode cX0_stepLay 22 = .ok (.invokevirtual 93, 3) := by decide +kernel
theorem dX0_stepLay_25 : decode cX0_stepLay 25 = .ok (.aload_n 0, 1) := by decide +kernel
theorem dX0_stepLay_26 : decode cX0_stepLay 26 = .ok (.iload_n 1, 1) := by decide +kernel
theorem dX0_stepLay_27 : decode cX0_stepLay 27 = .ok (.invokevirtual 109, 3) := by decide +kernel
theorem dX0_stepLay_30 : decode cX0_stepLay 30 = .ok (.iconst 1, 1) := by decide +kernel
theorem dX0_stepLay_31 : decode cX0_stepLay 31 = .ok (.ireturn, 1) := by decide +kernel
theorem dX0_stepCoil_0 : decode cX0_stepCoil 0 = .ok (.aload_n 0, 1) := by decide +kernel
theorem dX0_stepCoil_1 : decode cX0_stepCoil 1 = .ok (.getfield 21, 3) := by decide +kernel
theorem dX0_stepCoil_4 : decode cX0_stepCoil 4 = .ok (.getfield 86, 3) := by decide +kernel
theorem dX0_stepCoil_7 : decode cX0_stepCoil 7 = .ok (.iload_n 1, 1) := by decide +kernel
theorem dX0_stepCoil_8 : decode cX0_stepCoil 8 = .ok (.iadd, 1) := by decide +kernel
theorem dX0_stepCoil_9 : decode cX0_stepCoil 9 = .ok (.sipush 999, 3) := by decide +kernel
theorem dX0_stepCoil_12 : decode cX0_stepCoil 12 = .ok (.if_icmp .le 5, 3) := by decide +kernel
theorem dX0_stepCoil_15 : decode cX0_stepCoil 15 = .ok (.iconst 0, 1) := by decide +kernel
theorem dX0_stepCoil_16 : decode cX0_stepCoil 16 = .ok (.ireturn, 1) := by decide +kernel
theorem dX0_stepCoil_17 : decode cX0_stepCoil 17 = .ok (.aload_n 0, 1) := by decide +kernel
theorem dX0_stepCoil_18 : decode cX0_stepCoil 18 = .ok (.getfield 25, 3) := by decide +kernel
theorem dX0_stepCoil_21 : decode cX0_stepCoil 21 = .ok (.aload_n 0, 1) := by decide +kernel
theorem dX0_stepCoil_22 : decode cX0_stepCoil 22 = .ok (.getfield 21, 3) := by decide +kernel
theorem dX0_stepCoil_25 : decode cX0_stepCoil 25 = .ok (.aload_n 0, 1) := by decide +kernel
theorem dX0_stepCoil_26 : decode cX0_stepCoil 26 = .ok (.getfield 17, 3) := by decide +kernel
theorem dX0_stepCoil_29 : decode cX0_stepCoil 29 = .ok (.invokevirtual 93, 3) := by decide +kernel
theorem dX0_stepCoil_32 : decode cX0_stepCoil 32 = .ok (.aload_n 0, 1) := by decide +kernel
theorem dX0_stepCoil_33 : decode cX0_stepCoil 33 = .ok (.getfield 21, 3) := by decide +kernel
theorem dX0_stepCoil_36 : decode cX0_stepCoil 36 = .ok (.dup, 1) := by decide +kernel
theorem dX0_stepCoil_37 : decode cX0_stepCoil 37 = .ok (.getfield 86, 3) := by decide +kernel
theorem dX0_stepCoil_40 : decode cX0_stepCoil 40 = .ok (.iload_n 1, 1) := by decide +kernel
theorem dX0_stepCoil_41 : decode cX0_stepCoil 41 = .ok (.iadd, 1) := by decide +kernel
theorem dX0_stepCoil_42 : decode cX0_stepCoil 42 = .ok (.putfield 86, 3) := by decide +kernel
theorem dX0_stepCoil_45 : decode cX0_stepCoil 45 = .ok (.iconst 1, 1) := by decide +kernel
theorem dX0_stepCoil_46 : decode cX0_stepCoil 46 = .ok (.ireturn, 1) := by decide +kernel
theorem dX0_passDay_0 : decode cX0_passDay 0 = .ok (.aload_n 0, 1) := by decide +kernel
theorem dX0_passDay_1 : decode cX0_passDay 1 = .ok (.getfield 21, 3) := by decide +kernel
theorem dX0_passDay_4 : decode cX0_passDay 4 = .ok (.aload_n 0, 1) := by decide +kernel
theorem dX0_passDay_5 : decode cX0_passDay 5 = .ok (.getfield 21, 3) := by decide +kernel
theorem dX0_passDay_8 : decode cX0_passDay 8 = .ok (.bipush 10, 2) := by decide +kernel
theorem dX0_passDay_10 : decode cX0_passDay 10 = .ok (.invokevirtual 113, 3) := by decide +kernel
theorem dX0_passDay_13 : decode cX0_passDay 13 = .ok (.iconst 3, 1) := by decide +kernel
theorem dX0_passDay_14 : decode cX0_passDay 14 = .ok (.if_icmp .ge 7, 3) := by decide +kernel
theorem dX0_passDay_17 : decode cX0_passDay 17 = .ok (.iconst 1, 1) := by decide +kernel
theorem dX0_passDay_18 : decode cX0_passDay 18 = .ok (.goto 4, 3) := by decide +kernel
theorem dX0_passDay_21 : decode cX0_passDay 21 = .ok (.iconst 0, 1) := by decide +kernel
theorem dX0_passDay_22 : decode cX0_passDay 22 = .ok (.putfield 117, 3) := by decide +kernel
theorem dX0_passDay_25 : decode cX0_passDay 25 = .ok (.iconst 0, 1) := by decide +kernel
theorem dX0_passDay_26 : decode cX0_passDay 26 = .ok (.istore_n 1, 1) := by decide +kernel
theorem dX0_passDay_27 : decode cX0_passDay 27 = .ok (.iconst 0, 1) := by decide +kernel
theorem dX0_passDay_28 : decode cX0_passDay 28 = .ok (.istore_n 2, 1) := by decide +kernel
theorem dX0_passDay_29 : decode cX0_passDay 29 = .ok (.iload_n 2, 1) := by decide +kernel
theorem dX0_passDay_30 : decode cX0_passDay 30 = .ok (.aload_n 0, 1) := by decide +kernel
theorem dX0_passDay_31 : decode cX0_passDay 31 = .ok (.getfield 17, 3) := by decide +kernel
theorem dX0_passDay_34 : decode cX0_passDay 34 = .ok (.getfield 54, 3) := by decide +kernel
theorem dX0_passDay_37 : decode cX0_passDay 37 = .ok (.if_icmp .ge 88, 3) := by decide +kernel
theorem dX0_passDay_40 : decode cX0_passDay 40 = .ok (.aload_n 0, 1) := by decide +kernel
theorem dX0_passDay_41 : decode cX0_passDay 41 = .ok (.iload_n 2, 1) := by decide +kernel
theorem dX0_passDay_42 : decode cX0_passDay 42 = .ok (.invokevirtual 120, 3) := by decide +kernel
theorem dX0_passDay_45 : decode cX0_passDay 45 = .ok (.istore_n 3, 1) := by decide +kernel
theorem dX0_passDay_46 : decode cX0_passDay 46 = .ok (.iload_n 3, 1) := by decide +kernel
theorem dX0_passDay_47 : decode cX0_passDay 47 = .ok (.ifCond .eq 72, 3) := by decide +kernel
theorem dX0_passDay_50 : decode cX0_passDay 50 = .ok (.iload_n 3, 1) := by decide +kernel
theorem dX0_passDay_51 : decode cX0_passDay 51 = .ok (.aload_n 0, 1) := by decide +kernel
theorem dX0_passDay_52 : decode cX0_passDay 52 = .ok (.getfield 21, 3) := by decide +kernel
theorem dX0_passDay_55 : decode cX0_passDay 55 = .ok (.iload_n 3, 1) := by decide +kernel
theorem dX0_passDay_56 : decode cX0_passDay 56 = .ok (.invokestatic 123, 3) := by decide +kernel
theorem dX0_passDay_59 : decode cX0_passDay 59 = .ok (.invokevirtual 113, 3) := by decide +kernel
theorem dX0_passDay_62 : decode cX0_passDay 62 = .ok (.invokestatic 128, 3) := by decide +kernel
theorem dX0_passDay_65 : decode cX0_passDay 65 = .ok (.istore 4, 2) := by decide +kernel
theorem dX0_passDay_67 : decode cX0_passDay 67 = .ok (.aload_n 0, 1) := by decide +kernel
theorem dX0_passDay_68 : decode cX0_passDay 68 = .ok (.getfield 29, 3) := by decide +kernel
theorem dX0_passDay_71 : decode cX0_passDay 71 = .ok (.aload_n 0, 1) := by decide +kernel
theorem dX0_passDay_72 : decode cX0_passDay 72 = .ok (.getfield 17, 3) := by decide +kernel
theorem dX0_passDay_75 : decode cX0_passDay 75 = .ok (.getfield 70, 3) := by decide +kernel
theorem dX0_passDay_78 : decode cX0_passDay 78 = .ok (.iload_n 2, 1) := by decide +kernel
theorem dX0_passDay_79 : decode cX0_passDay 79 = .ok (.iload 4, 2) := by decide +kernel
theorem dX0_passDay_81 : decode cX0_passDay 81 = .ok (.invokevirtual 73, 3) := by decide +kernel
theorem dX0_passDay_84 : decode cX0_passDay 84 = .ok (.istore 5, 2) := by decide +kernel
theorem dX0_passDay_86 : decode cX0_passDay 86 = .ok (.aload_n 0, 1) := by decide +kernel
theorem dX0_passDay_87 : decode cX0_passDay 87 = .ok (.getfield 21, 3) := by decide +kernel
theorem dX0_passDay_90 : decode cX0_passDay 90 = .ok (.iload_n 2, 1) := by decide +kernel
theorem dX0_passDay_91 : decode cX0_passDay 91 = .ok (.iload 4, 2) := by decide +kernel
theorem dX0_passDay_93 : decode cX0_passDay 93 = .ok (.aload_n 0, 1) := by decide +kernel
theorem dX0_passDay_94 : decode cX0_passDay 94 = .ok (.getfield 17, 3) := by decide +kernel
theorem dX0_passDay_97 : decode cX0_passDay 97 = .ok (.iload 4, 2) := by decide +kernel
theorem dX0_passDay_99 : decode cX0_passDay 99 = .ok (.aload_n 0, 1) := by decide +kernel
theorem dX0_passDay_100 : decode cX0_passDay 100 = .ok (.getfield 21, 3) := by decide +kernel
theorem dX0_passDay_103 : decode cX0_passDay 103 = .ok (.getfield 60, 3) := by decide +kernel
theorem dX0_passDay_106 : decode cX0_passDay 106 = .ok (.iload_n 2, 1) := by decide +kernel
theorem dX0_passDay_107 : decode cX0_passDay 107 = .ok (.iaload, 1) := by decide +kernel
theorem dX0_passDay_108 : decode cX0_passDay 108 = .ok (.invokevirtual 99, 3) := by decide +kernel
theorem dX0_passDay_111 : decode cX0_passDay 111 = .ok (.iload 5, 2) := by decide +kernel
theorem dX0_passDay_113 : decode cX0_passDay 113 = .ok (.invokevirtual 102, 3) := by decide +kernel
theorem dX0_passDay_116 : decode cX0_passDay 116 = .ok (.iinc 1 1, 3) := by decide +kernel
theorem dX0_passDay_119 : decode cX0_passDay 119 = .ok (.iinc 2 1, 3) := by decide +kernel
theorem dX0_passDay_122 : decode cX0_passDay 122 = .ok (.goto (-93), 3) := by decide +kernel
theorem dX0_passDay_125 : decode cX0_passDay 125 = .ok (.iconst 0, 1) := by decide +kernel
theorem dX0_passDay_126 : decode cX0_passDay 126 = .ok (.istore_n 2, 1) := by decide +kernel
theorem dX0_passDay_127 : decode cX0_passDay 127 = .ok (.iload_n 2, 1) := by decide +kernel
theorem dX0_passDay_128 : decode cX0_passDay 128 = .ok (.aload_n 0, 1) := by decide +kernel
theorem dX0_passDay_129 : decode cX0_passDay 129 = .ok (.getfield 17, 3) := by decide +kernel
theorem dX0_passDay_132 : decode cX0_passDay 132 = .ok (.getfield 33, 3) := by decide +kernel
theorem dX0_passDay_135 : decode cX0_passDay 135 = .ok (.if_icmp .ge 48, 3) := by decide +kernel
theorem dX0_passDay_138 : decode cX0_passDay 138 = .ok (.aload_n 0, 1) := by decide +kernel
theorem dX0_passDay_139 : decode cX0_passDay 139 = .ok (.getfield 21, 3) := by decide +kernel
theorem dX0_passDay_142 : decode cX0_passDay 142 = .ok (.getfield 51, 3) := by decide +kernel
theorem dX0_passDay_145 : decode cX0_passDay 145 = .ok (.iload_n 2, 1) := by decide +kernel
theorem dX0_passDay_146 : decode cX0_passDay 146 = .ok (.aload_n 0, 1) := by decide +kernel
theorem dX0_passDay_147 : decode cX0_passDay 147 = .ok (.getfield 17, 3) := by decide +kernel
theorem dX0_passDay_150 : decode cX0_passDay 150 = .ok (.getfield 48, 3) := by decide +kernel
theorem dX0_passDay_153 : decode cX0_passDay 153 = .ok (.iload_n 2, 1) := by decide +kernel
theorem dX0_passDay_154 : decode cX0_passDay 154 = .ok (.iaload, 1) := by decide +kernel
theorem dX0_passDay_155 : decode cX0_passDay 155 = .ok (.aload_n 0, 1) := by decide +kernel
theorem dX0_passDay_156 : decode cX0_passDay 156 = .ok (.getfield 21, 3) := by decide +kernel
theorem dX0_passDay_159 : decode cX0_passDay 159 = .ok (.getfield 51, 3) := by decide +kernel
theorem dX0_passDay_162 : decode cX0_passDay 162 = .ok (.iload_n 2, 1) := by decide +kernel
theorem dX0_passDay_163 : decode cX0_passDay 163 = .ok (.iaload, 1) := by decide +kernel
theorem dX0_passDay_164 : decode cX0_passDay 164 = .ok (.aload_n 0, 1) := by decide +kernel
theorem dX0_passDay_165 : decode cX0_passDay 165 = .ok (.getfield 29, 3) := by decide +kernel
theorem dX0_passDay_168 : decode cX0_passDay 168 = .ok (.iload_n 2, 1) := by decide +kernel
theorem dX0_passDay_169 : decode cX0_passDay 169 = .ok (.invokevirtual 131, 3) := by decide +kernel
theorem dX0_passDay_172 : decode cX0_passDay 172 = .ok (.iadd, 1) := by decide +kernel
theorem dX0_passDay_173 : decode cX0_passDay 173 = .ok (.invokestatic 134, 3) := by decide +kernel
theorem dX0_passDay_176 : decode cX0_passDay 176 = .ok (.iastore, 1) := by decide +kernel
theorem dX0_passDay_177 : decode cX0_passDay 177 = .ok (.iinc 2 1, 3) := by decide +kernel
theorem dX0_passDay_180 : decode cX0_passDay 180 = .ok (.goto (-53), 3) := by decide +kernel
theorem dX0_passDay_183 : decode cX0_passDay 183 = .ok (.aload_n 0, 1) := by decide +kernel
theorem dX0_passDay_184 : decode cX0_passDay 184 = .ok (.getfield 21, 3) := by decide +kernel
theorem dX0_passDay_187 : decode cX0_passDay 187 = .ok (.dup, 1) := by decide +kernel
theorem dX0_passDay_188 : decode cX0_passDay 188 = .ok (.getfield 139, 3) := by decide +kernel
theorem dX0_passDay_191 : decode cX0_passDay 191 = .ok (.iconst 1, 1) := by decide +kernel
theorem dX0_passDay_192 : decode cX0_passDay 192 = .ok (.iadd, 1) := by decide +kernel
theorem dX0_passDay_193 : decode cX0_passDay 193 = .ok (.putfield 139, 3) := by decide +kernel
theorem dX0_passDay_196 : decode cX0_passDay 196 = .ok (.iload_n 1, 1) := by decide +kernel
theorem dX0_passDay_197 : decode cX0_passDay 197 = .ok (.ireturn, 1) := by decide +kernel
theorem dX0_bitAt_0 : decode cX0_bitAt 0 = .ok (.iload_n 0, 1) := by decide +kernel
theorem dX0_bitAt_1 : decode cX0_bitAt 1 = .ok (.istore_n 2, 1) := by decide +kernel
theorem dX0_bitAt_2 : decode cX0_bitAt 2 = .ok (.iconst 0, 1) := by decide +kernel
theorem dX0_bitAt_3 : decode cX0_bitAt 3 = .ok (.istore_n 3, 1) := by decide +kernel
theorem dX0_bitAt_4 : decode cX0_bitAt 4 = .ok (.iload_n 3, 1) := by decide +kernel
theorem dX0_bitAt_5 : decode cX0_bitAt 5 = .ok (.iload_n 1, 1) := by decide +kernel
theorem dX0_bitAt_6 : decode cX0_bitAt 6 = .ok (.if_icmp .ge 15, 3) := by decide +kernel
theorem dX0_bitAt_9 : decode cX0_bitAt 9 = .ok (.iload_n 2, 1) := by decide +kernel
theorem dX0_bitAt_10 : decode cX0_bitAt 10 = .ok (.iload_n 2, 1) := by decide +kernel
theorem dX0_bitAt_11 : decode cX0_bitAt 11 = .ok (.iconst 1, 1) := by decide +kernel
theorem dX0_bitAt_12 : decode cX0_bitAt 12 = .ok (.isub, 1) := by decide +kernel
theorem dX0_bitAt_13 : decode cX0_bitAt 13 = .ok (.iand, 1) := by decide +kernel
theorem dX0_bitAt_14 : decode cX0_bitAt 14 = .ok (.istore_n 2, 1) := by decide +kernel
theorem dX0_bitAt_15 : decode cX0_bitAt 15 = .ok (.iinc 3 1, 3) := by decide +kernel
theorem dX0_bitAt_18 : decode cX0_bitAt 18 = .ok (.goto (-14), 3) := by decide +kernel
theorem dX0_bitAt_21 : decode cX0_bitAt 21 = .ok (.iload_n 2, 1) := by decide +kernel
theorem dX0_bitAt_22 : decode cX0_bitAt 22 = .ok (.invokestatic 142, 3) := by decide +kernel
theorem dX0_bitAt_25 : decode cX0_bitAt 25 = .ok (.ireturn, 1) := by decide +kernel
theorem dX0_drawDeed_0 : decode cX0_drawDeed 0 = .ok (.aload_n 0, 1) := by decide +kernel
theorem dX0_drawDeed_1 : decode cX0_drawDeed 1 = .ok (.getfield 21, 3) := by decide +kernel
theorem dX0_drawDeed_4 : decode cX0_drawDeed 4 = .ok (.getfield 145, 3) := by decide +kernel
theorem dX0_drawDeed_7 : decode cX0_drawDeed 7 = .ok (.istore_n 1, 1) := by decide +kernel
theorem dX0_drawDeed_8 : decode cX0_drawDeed 8 = .ok (.aload_n 0, 1) := by decide +kernel
theorem dX0_drawDeed_9 : decode cX0_drawDeed 9 = .ok (.getfield 21, 3) := by decide +kernel
theorem dX0_drawDeed_12 : decode cX0_drawDeed 12 = .ok (.iconst 1, 1) := by decide +kernel
theorem dX0_drawDeed_13 : decode cX0_drawDeed 13 = .ok (.invokevirtual 113, 3) := by decide +kernel
theorem dX0_drawDeed_16 : decode cX0_drawDeed 16 = .ok (.pop, 1) := by decide +kernel
theorem dX0_drawDeed_17 : decode cX0_drawDeed 17 = .ok (.aload_n 0, 1) := by decide +kernel
theorem dX0_drawDeed_18 : decode cX0_drawDeed 18 = .ok (.getfield 17, 3) := by decide +kernel
theorem dX0_drawDeed_21 : decode cX0_drawDeed 21 = .ok (.getfield 54, 3) := by decide +kernel
theorem dX0_drawDeed_24 : decode cX0_drawDeed 24 = .ok (.ifCond .le 15, 3) := by decide +kernel
theorem dX0_drawDeed_27 : decode cX0_drawDeed 27 = .ok (.iload_n 1, 1) := by decide +kernel
theorem dX0_drawDeed_28 : decode cX0_drawDeed 28 = .ok (.aload_n 0, 1) := by decide +kernel
theorem dX0_drawDeed_29 : decode cX0_drawDeed 29 = .ok (.getfield 17, 3) := by decide +kernel
theorem dX0_drawDeed_32 : decode cX0_drawDeed 32 = .ok (.getfield 54, 3) := by decide +kernel
theorem dX0_drawDeed_35 : decode cX0_drawDeed 35 = .ok (.irem, 1) := by decide +kernel
theorem dX0_drawDeed_36 : decode cX0_drawDeed 36 = .ok (.goto 4, 3) := by decide +kernel
theorem dX0_drawDeed_39 : decode cX0_drawDeed 39 = .ok (.iconst (-1), 1) := by decide +kernel
theorem dX0_drawDeed_40 : decode cX0_drawDeed 40 = .ok (.istore_n 2, 1) := by decide +kernel
theorem dX0_drawDeed_41 : decode cX0_drawDeed 41 = .ok (.aload_n 0, 1) := by decide +kernel
theorem dX0_drawDeed_42 : decode cX0_drawDeed 42 = .ok (.getfield 17, 3) := by decide +kernel
theorem dX0_drawDeed_45 : decode cX0_drawDeed 45 = .ok (.getfield 33, 3) := by decide +kernel
theorem dX0_drawDeed_48 : decode cX0_drawDeed 48 = .ok (.ifCond .le 18, 3) := by decide +kernel
theorem dX0_drawDeed_51 : decode cX0_drawDeed 51 = .ok (.iload_n 1, 1) := by decide +kernel
theorem dX0_drawDeed_52 : decode cX0_drawDeed 52 = .ok (.bipush 6, 2) := by decide +kernel
theorem dX0_drawDeed_54 : decode cX0_drawDeed 54 = .ok (.idiv, 1) := by decide +kernel
theorem dX0_drawDeed_55 : decode cX0_drawDeed 55 = .ok (.aload_n 0, 1) := by decide +kernel
theorem dX0_drawDeed_56 : decode cX0_drawDeed 56 = .ok (.getfield 17, 3) := by decide +kernel
theorem dX0_drawDeed_59 : decode cX0_drawDeed 59 = .ok (.getfield 33, 3) := by decide +kernel
theorem dX0_drawDeed_62 : decode cX0_drawDeed 62 = .ok (.irem, 1) := by decide +kernel
theorem dX0_drawDeed_63 : decode cX0_drawDeed 63 = .ok (.goto 4, 3) := by decide +kernel
theorem dX0_drawDeed_66 : decode cX0_drawDeed 66 = .ok (.iconst (-1), 1) := by decide +kernel
theorem dX0_drawDeed_67 : decode cX0_drawDeed 67 = .ok (.istore_n 3, 1) := by decide +kernel
theorem dX0_drawDeed_68 : decode cX0_drawDeed 68 = .ok (.iload_n 1, 1) := by decide +kernel
theorem dX0_drawDeed_69 : decode cX0_drawDeed 69 = .ok (.bipush 6, 2) := by decide +kernel
theorem dX0_drawDeed_71 : decode cX0_drawDeed 71 = .ok (.irem, 1) := by decide +kernel
theorem dX0_drawDeed_72 : decode cX0_drawDeed 72 = .ok (.tableswitch 138 0 3 #[32, 32, 77, 93], 32) := by decide +kernel
theorem dX0_drawDeed_104 : decode cX0_drawDeed 104 = .ok (.aload_n 0, 1) := by decide +kernel
theorem dX0_drawDeed_105 : decode cX0_drawDeed 105 = .ok (.iload_n 2, 1) := by decide +kernel
theorem dX0_drawDeed_106 : decode cX0_drawDeed 106 = .ok (.iload_n 3, 1) := by decide +kernel
theorem dX0_drawDeed_107 : decode cX0_drawDeed 107 = .ok (.invokevirtual 89, 3) := by decide +kernel
theorem dX0_drawDeed_110 : decode cX0_drawDeed 110 = .ok (.istore 4, 2) := by decide +kernel
theorem dX0_drawDeed_112 : decode cX0_drawDeed 112 = .ok (.iload 4, 2) := by decide +kernel
theorem dX0_drawDeed_114 : decode cX0_drawDeed 114 = .ok (.iconst (-1), 1) := by decide +kernel
theorem dX0_drawDeed_115 : decode cX0_drawDeed 115 = .ok (.if_icmp .eq 113, 3) := by decide +kernel
theorem dX0_drawDeed_118 : decode cX0_drawDeed 118 = .ok (.aload_n 0, 1) := by decide +kernel
theorem dX0_drawDeed_119 : decode cX0_drawDeed 119 = .ok (.getfield 21, 3) := by decide +kernel
theorem dX0_drawDeed_122 : decode cX0_drawDeed 122 = .ok (.iload_n 2, 1) := by decide +kernel
theorem dX0_drawDeed_123 : decode cX0_drawDeed 123 = .ok (.iload_n 3, 1) := by decide +kernel
theorem dX0_drawDeed_124 : decode cX0_drawDeed 124 = .ok (.aload_n 0, 1) := by decide +kernel
theorem dX0_drawDeed_125 : decode cX0_drawDeed 125 = .ok (.getfield 17, 3) := by decide +kernel
theorem dX0_drawDeed_128 : decode cX0_drawDeed 128 = .ok (.iload_n 3, 1) := by decide +kernel
theorem dX0_drawDeed_129 : decode cX0_drawDeed 129 = .ok (.aload_n 0, 1) := by decide +kernel
theorem dX0_drawDeed_130 : decode cX0_drawDeed 130 = .ok (.getfield 21, 3) := by decide +kernel
theorem dX0_drawDeed_133 : decode cX0_drawDeed 133 = .ok (.getfield 60, 3) := by decide +kernel
theorem dX0_drawDeed_136 : decode cX0_drawDeed 136 = .ok (.iload_n 2, 1) := by decide +kernel
theorem dX0_drawDeed_137 : decode cX0_drawDeed 137 = .ok (.iaload, 1) := by decide +kernel
theorem dX0_drawDeed_138 : decode cX0_drawDeed 138 = .ok (.invokevirtual 99, 3) := by decide +kernel
theorem dX0_drawDeed_141 : decode cX0_drawDeed 141 = .ok (.iload 4, 2) := by decide +kernel
theorem dX0_drawDeed_143 : decode cX0_drawDeed 143 = .ok (.invokevirtual 102, 3) := by decide +kernel
theorem dX0_drawDeed_146 : decode cX0_drawDeed 146 = .ok (.goto 82, 3) := by decide +kernel
theorem dX0_drawDeed_149 : decode cX0_drawDeed 149 = .ok (.aload_n 0, 1) := by decide +kernel
theorem dX0_drawDeed_150 : decode cX0_drawDeed 150 = .ok (.iload_n 3, 1) := by decide +kernel
theorem dX0_drawDeed_151 : decode cX0_drawDeed 151 = .ok (.invokevirtual 106, 3) := by decide +kernel
theorem dX0_drawDeed_154 : decode cX0_drawDeed 154 = .ok (.ifCond .eq 74, 3) := by decide +kernel
theorem dX0_drawDeed_157 : decode cX0_drawDeed 157 = .ok (.aload_n 0, 1) := by decide +kernel
theorem dX0_drawDeed_158 : decode cX0_drawDeed 158 = .ok (.iload_n 3, 1) := by decide +kernel
theorem dX0_drawDeed_159 : decode cX0_drawDeed 159 = .ok (.invokevirtual 109, 3) := by decide +kernel
theorem dX0_drawDeed_162 : decode cX0_drawDeed 162 = .ok (.goto 66, 3) := by decide +kernel
theorem dX0_drawDeed_165 : decode cX0_drawDeed 165 = .ok (.iconst 1, 1) := by decide +kernel
theorem dX0_drawDeed_166 : decode cX0_drawDeed 166 = .ok (.iload_n 1, 1) := by decide +kernel
theorem dX0_drawDeed_167 : decode cX0_drawDeed 167 = .ok (.bipush 9, 2) := by decide +kernel
theorem dX0_drawDeed_169 : decode cX0_drawDeed 169 = .ok (.irem, 1) := by decide +kernel
theorem dX0_drawDeed_170 : decode cX0_drawDeed 170 = .ok (.iadd, 1) := by decide +kernel
theorem dX0_drawDeed_171 : decode cX0_drawDeed 171 = .ok (.istore 5, 2) := by decide +kernel
theorem dX0_drawDeed_173 : decode cX0_drawDeed 173 = .ok (.aload_n 0, 1) := by decide +kernel
theorem dX0_drawDeed_174 : decode cX0_drawDeed 174 = .ok (.getfield 21, 3) := by decide +kernel
theorem dX0_drawDeed_177 : decode cX0_drawDeed 177 = .ok (.dup, 1) := by decide +kernel
theorem dX0_drawDeed_178 : decode cX0_drawDeed 178 = .ok (.getfield 86, 3) := by decide +kernel
theorem dX0_drawDeed_181 : decode cX0_drawDeed 181 = .ok (.aload_n 0, 1) := by decide +kernel
theorem dX0_drawDeed_182 : decode cX0_drawDeed 182 = .ok (.getfield 21, 3) := by decide +kernel
theorem dX0_drawDeed_185 : decode cX0_drawDeed 185 = .ok (.getfield 86, 3) := by decide +kernel
theorem dX0_drawDeed_188 : decode cX0_drawDeed 188 = .ok (.iload 5, 2) := by decide +kernel
theorem dX0_drawDeed_190 : decode cX0_drawDeed 190 = .ok (.iadd, 1) := by decide +kernel
theorem dX0_drawDeed_191 : decode cX0_drawDeed 191 = .ok (.sipush 999, 3) := by decide +kernel
theorem dX0_drawDeed_194 : decode cX0_drawDeed 194 = .ok (.if_icmp .gt 8, 3) := by decide +kernel
theorem dX0_drawDeed_197 : decode cX0_drawDeed 197 = .ok (.iload 5, 2) := by decide +kernel
theorem dX0_drawDeed_199 : decode cX0_drawDeed 199 = .ok (.goto 4, 3) := by decide +kernel
theorem dX0_drawDeed_202 : decode cX0_drawDeed 202 = .ok (.iconst 0, 1) := by decide +kernel
theorem dX0_drawDeed_203 : decode cX0_drawDeed 203 = .ok (.iadd, 1) := by decide +kernel
theorem dX0_drawDeed_204 : decode cX0_drawDeed 204 = .ok (.putfield 86, 3) := by decide +kernel
theorem dX0_drawDeed_207 : decode cX0_drawDeed 207 = .ok (.goto 21, 3) := by decide +kernel
theorem dX0_drawDeed_210 : decode cX0_drawDeed 210 = .ok (.aload_n 0, 1) := by decide +kernel
theorem dX0_drawDeed_211 : decode cX0_drawDeed 211 = .ok (.getfield 21, 3) := by decide +kernel
theorem dX0_drawDeed_214 : decode cX0_drawDeed 214 = .ok (.getfield 139, 3) := by decide +kernel
theorem dX0_drawDeed_217 : decode cX0_drawDeed 217 = .ok (.sipush 9999, 3) := by decide +kernel
theorem dX0_drawDeed_220 : decode cX0_drawDeed 220 = .ok (.if_icmp .ge 8, 3) := by decide +kernel
theorem dX0_drawDeed_223 : decode cX0_drawDeed 223 = .ok (.aload_n 0, 1) := by decide +kernel
theorem dX0_drawDeed_224 : decode cX0_drawDeed 224 = .ok (.invokevirtual 148, 3) := by decide +kernel
theorem dX0_drawDeed_227 : decode cX0_drawDeed 227 = .ok (.pop, 1) := by decide +kernel
theorem dX0_drawDeed_228 : decode cX0_drawDeed 228 = .ok (.return_, 1) := by decide +kernel
theorem dX0_plays_0 : decode cX0_plays 0 = .ok (.aload_n 1, 1) := by decide +kernel
theorem dX0_plays_1 : decode cX0_plays 1 = .ok (.iload_n 2, 1) := by decide +kernel
theorem dX0_plays_2 : decode cX0_plays 2 = .ok (.iconst 0, 1) := by decide +kernel
theorem dX0_plays_3 : decode cX0_plays 3 = .ok (.invokevirtual 152, 3) := by decide +kernel
theorem dX0_plays_6 : decode cX0_plays 6 = .ok (.istore_n 3, 1) := by decide +kernel
theorem dX0_plays_7 : decode cX0_plays 7 = .ok (.aload_n 1, 1) := by decide +kernel
theorem dX0_plays_8 : decode cX0_plays 8 = .ok (.iload_n 2, 1) := by decide +kernel
theorem dX0_plays_9 : decode cX0_plays 9 = .ok (.iconst 1, 1) := by decide +kernel
theorem dX0_plays_10 : decode cX0_plays 10 = .ok (.invokevirtual 152, 3) := by decide +kernel
theorem dX0_plays_13 : decode cX0_plays 13 = .ok (.istore 4, 2) := by decide +kernel
theorem dX0_plays_15 : decode cX0_plays 15 = .ok (.aload_n 1, 1) := by decide +kernel
theorem dX0_plays_16 : decode cX0_plays 16 = .ok (.iload_n 2, 1) := by decide +kernel
theorem dX0_plays_17 : decode cX0_plays 17 = .ok (.invokevirtual 157, 3) := by decide +kernel
theorem dX0_plays_20 : decode cX0_plays 20 = .ok (.tableswitch 219 0 17 #[154, 219, 219, 219, 219, 219, 219, 219, 219, 219, 219, 88, 219, 117, 134, 219, 142, 148], 88) := by decide +kernel
theorem dX0_plays_108 : decode cX0_plays 108 = .ok (.aload_n 0, 1) := by decide +kernel
theorem dX0_plays_109 : decode cX0_plays 109 = .ok (.iload_n 3, 1) := by decide +kernel
theorem dX0_plays_110 : decode cX0_plays 110 = .ok (.iload 4, 2) := by decide +kernel
theorem dX0_plays_112 : decode cX0_plays 112 = .ok (.aload_n 1, 1) := by decide +kernel
theorem dX0_plays_113 : decode cX0_plays 113 = .ok (.iload_n 2, 1) := by decide +kernel
theorem dX0_plays_114 : decode cX0_plays 114 = .ok (.iconst 2, 1) := by decide +kernel
theorem dX0_plays_115 : decode cX0_plays 115 = .ok (.invokevirtual 152, 3) := by decide +kernel
theorem dX0_plays_118 : decode cX0_plays 118 = .ok (.aload_n 1, 1) := by decide +kernel
theorem dX0_plays_119 : decode cX0_plays 119 = .ok (.iload_n 2, 1) := by decide +kernel
theorem dX0_plays_120 : decode cX0_plays 120 = .ok (.iconst 3, 1) := by decide +kernel
theorem dX0_plays_121 : decode cX0_plays 121 = .ok (.invokevirtual 152, 3) := by decide +kernel
theorem dX0_plays_124 : decode cX0_plays 124 = .ok (.invokevirtual 160, 3) := by decide +kernel
theorem dX0_plays_127 : decode cX0_plays 127 = .ok (.iconst (-1), 1) := by decide +kernel
theorem dX0_plays_128 : decode cX0_plays 128 = .ok (.if_icmp .eq 7, 3) := by decide +kernel
theorem dX0_plays_131 : decode cX0_plays 131 = .ok (.iconst 1, 1) := by decide +kernel
theorem dX0_plays_132 : decode cX0_plays 132 = .ok (.goto 4, 3) := by decide +kernel
theorem dX0_plays_135 : decode cX0_plays 135 = .ok (.iconst 0, 1) := by decide +kernel
theorem dX0_plays_136 : decode cX0_plays 136 = .ok (.ireturn, 1) := by decide +kernel
theorem dX0_plays_137 : decode cX0_plays 137 = .ok (.aload_n 0, 1) := by decide +kernel
theorem dX0_plays_138 : decode cX0_plays 138 = .ok (.iload_n 3, 1) := by decide +kernel
theorem dX0_plays_139 : decode cX0_plays 139 = .ok (.iload 4, 2) := by decide +kernel
theorem dX0_plays_141 : decode cX0_plays 141 = .ok (.invokevirtual 164, 3) := by decide +kernel
theorem dX0_plays_144 : decode cX0_plays 144 = .ok (.iconst (-1), 1) := by decide +kernel
theorem dX0_plays_145 : decode cX0_plays 145 = .ok (.if_icmp .eq 7, 3) := by decide +kernel
theorem dX0_plays_148 : decode cX0_plays 148 = .ok (.iconst 1, 1) := by decide +kernel
theorem dX0_plays_149 : decode cX0_plays 149 = .ok (.goto 4, 3) := by decide +kernel
theorem dX0_plays_152 : decode cX0_plays 152 = .ok (.iconst 0, 1) := by decide +kernel
theorem dX0_plays_153 : decode cX0_plays 153 = .ok (.ireturn, 1) := by decide +kernel
theorem dX0_plays_154 : decode cX0_plays 154 = .ok (.aload_n 0, 1) := by decide +kernel
theorem dX0_plays_155 : decode cX0_plays 155 = .ok (.iload 4, 2) := by decide +kernel
theorem dX0_plays_157 : decode cX0_plays 157 = .ok (.iload_n 3, 1) := by decide +kernel
theorem dX0_plays_158 : decode cX0_plays 158 = .ok (.invokevirtual 167, 3) := by decide +kernel
theorem dX0_plays_161 : decode cX0_plays 161 = .ok (.ireturn, 1) := by decide +kernel
theorem dX0_plays_162 : decode cX0_plays 162 = .ok (.aload_n 0, 1) := by decide +kernel
theorem dX0_plays_163 : decode cX0_plays 163 = .ok (.iload_n 3, 1) := by decide +kernel
theorem dX0_plays_164 : decode cX0_plays 164 = .ok (.invokevirtual 170, 3) := by decide +kernel
theorem dX0_plays_167 : decode cX0_plays 167 = .ok (.ireturn, 1) := by decide +kernel
theorem dX0_plays_168 : decode cX0_plays 168 = .ok (.aload_n 0, 1) := by decide +kernel
theorem dX0_plays_169 : decode cX0_plays 169 = .ok (.iload_n 3, 1) := by decide +kernel
theorem dX0_plays_170 : decode cX0_plays 170 = .ok (.invokevirtual 173, 3) := by decide +kernel
theorem dX0_plays_173 : decode cX0_plays 173 = .ok (.ireturn, 1) := by decide +kernel
theorem dX0_plays_174 : decode cX0_plays 174 = .ok (.iload_n 3, 1) := by decide +kernel
theorem dX0_plays_175 : decode cX0_plays 175 = .ok (.sipush 9999, 3) := by decide +kernel
theorem dX0_plays_178 : decode cX0_plays 178 = .ok (.aload_n 0, 1) := by decide +kernel
theorem dX0_plays_179 : decode cX0_plays 179 = .ok (.getfield 21, 3) := by decide +kernel
theorem dX0_plays_182 : decode cX0_plays 182 = .ok (.getfield 139, 3) := by decide +kernel
theorem dX0_plays_185 : decode cX0_plays 185 = .ok (.isub, 1) := by decide +kernel
theorem dX0_plays_186 : decode cX0_plays 186 = .ok (.invokestatic 134, 3) := by decide +kernel
theorem dX0_plays_189 : decode cX0_plays 189 = .ok (.istore 5, 2) := by decide +kernel
theorem dX0_plays_191 : decode cX0_plays 191 = .ok (.iconst 0, 1) := by decide +kernel
theorem dX0_plays_192 : decode cX0_plays 192 = .ok (.istore 6, 2) := by decide +kernel
theorem dX0_plays_194 : decode cX0_plays 194 = .ok (.iload 6, 2) := by decide +kernel
theorem dX0_plays_196 : decode cX0_plays 196 = .ok (.iload 5, 2) := by decide +kernel
theorem dX0_plays_198 : decode cX0_plays 198 = .ok (.if_icmp .ge 29, 3) := by decide +kernel
theorem dX0_plays_201 : decode cX0_plays 201 = .ok (.aload_n 0, 1) := by decide +kernel
theorem dX0_plays_202 : decode cX0_plays 202 = .ok (.getfield 25, 3) := by decide +kernel
theorem dX0_plays_205 : decode cX0_plays 205 = .ok (.aload_n 0, 1) := by decide +kernel
theorem dX0_plays_206 : decode cX0_plays 206 = .ok (.getfield 21, 3) := by decide +kernel
theorem dX0_plays_209 : decode cX0_plays 209 = .ok (.aload_n 0, 1) := by decide +kernel
theorem dX0_plays_210 : decode cX0_plays 210 = .ok (.getfield 17, 3) := by decide +kernel
theorem dX0_plays_213 : decode cX0_plays 213 = .ok (.invokevirtual 93, 3) := by decide +kernel
theorem dX0_plays_216 : decode cX0_plays 216 = .ok (.aload_n 0, 1) := by decide +kernel
theorem dX0_plays_217 : decode cX0_plays 217 = .ok (.invokevirtual 148, 3) := by decide +kernel
theorem dX0_plays_220 : decode cX0_plays 220 = .ok (.pop, 1) := by decide +kernel
theorem dX0_plays_221 : decode cX0_plays 221 = .ok (.iinc 6 1, 3) := by decide +kernel
theorem dX0_plays_224 : decode cX0_plays 224 = .ok (.goto (-30), 3) := by decide +kernel
theorem dX0_plays_227 : decode cX0_plays 227 = .ok (.iload 5, 2) := by decide +kernel
theorem dX0_plays_229 : decode cX0_plays 229 = .ok (.iload_n 3, 1) := by decide +kernel
theorem dX0_plays_230 : decode cX0_plays 230 = .ok (.if_icmp .ne 7, 3) := by decide +kernel
theorem dX0_plays_233 : decode cX0_plays 233 = .ok (.iconst 1, 1) := by decide +kernel
theorem dX0_plays_234 : decode cX0_plays 234 = .ok (.goto 4, 3) := by decide +kernel
theorem dX0_plays_237 : decode cX0_plays 237 = .ok (.iconst 0, 1) := by decide +kernel
theorem dX0_plays_238 : decode cX0_plays 238 = .ok (.ireturn, 1) := by decide +kernel
theorem dX0_plays_239 : decode cX0_plays 239 = .ok (.iconst 1, 1) := by decide +kernel
theorem dX0_plays_240 : decode cX0_plays 240 = .ok (.ireturn, 1) := by decide +kernel
theorem dX0_foresee_0 : decode cX0_foresee 0 = .ok (.aload_n 0, 1) := by decide +kernel
theorem dX0_foresee_1 : decode cX0_foresee 1 = .ok (.getfield 21, 3) := by decide +kernel
theorem dX0_foresee_4 : decode cX0_foresee 4 = .ok (.aload_n 0, 1) := by decide +kernel
theorem dX0_foresee_5 : decode cX0_foresee 5 = .ok (.getfield 11, 3) := by decide +kernel
theorem dX0_foresee_8 : decode cX0_foresee 8 = .ok (.iconst 0, 1) := by decide +kernel
theorem dX0_foresee_9 : decode cX0_foresee 9 = .ok (.aload_n 0, 1) := by decide +kernel
theorem dX0_foresee_10 : decode cX0_foresee 10 = .ok (.getfield 17, 3) := by decide +kernel
theorem dX0_foresee_13 : decode cX0_foresee 13 = .ok (.invokevirtual 176, 3) := by decide +kernel
theorem dX0_foresee_16 : decode cX0_foresee 16 = .ok (.iload_n 1, 1) := by decide +kernel
theorem dX0_foresee_17 : decode cX0_foresee 17 = .ok (.sipush 9999, 3) := by decide +kernel
theorem dX0_foresee_20 : decode cX0_foresee 20 = .ok (.aload_n 0, 1) := by decide +kernel
theorem dX0_foresee_21 : decode cX0_foresee 21 = .ok (.getfield 21, 3) := by decide +kernel
theorem dX0_foresee_24 : decode cX0_foresee 24 = .ok (.getfield 139, 3) := by decide +kernel
theorem dX0_foresee_27 : decode cX0_foresee 27 = .ok (.isub, 1) := by decide +kernel
theorem dX0_foresee_28 : decode cX0_foresee 28 = .ok (.invokestatic 134, 3) := by decide +kernel
theorem dX0_foresee_31 : decode cX0_foresee 31 = .ok (.istore 4, 2) := by decide +kernel
theorem dX0_foresee_33 : decode cX0_foresee 33 = .ok (.iconst 0, 1) := by decide +kernel
theorem dX0_foresee_34 : decode cX0_foresee 34 = .ok (.istore 5, 2) := by decide +kernel
theorem dX0_foresee_36 : decode cX0_foresee 36 = .ok (.iload 5, 2) := by decide +kernel
theorem dX0_foresee_38 : decode cX0_foresee 38 = .ok (.iload 4, 2) := by decide +kernel
theorem dX0_foresee_40 : decode cX0_foresee 40 = .ok (.if_icmp .ge 14, 3) := by decide +kernel
theorem dX0_foresee_43 : decode cX0_foresee 43 = .ok (.aload_n 0, 1) := by decide +kernel
theorem dX0_foresee_44 : decode cX0_foresee 44 = .ok (.invokevirtual 148, 3) := by decide +kernel
theorem dX0_foresee_47 : decode cX0_foresee 47 = .ok (.pop, 1) := by decide +kernel
theorem dX0_foresee_48 : decode cX0_foresee 48 = .ok (.iinc 5 1, 3) := by decide +kernel
theorem dX0_foresee_51 : decode cX0_foresee 51 = .ok (.goto (-15), 3) := by decide +kernel
theorem dX0_foresee_54 : decode cX0_foresee 54 = .ok (.iload_n 2, 1) := by decide +kernel
theorem dX0_foresee_55 : decode cX0_foresee 55 = .ok (.ifCond .ne 15, 3) := by decide +kernel
theorem dX0_foresee_58 : decode cX0_foresee 58 = .ok (.aload_n 0, 1) := by decide +kernel
theorem dX0_foresee_59 : decode cX0_foresee 59 = .ok (.getfield 21, 3) := by decide +kernel
theorem dX0_foresee_62 : decode cX0_foresee 62 = .ok (.getfield 51, 3) := by decide +kernel
theorem dX0_foresee_65 : decode cX0_foresee 65 = .ok (.iload_n 3, 1) := by decide +kernel
theorem dX0_foresee_66 : decode cX0_foresee 66 = .ok (.iaload, 1) := by decide +kernel
theorem dX0_foresee_67 : decode cX0_foresee 67 = .ok (.goto 29, 3) := by decide +kernel
theorem dX0_foresee_70 : decode cX0_foresee 70 = .ok (.iload_n 2, 1) := by decide +kernel
theorem dX0_foresee_71 : decode cX0_foresee 71 = .ok (.iconst 1, 1) := by decide +kernel
theorem dX0_foresee_72 : decode cX0_foresee 72 = .ok (.if_icmp .ne 15, 3) := by decide +kernel
theorem dX0_foresee_75 : decode cX0_foresee 75 = .ok (.aload_n 0, 1) := by decide +kernel
theorem dX0_foresee_76 : decode cX0_foresee 76 = .ok (.getfield 21, 3) := by decide +kernel
theorem dX0_foresee_79 : decode cX0_foresee 79 = .ok (.getfield 60, 3) := by decide +kernel
theorem dX0_foresee_82 : decode cX0_foresee 82 = .ok (.iload_n 3, 1) := by decide +kernel
theorem dX0_foresee_83 : decode cX0_foresee 83 = .ok (.iaload, 1) := by decide +kernel
theorem dX0_foresee_84 : decode cX0_foresee 84 = .ok (.goto 12, 3) := by decide +kernel
theorem dX0_foresee_87 : decode cX0_foresee 87 = .ok (.aload_n 0, 1) := by decide +kernel
theorem dX0_foresee_88 : decode cX0_foresee 88 = .ok (.getfield 21, 3) := by decide +kernel
theorem dX0_foresee_91 : decode cX0_foresee 91 = .ok (.getfield 63, 3) := by decide +kernel
theorem dX0_foresee_94 : decode cX0_foresee 94 = .ok (.iload_n 3, 1) := by decide +kernel
theorem dX0_foresee_95 : decode cX0_foresee 95 = .ok (.iaload, 1) := by decide +kernel
theorem dX0_foresee_96 : decode cX0_foresee 96 = .ok (.istore 5, 2) := by decide +kernel
theorem dX0_foresee_98 : decode cX0_foresee 98 = .ok (.aload_n 0, 1) := by decide +kernel
theorem dX0_foresee_99 : decode cX0_foresee 99 = .ok (.getfield 21, 3) := by decide +kernel
theorem dX0_foresee_102 : decode cX0_foresee 102 = .ok (.aload_n 0, 1) := by decide +kernel
theorem dX0_foresee_103 : decode cX0_foresee 103 = .ok (.getfield 11, 3) := by decide +kernel
theorem dX0_foresee_106 : decode cX0_foresee 106 = .ok (.iconst 0, 1) := by decide +kernel
theorem dX0_foresee_107 : decode cX0_foresee 107 = .ok (.invokevirtual 180, 3) := by decide +kernel
theorem dX0_foresee_110 : decode cX0_foresee 110 = .ok (.iload 5, 2) := by decide +kernel
theorem dX0_foresee_112 : decode cX0_foresee 112 = .ok (.ireturn, 1) := by decide +kernel
theorem dX1_isName_0 : decode cX1_isName 0 = .ok (.iload_n 0, 1) := by decide +kernel
theorem dX1_isName_1 : decode cX1_isName 1 = .ok (.iconst 0, 1) := by decide +kernel
theorem dX1_isName_2 : decode cX1_isName 2 = .ok (.bipush 8, 2) := by decide +kernel
theorem dX1_isName_4 : decode cX1_isName 4 = .ok (.invokestatic 9, 3) := by decide +kernel
theorem dX1_isName_7 : decode cX1_isName 7 = .ok (.ireturn, 1) := by decide +kernel
theorem dX1_isNameOf_0 : decode cX1_isNameOf 0 = .ok (.iload_n 0, 1) := by decide +kernel
theorem dX1_isNameOf_1 : decode cX1_isNameOf 1 = .ok (.iconst 0, 1) := by decide +kernel
theorem dX1_isNameOf_2 : decode cX1_isNameOf 2 = .ok (.iconst 4, 1) := by decide +kernel
theorem dX1_isNameOf_3 : decode cX1_isNameOf 3 = .ok (.invokestatic 9, 3) := by decide +kernel
theorem dX1_isNameOf_6 : decode cX1_isNameOf 6 = .ok (.ifCond .ne 28, 3) := by decide +kernel
theorem dX1_isNameOf_9 : decode cX1_isNameOf 9 = .ok (.iload_n 1, 1) := by decide +kernel
theorem dX1_isNameOf_10 : decode cX1_isNameOf 10 = .ok (.bipush 9, 2) := by decide +kernel
theorem dX1_isNameOf_12 : decode cX1_isNameOf 12 = .ok (.if_icmp .ne 16, 3) := by decide +kernel
theorem dX1_isNameOf_15 : decode cX1_isNameOf 15 = .ok (.iload_n 0, 1) := by decide +kernel
theorem dX1_isNameOf_16 : decode cX1_isNameOf 16 = .ok (.iconst 5, 1) := by decide +kernel
theorem dX1_isNameOf_17 : decode cX1_isNameOf 17 = .ok (.bipush 7, 2) := by decide +kernel
theorem dX1_isNameOf_19 : decode cX1_isNameOf 19 = .ok (.invokestatic 9, 3) := by decide +kernel
theorem dX1_isNameOf_22 : decode cX1_isNameOf 22 = .ok (.ifCond .eq 16, 3) := by decide +kernel
theorem dX1_isNameOf_25 : decode cX1_isNameOf 25 = .ok (.goto 9, 3) := by decide +kernel
theorem dX1_isNameOf_28 : decode cX1_isNameOf 28 = .ok (.iload_n 0, 1) := by decide +kernel
theorem dX1_isNameOf_29 : decode cX1_isNameOf 29 = .ok (.bipush 8, 2) := by decide +kernel
theorem dX1_isNameOf_31 : decode cX1_isNameOf 31 = .ok (.if_icmp .ne 7, 3) := by decide +kernel
theorem dX1_isNameOf_34 : decode cX1_isNameOf 34 = .ok (.iconst 1, 1) := by decide +kernel
theorem dX1_isNameOf_35 : decode cX1_isNameOf 35 = .ok (.goto 4, 3) := by decide +kernel
theorem dX1_isNameOf_38 : decode cX1_isNameOf 38 = .ok (.iconst 0, 1) := by decide +kernel
theorem dX1_isNameOf_39 : decode cX1_isNameOf 39 = .ok (.ireturn, 1) := by decide +kernel
theorem dX1_isAsking_0 : decode cX1_isAsking 0 = .ok (.iload_n 0, 1) := by decide +kernel
theorem dX1_isAsking_1 : decode cX1_isAsking 1 = .ok (.bipush 28, 2) := by decide +kernel
theorem dX1_isAsking_3 : decode cX1_isAsking 3 = .ok (.bipush 31, 2) := by decide +kernel
theorem dX1_isAsking_5 : decode cX1_isAsking 5 = .ok (.invokestatic 9, 3) := by decide +kernel
theorem dX1_isAsking_8 : decode cX1_isAsking 8 = .ok (.ifCond .ne 14, 3) := by decide +kernel
theorem dX1_isAsking_11 : decode cX1_isAsking 11 = .ok (.iload_n 0, 1) := by decide +kernel
theorem dX1_isAsking_12 : decode cX1_isAsking 12 = .ok (.bipush 39, 2) := by decide +kernel
theorem dX1_isAsking_14 : decode cX1_isAsking 14 = .ok (.bipush 40, 2) := by decide +kernel
theorem dX1_isAsking_16 : decode cX1_isAsking 16 = .ok (.invokestatic 9, 3) := by decide +kernel
theorem dX1_isAsking_19 : decode cX1_isAsking 19 = .ok (.ifCond .eq 7, 3) := by decide +kernel
theorem dX1_isAsking_22 : decode cX1_isAsking 22 = .ok (.iconst 1, 1) := by decide +kernel
theorem dX1_isAsking_23 : decode cX1_isAsking 23 = .ok (.goto 4, 3) := by decide +kernel
theorem dX1_isAsking_26 : decode cX1_isAsking 26 = .ok (.iconst 0, 1) := by decide +kernel
theorem dX1_isAsking_27 : decode cX1_isAsking 27 = .ok (.ireturn, 1) := by decide +kernel
theorem dX2_init_0 : decode cX2_init 0 = .ok (.aload_n 0, 1) := by decide +kernel
theorem dX2_init_1 : decode cX2_init 1 = .ok (.invokespecial 3, 3) := by decide +kernel
theorem dX2_init_4 : decode cX2_init 4 = .ok (.aload_n 0, 1) := by decide +kernel
theorem dX2_init_5 : decode cX2_init 5 = .ok (.bipush 64, 2) := by decide +kernel
theorem dX2_init_7 : decode cX2_init 7 = .ok (.newarray .int, 2) := by decide +kernel
theorem dX2_init_9 : decode cX2_init 9 = .ok (.putfield 11, 3) := by decide +kernel
theorem dX2_init_12 : decode cX2_init 12 = .ok (.aload_n 0, 1) := by decide +kernel
theorem dX2_init_13 : decode cX2_init 13 = .ok (.aload_n 1, 1) := by decide +kernel
theorem dX2_init_14 : decode cX2_init 14 = .ok (.putfield 15, 3) := by decide +kernel
theorem dX2_init_17 : decode cX2_init 17 = .ok (.aload_n 0, 1) := by decide +kernel
theorem dX2_init_18 : decode cX2_init 18 = .ok (.aload_n 2, 1) := by decide +kernel
theorem dX2_init_19 : decode cX2_init 19 = .ok (.putfield 19, 3) := by decide +kernel
theorem dX2_init_22 : decode cX2_init 22 = .ok (.aload_n 0, 1) := by decide +kernel
theorem dX2_init_23 : decode cX2_init 23 = .ok (.aload_n 3, 1) := by decide +kernel
theorem dX2_init_24 : decode cX2_init 24 = .ok (.putfield 23, 3) := by decide +kernel
theorem dX2_init_27 : decode cX2_init 27 = .ok (.return_, 1) := by decide +kernel
theorem dX2_sucking_0 : decode cX2_sucking 0 = .ok (.aload_n 0, 1) := by decide +kernel
theorem dX2_sucking_1 : decode cX2_sucking 1 = .ok (.iload_n 1, 1) := by decide +kernel
theorem dX2_sucking_2 : decode cX2_sucking 2 = .ok (.invokevirtual 27, 3) := by decide +kernel
theorem dX2_sucking_5 : decode cX2_sucking 5 = .ok (.astore 4, 2) := by decide +kernel
theorem dX2_sucking_7 : decode cX2_sucking 7 = .ok (.aload 4, 2) := by decide +kernel
theorem dX2_sucking_9 : decode cX2_sucking 9 = .ok (.ifnull 12, 3) := by decide +kernel
theorem dX2_sucking_12 : decode cX2_sucking 12 = .ok (.aload 4, 2) := by decide +kernel
theorem dX2_sucking_14 : decode cX2_sucking 14 = .ok (.getfield 31, 3) := by decide +kernel
theorem dX2_sucking_17 : decode cX2_sucking 17 = .ok (.iconst (-1), 1) := by decide +kernel
theorem dX2_sucking_18 : decode cX2_sucking 18 = .ok (.if_icmp .ne 17, 3) := by decide +kernel
theorem dX2_sucking_21 : decode cX2_sucking 21 = .ok (.iconst 1, 1) := by decide +kernel
theorem dX2_sucking_22 : decode cX2_sucking 22 = .ok (.aload_n 0, 1) := by decide +kernel
theorem dX2_sucking_23 : decode cX2_sucking 23 = .ok (.getfield 15, 3) := by decide +kernel
theorem dX2_sucking_26 : decode cX2_sucking 26 = .ok (.getfield 37, 3) := by decide +kernel
theorem dX2_sucking_29 : decode cX2_sucking 29 = .ok (.iload_n 2, 1) := by decide +kernel
theorem dX2_sucking_30 : decode cX2_sucking 30 = .ok (.iaload, 1) := by decide +kernel
theorem dX2_sucking_31 : decode cX2_sucking 31 = .ok (.iconst 3, 1) := by decide +kernel
theorem dX2_sucking_32 : decode cX2_sucking 32 = .ok (.idiv, 1) := by decide +kernel
theorem dX2_sucking_33 : decode cX2_sucking 33 = .ok (.iadd, 1) := by decide +kernel
theorem dX2_sucking_34 : decode cX2_sucking 34 = .ok (.ireturn, 1) := by decide +kernel
theorem dX2_sucking_35 : decode cX2_sucking 35 = .ok (.iconst 0, 1) := by decide +kernel
theorem dX2_sucking_36 : decode cX2_sucking 36 = .ok (.bipush 99, 2) := by decide +kernel
theorem dX2_sucking_38 : decode cX2_sucking 38 = .ok (.aload_n 0, 1) := by decide +kernel
theorem dX2_sucking_39 : decode cX2_sucking 39 = .ok (.aload 4, 2) := by decide +kernel
theorem dX2_sucking_41 : decode cX2_sucking 41 = .ok (.aload 4, 2) := by decide +kernel
theorem dX2_sucking_43 : decode cX2_sucking 43 = .ok (.getfield 31, 3) := by decide +kernel
theorem dX2_sucking_46 : decode cX2_sucking 46 = .ok (.aload 4, 2) := by decide +kernel
theorem dX2_sucking_48 : decode cX2_sucking 48 = .ok (.getfield 42, 3) := by decide +kernel
theorem dX2_sucking_51 : decode cX2_sucking 51 = .ok (.iload_n 2, 1) := by decide +kernel
theorem dX2_sucking_52 : decode cX2_sucking 52 = .ok (.iload_n 3, 1) := by decide +kernel
theorem dX2_sucking_53 : decode cX2_sucking 53 = .ok (.invokevirtual 45, 3) := by decide +kernel
theorem dX2_sucking_56 : decode cX2_sucking 56 = .ok (.invokestatic 49, 3) := by decide +kernel
theorem dX2_sucking_59 : decode cX2_sucking 59 = .ok (.invokestatic 55, 3) := by decide +kernel
theorem dX2_sucking_62 : decode cX2_sucking 62 = .ok (.ireturn, 1) := by decide +kernel
theorem dX2_swelling_0 : decode cX2_swelling 0 = .ok (.aload_n 0, 1) := by decide +kernel
theorem dX2_swelling_1 : decode cX2_swelling 1 = .ok (.aload_n 0, 1) := by decide +kernel
theorem dX2_swelling_2 : decode cX2_swelling 2 = .ok (.getfield 15, 3) := by decide +kernel
theorem dX2_swelling_5 : decode cX2_swelling 5 = .ok (.getfield 58, 3) := by decide +kernel
theorem dX2_swelling_8 : decode cX2_swelling 8 = .ok (.invokevirtual 27, 3) := by decide +kernel
theorem dX2_swelling_11 : decode cX2_swelling 11 = .ok (.astore_n 2, 1) := by decide +kernel
theorem dX2_swelling_12 : decode cX2_swelling 12 = .ok (.aload_n 2, 1) := by decide +kernel
theorem dX2_swelling_13 : decode cX2_swelling 13 = .ok (.ifnull 11, 3) := by decide +kernel
theorem dX2_swelling_16 : decode cX2_swelling 16 = .ok (.aload_n 2, 1) := by decide +kernel
theorem dX2_swelling_17 : decode cX2_swelling 17 = .ok (.getfield 61, 3) := by decide +kernel
theorem dX2_swelling_20 : decode cX2_swelling 20 = .ok (.iconst (-1), 1) := by decide +kernel
theorem dX2_swelling_21 : decode cX2_swelling 21 = .ok (.if_icmp .ne 11, 3) := by decide +kernel
theorem dX2_swelling_24 : decode cX2_swelling 24 = .ok (.aload_n 0, 1) := by decide +kernel
theorem dX2_swelling_25 : decode cX2_swelling 25 = .ok (.getfield 19, 3) := by decide +kernel
theorem dX2_swelling_28 : decode cX2_swelling 28 = .ok (.getfield 64, 3) := by decide +kernel
theorem dX2_swelling_31 : decode cX2_swelling 31 = .ok (.ireturn, 1) := by decide +kernel
theorem dX2_swelling_32 : decode cX2_swelling 32 = .ok (.iconst 0, 1) := by decide +kernel
theorem dX2_swelling_33 : decode cX2_swelling 33 = .ok (.bipush 9, 2) := by decide +kernel
theorem dX2_swelling_35 : decode cX2_swelling 35 = .ok (.aload_n 0, 1) := by decide +kernel
theorem dX2_swelling_36 : decode cX2_swelling 36 = .ok (.aload_n 2, 1) := by decide +kernel
theorem dX2_swelling_37 : decode cX2_swelling 37 = .ok (.aload_n 2, 1) := by decide +kernel
theorem dX2_swelling_38 : decode cX2_swelling 38 = .ok (.getfield 61, 3) := by decide +kernel
theorem dX2_swelling_41 : decode cX2_swelling 41 = .ok (.aload_n 2, 1) := by decide +kernel
theorem dX2_swelling_42 : decode cX2_swelling 42 = .ok (.getfield 69, 3) := by decide +kernel
theorem dX2_swelling_45 : decode cX2_swelling 45 = .ok (.iconst (-1), 1) := by decide +kernel
theorem dX2_swelling_46 : decode cX2_swelling 46 = .ok (.iload_n 1, 1) := by decide +kernel
theorem dX2_swelling_47 : decode cX2_swelling 47 = .ok (.invokevirtual 45, 3) := by decide +kernel
theorem dX2_swelling_50 : decode cX2_swelling 50 = .ok (.invokestatic 49, 3) := by decide +kernel
theorem dX2_swelling_53 : decode cX2_swelling 53 = .ok (.invokestatic 55, 3) := by decide +kernel
theorem dX2_swelling_56 : decode cX2_swelling 56 = .ok (.ireturn, 1) := by decide +kernel
theorem dX2_agrees_0 : decode cX2_agrees 0 = .ok (.iconst 0, 1) := by decide +kernel
theorem dX2_agrees_1 : decode cX2_agrees 1 = .ok (.istore_n 2, 1) := by decide +kernel
theorem dX2_agrees_2 : decode cX2_agrees 2 = .ok (.iload_n 2, 1) := by decide +kernel
theorem dX2_agrees_3 : decode cX2_agrees 3 = .ok (.aload_n 0, 1) := by decide +kernel
theorem dX2_agrees_4 : decode cX2_agrees 4 = .ok (.getfield 15, 3) := by decide +kernel
theorem dX2_agrees_7 : decode cX2_agrees 7 = .ok (.getfield 72, 3) := by decide +kernel
theorem dX2_agrees_10 : decode cX2_agrees 10 = .ok (.if_icmp .ge 46, 3) := by decide +kernel
theorem dX2_agrees_13 : decode cX2_agrees 13 = .ok (.aload_n 0, 1) := by decide +kernel
theorem dX2_agrees_14 : decode cX2_agrees 14 = .ok (.iload_n 1, 1) := by decide +kernel
theorem dX2_agrees_15 : decode cX2_agrees 15 = .ok (.aload_n 0, 1) := by decide +kernel
theorem dX2_agrees_16 : decode cX2_agrees 16 = .ok (.getfield 15, 3) := by decide +kernel
theorem dX2_agrees_19 : decode cX2_agrees 19 = .ok (.getfield 75, 3) := by decide +kernel
theorem dX2_agrees_22 : decode cX2_agrees 22 = .ok (.iload_n 2, 1) := by decide +kernel
theorem dX2_agrees_23 : decode cX2_agrees 23 = .ok (.iaload, 1) := by decide +kernel
theorem dX2_agrees_24 : decode cX2_agrees 24 = .ok (.aload_n 0, 1) := by decide +kernel
theorem dX2_agrees_25 : decode cX2_agrees 25 = .ok (.getfield 15, 3) := by decide +kernel
theorem dX2_agrees_28 : decode cX2_agrees 28 = .ok (.getfield 78, 3) := by decide +kernel
theorem dX2_agrees_31 : decode cX2_agrees 31 = .ok (.iload_n 2, 1) := by decide +kernel
theorem dX2_agrees_32 : decode cX2_agrees 32 = .ok (.iaload, 1) := by decide +kernel
theorem dX2_agrees_33 : decode cX2_agrees 33 = .ok (.invokevirtual 81, 3) := by decide +kernel
theorem dX2_agrees_36 : decode cX2_agrees 36 = .ok (.aload_n 0, 1) := by decide +kernel
theorem dX2_agrees_37 : decode cX2_agrees 37 = .ok (.getfield 15, 3) := by decide +kernel
theorem dX2_agrees_40 : decode cX2_agrees 40 = .ok (.getfield 85, 3) := by decide +kernel
theorem dX2_agrees_43 : decode cX2_agrees 43 = .ok (.iload_n 2, 1) := by decide +kernel
theorem dX2_agrees_44 : decode cX2_agrees 44 = .ok (.iaload, 1) := by decide +kernel
theorem dX2_agrees_45 : decode cX2_agrees 45 = .ok (.if_icmp .eq 5, 3) := by decide +kernel
theorem dX2_agrees_48 : decode cX2_agrees 48 = .ok (.iconst 0, 1) := by decide +kernel
theorem dX2_agrees_49 : decode cX2_agrees 49 = .ok (.ireturn, 1) := by decide +kernel
theorem dX2_agrees_50 : decode cX2_agrees 50 = .ok (.iinc 2 1, 3) := by decide +kernel
theorem dX2_agrees_53 : decode cX2_agrees 53 = .ok (.goto (-51), 3) := by decide +kernel
theorem dX2_agrees_56 : decode cX2_agrees 56 = .ok (.iconst 1, 1) := by decide +kernel
theorem dX2_agrees_57 : decode cX2_agrees 57 = .ok (.ireturn, 1) := by decide +kernel
theorem dX2_lawOf_0 : decode cX2_lawOf 0 = .ok (.iload_n 1, 1) := by decide +kernel
theorem dX2_lawOf_1 : decode cX2_lawOf 1 = .ok (.iconst 0, 1) := by decide +kernel
theorem dX2_lawOf_2 : decode cX2_lawOf 2 = .ok (.aload_n 0, 1) := by decide +kernel
theorem dX2_lawOf_3 : decode cX2_lawOf 3 = .ok (.getfield 23, 3) := by decide +kernel
theorem dX2_lawOf_6 : decode cX2_lawOf 6 = .ok (.arraylength, 1) := by decide +kernel
theorem dX2_lawOf_7 : decode cX2_lawOf 7 = .ok (.iconst 1, 1) := by decide +kernel
theorem dX2_lawOf_8 : decode cX2_lawOf 8 = .ok (.isub, 1) := by decide +kernel
theorem dX2_lawOf_9 : decode cX2_lawOf 9 = .ok (.invokestatic 88, 3) := by decide +kernel
theorem dX2_lawOf_12 : decode cX2_lawOf 12 = .ok (.ifCond .eq 12, 3) := by decide +kernel
theorem dX2_lawOf_15 : decode cX2_lawOf 15 = .ok (.aload_n 0, 1) := by decide +kernel
theorem dX2_lawOf_16 : decode cX2_lawOf 16 = .ok (.getfield 23, 3) := by decide +kernel
theorem dX2_lawOf_19 : decode cX2_lawOf 19 = .ok (.iload_n 1, 1) := by decide +kernel
theorem dX2_lawOf_20 : decode cX2_lawOf 20 = .ok (.aaload, 1) := by decide +kernel
theorem dX2_lawOf_21 : decode cX2_lawOf 21 = .ok (.goto 4, 3) := by decide +kernel
theorem dX2_lawOf_24 : decode cX2_lawOf 24 = .ok (.aconst_null, 1) := by decide +kernel
theorem dX2_lawOf_25 : decode cX2_lawOf 25 = .ok (.areturn, 1) := by decide +kernel
theorem dX2_value_0 : decode cX2_value 0 = .ok (.iconst 0, 1) := by decide +kernel
theorem dX2_value_1 : decode cX2_value 1 = .ok (.istore 6, 2) := by decide +kernel
theorem dX2_value_3 : decode cX2_value 3 = .ok (.iload_n 2, 1) := by decide +kernel
theorem dX2_value_4 : decode cX2_value 4 = .ok (.istore 7, 2) := by decide +kernel
theorem dX2_value_6 : decode cX2_value 6 = .ok (.iload 7, 2) := by decide +kernel
theorem dX2_value_8 : decode cX2_value 8 = .ok (.iload_n 3, 1) := by decide +kernel
theorem dX2_value_9 : decode cX2_value 9 = .ok (.if_icmp .ge 239, 3) := by decide +kernel
theorem dX2_value_12 : decode cX2_value 12 = .ok (.aload_n 1, 1) := by decide +kernel
theorem dX2_value_13 : decode cX2_value 13 = .ok (.getfield 92, 3) := by decide +kernel
theorem dX2_value_16 : decode cX2_value 16 = .ok (.iload 7, 2) := by decide +kernel
theorem dX2_value_18 : decode cX2_value 18 = .ok (.iaload, 1) := by decide +kernel
theorem dX2_value_19 : decode cX2_value 19 = .ok (.istore 8, 2) := by decide +kernel
theorem dX2_value_21 : decode cX2_value 21 = .ok (.aload_n 1, 1) := by decide +kernel
theorem dX2_value_22 : decode cX2_value 22 = .ok (.getfield 95, 3) := by decide +kernel
theorem dX2_value_25 : decode cX2_value 25 = .ok (.iload 7, 2) := by decide +kernel
theorem dX2_value_27 : decode cX2_value 27 = .ok (.iaload, 1) := by decide +kernel
theorem dX2_value_28 : decode cX2_value 28 = .ok (.istore 9, 2) := by decide +kernel
theorem dX2_value_30 : decode cX2_value 30 = .ok (.iload 8, 2) := by decide +kernel
theorem dX2_value_32 : decode cX2_value 32 = .ok (.bipush 23, 2) := by decide +kernel
theorem dX2_value_34 : decode cX2_value 34 = .ok (.if_icmp .ne 15, 3) := by decide +kernel
theorem dX2_value_37 : decode cX2_value 37 = .ok (.iload 7, 2) := by decide +kernel
theorem dX2_value_39 : decode cX2_value 39 = .ok (.iload 9, 2) := by decide +kernel
theorem dX2_value_41 : decode cX2_value 41 = .ok (.invokestatic 55, 3) := by decide +kernel
theorem dX2_value_44 : decode cX2_value 44 = .ok (.istore 7, 2) := by decide +kernel
theorem dX2_value_46 : decode cX2_value 46 = .ok (.goto 196, 3) := by decide +kernel
theorem dX2_value_49 : decode cX2_value 49 = .ok (.iload 8, 2) := by decide +kernel
theorem dX2_value_51 : decode cX2_value 51 = .ok (.bipush 41, 2) := by decide +kernel
theorem dX2_value_53 : decode cX2_value 53 = .ok (.if_icmp .eq 10, 3) := by decide +kernel
theorem dX2_value_56 : decode cX2_value 56 = .ok (.iload 8, 2) := by decide +kernel
theorem dX2_value_58 : decode cX2_value 58 = .ok (.bipush 8, 2) := by decide +kernel
theorem dX2_value_60 : decode cX2_value 60 = .ok (.if_icmp .gt 45, 3) := by decide +kernel
theorem dX2_value_63 : decode cX2_value 63 = .ok (.iload 6, 2) := by decide +kernel
theorem dX2_value_65 : decode cX2_value 65 = .ok (.bipush 64, 2) := by decide +kernel
theorem dX2_value_67 : decode cX2_value 67 = .ok (.if_icmp .ge 175, 3) := by decide +kernel
theorem dX2_value_70 : decode cX2_value 70 = .ok (.aload_n 0, 1) := by decide +kernel
theorem dX2_value_71 : decode cX2_value 71 = .ok (.getfield 11, 3) := by decide +kernel
theorem dX2_value_74 : decode cX2_value 74 = .ok (.iload 6, 2) := by decide +kernel
theorem dX2_value_76 : decode cX2_value 76 = .ok (.iload 8, 2) := by decide +kernel
theorem dX2_value_78 : decode cX2_value 78 = .ok (.bipush 41, 2) := by decide +kernel
theorem dX2_value_80 : decode cX2_value 80 = .ok (.if_icmp .ne 8, 3) := by decide +kernel
theorem dX2_value_83 : decode cX2_value 83 = .ok (.iload 9, 2) := by decide +kernel
theorem dX2_value_85 : decode cX2_value 85 = .ok (.goto 13, 3) := by decide +kernel
theorem dX2_value_88 : decode cX2_value 88 = .ok (.aload_n 0, 1) := by decide +kernel
theorem dX2_value_89 : decode cX2_value 89 = .ok (.iload 8, 2) := by decide +kernel
theorem dX2_value_91 : decode cX2_value 91 = .ok (.iload 4, 2) := by decide +kernel
theorem dX2_value_93 : decode cX2_value 93 = .ok (.iload 5, 2) := by decide +kernel
theorem dX2_value_95 : decode cX2_value 95 = .ok (.invokevirtual 100, 3) := by decide +kernel
theorem dX2_value_98 : decode cX2_value 98 = .ok (.iastore, 1) := by decide +kernel
theorem dX2_value_99 : decode cX2_value 99 = .ok (.iinc 6 1, 3) := by decide +kernel
theorem dX2_value_102 : decode cX2_value 102 = .ok (.goto 140, 3) := by decide +kernel
theorem dX2_value_105 : decode cX2_value 105 = .ok (.iload 8, 2) := by decide +kernel
theorem dX2_value_107 : decode cX2_value 107 = .ok (.bipush 22, 2) := by decide +kernel
theorem dX2_value_109 : decode cX2_value 109 = .ok (.if_icmp .ne 40, 3) := by decide +kernel
theorem dX2_value_112 : decode cX2_value 112 = .ok (.iconst 0, 1) := by decide +kernel
theorem dX2_value_113 : decode cX2_value 113 = .ok (.iload 6, 2) := by decide +kernel
theorem dX2_value_115 : decode cX2_value 115 = .ok (.iconst 1, 1) := by decide +kernel
theorem dX2_value_116 : decode cX2_value 116 = .ok (.isub, 1) := by decide +kernel
theorem dX2_value_117 : decode cX2_value 117 = .ok (.invokestatic 55, 3) := by decide +kernel
theorem dX2_value_120 : decode cX2_value 120 = .ok (.istore 6, 2) := by decide +kernel
theorem dX2_value_122 : decode cX2_value 122 = .ok (.aload_n 0, 1) := by decide +kernel
theorem dX2_value_123 : decode cX2_value 123 = .ok (.getfield 11, 3) := by decide +kernel
theorem dX2_value_126 : decode cX2_value 126 = .ok (.iload 6, 2) := by decide +kernel
theorem dX2_value_128 : decode cX2_value 128 = .ok (.iaload, 1) := by decide +kernel
theorem dX2_value_129 : decode cX2_value 129 = .ok (.ifCond .ne 13, 3) := by decide +kernel
theorem dX2_value_132 : decode cX2_value 132 = .ok (.iload 7, 2) := by decide +kernel
theorem dX2_value_134 : decode cX2_value 134 = .ok (.iload 9, 2) := by decide +kernel
theorem dX2_value_136 : decode cX2_value 136 = .ok (.invokestatic 55, 3) := by decide +kernel
theorem dX2_value_139 : decode cX2_value 139 = .ok (.goto 5, 3) := by decide +kernel
theorem dX2_value_142 : decode cX2_value 142 = .ok (.iload 7, 2) := by decide +kernel
theorem dX2_value_144 : decode cX2_value 144 = .ok (.istore 7, 2) := by decide +kernel
theorem dX2_value_146 : decode cX2_value 146 = .ok (.goto 96, 3) := by decide +kernel
theorem dX2_value_149 : decode cX2_value 149 = .ok (.iload 8, 2) := by decide +kernel
theorem dX2_value_151 : decode cX2_value 151 = .ok (.bipush 44, 2) := by decide +kernel
theorem dX2_value_153 : decode cX2_value 153 = .ok (.if_icmp .eq 17, 3) := by decide +kernel
theorem dX2_value_156 : decode cX2_value 156 = .ok (.iload 8, 2) := by decide +kernel
theorem dX2_value_158 : decode cX2_value 158 = .ok (.bipush 27, 2) := by decide +kernel
theorem dX2_value_160 : decode cX2_value 160 = .ok (.if_icmp .eq 10, 3) := by decide +kernel
theorem dX2_value_163 : decode cX2_value 163 = .ok (.iload 8, 2) := by decide +kernel
theorem dX2_value_165 : decode cX2_value 165 = .ok (.bipush 20, 2) := by decide +kernel
theorem dX2_value_167 : decode cX2_value 167 = .ok (.if_icmp .ne 36, 3) := by decide +kernel
theorem dX2_value_170 : decode cX2_value 170 = .ok (.iconst 0, 1) := by decide +kernel
theorem dX2_value_171 : decode cX2_value 171 = .ok (.iload 6, 2) := by decide +kernel
theorem dX2_value_173 : decode cX2_value 173 = .ok (.iconst 1, 1) := by decide +kernel
theorem dX2_value_174 : decode cX2_value 174 = .ok (.isub, 1) := by decide +kernel
theorem dX2_value_175 : decode cX2_value 175 = .ok (.invokestatic 55, 3) := by decide +kernel
theorem dX2_value_178 : decode cX2_value 178 = .ok (.istore 10, 2) := by decide +kernel
theorem dX2_value_180 : decode cX2_value 180 = .ok (.aload_n 0, 1) := by decide +kernel
theorem dX2_value_181 : decode cX2_value 181 = .ok (.getfield 11, 3) := by decide +kernel
theorem dX2_value_184 : decode cX2_value 184 = .ok (.iload 10, 2) := by decide +kernel
theorem dX2_value_186 : decode cX2_value 186 = .ok (.aload_n 0, 1) := by decide +kernel
theorem dX2_value_187 : decode cX2_value 187 = .ok (.iload 8, 2) := by decide +kernel
theorem dX2_value_189 : decode cX2_value 189 = .ok (.aload_n 0, 1) := by decide +kernel
theorem dX2_value_190 : decode cX2_value 190 = .ok (.getfield 11, 3) := by decide +kernel
theorem dX2_value_193 : decode cX2_value 193 = .ok (.iload 10, 2) := by decide +kernel
theorem dX2_value_195 : decode cX2_value 195 = .ok (.iaload, 1) := by decide +kernel
theorem dX2_value_196 : decode cX2_value 196 = .ok (.invokevirtual 103, 3) := by decide +kernel
theorem dX2_value_199 : decode cX2_value 199 = .ok (.iastore, 1) := by decide +kernel
theorem dX2_value_200 : decode cX2_value 200 = .ok (.goto 42, 3) := by decide +kernel
theorem dX2_value_203 : decode cX2_value 203 = .ok (.iload 6, 2) := by decide +kernel
theorem dX2_value_205 : decode cX2_value 205 = .ok (.iconst 1, 1) := by decide +kernel
theorem dX2_value_206 : decode cX2_value 206 = .ok (.if_icmp .le 36, 3) := by decide +kernel
theorem dX2_value_209 : decode cX2_value 209 = .ok (.iinc 6 (-1), 3) := by decide +kernel
theorem dX2_value_212 : decode cX2_value 212 = .ok (.aload_n 0, 1) := by decide +kernel
theorem dX2_value_213 : decode cX2_value 213 = .ok (.getfield 11, 3) := by decide +kernel
theorem dX2_value_216 : decode cX2_value 216 = .ok (.iload 6, 2) := by decide +kernel
theorem dX2_value_218 : decode cX2_value 218 = .ok (.iconst 1, 1) := by decide +kernel
theorem dX2_value_219 : decode cX2_value 219 = .ok (.isub, 1) := by decide +kernel
theorem dX2_value_220 : decode cX2_value 220 = .ok (.iload 8, 2) := by decide +kernel
theorem dX2_value_222 : decode cX2_value 222 = .ok (.aload_n 0, 1) := by decide +kernel
theorem dX2_value_223 : decode cX2_value 223 = .ok (.getfield 11, 3) := by decide +kernel
theorem dX2_value_226 : decode cX2_value 226 = .ok (.iload 6, 2) := by decide +kernel
theorem dX2_value_228 : decode cX2_value 228 = .ok (.iconst 1, 1) := by decide +kernel
theorem dX2_value_229 : decode cX2_value 229 = .ok (.isub, 1) := by decide +kernel
theorem dX2_value_230 : decode cX2_value 230 = .ok (.iaload, 1) := by decide +kernel
theorem dX2_value_231 : decode cX2_value 231 = .ok (.aload_n 0, 1) := by decide +kernel
theorem dX2_value_232 : decode cX2_value 232 = .ok (.getfield 11, 3) := by decide +kernel
theorem dX2_value_235 : decode cX2_value 235 = .ok (.iload 6, 2) := by decide +kernel
theorem dX2_value_237 : decode cX2_value 237 = .ok (.iaload, 1) := by decide +kernel
theorem dX2_value_238 : decode cX2_value 238 = .ok (.invokestatic 106, 3) := by decide +kernel
theorem dX2_value_241 : decode cX2_value 241 = .ok (.iastore, 1) := by decide +kernel
theorem dX2_value_242 : decode cX2_value 242 = .ok (.iinc 7 1, 3) := by decide +kernel
theorem dX2_value_245 : decode cX2_value 245 = .ok (.goto (-239), 3) := by decide +kernel
theorem dX2_value_248 : decode cX2_value 248 = .ok (.aload_n 0, 1) := by decide +kernel
theorem dX2_value_249 : decode cX2_value 249 = .ok (.getfield 11, 3) := by decide +kernel
theorem dX2_value_252 : decode cX2_value 252 = .ok (.iconst 0, 1) := by decide +kernel
theorem dX2_value_253 : decode cX2_value 253 = .ok (.iaload, 1) := by decide +kernel
theorem dX2_value_254 : decode cX2_value 254 = .ok (.ireturn, 1) := by decide +kernel
theorem dX2_named_0 : decode cX2_named 0 = .ok (.iload_n 1, 1) := by decide +kernel
theorem dX2_named_1 : decode cX2_named 1 = .ok (.tableswitch 99 0 8 #[51, 59, 67, 69, 79, 99, 99, 99, 89], 51) := by decide +kernel
theorem dX2_named_52 : decode cX2_named 52 = .ok (.aload_n 0, 1) := by decide +kernel
theorem dX2_named_53 : decode cX2_named 53 = .ok (.getfield 19, 3) := by decide +kernel
theorem dX2_named_56 : decode cX2_named 56 = .ok (.getfield 109, 3) := by decide +kernel
theorem dX2_named_59 : decode cX2_named 59 = .ok (.ireturn, 1) := by decide +kernel
theorem dX2_named_60 : decode cX2_named 60 = .ok (.aload_n 0, 1) := by decide +kernel
theorem dX2_named_61 : decode cX2_named 61 = .ok (.getfield 19, 3) := by decide +kernel
theorem dX2_named_64 : decode cX2_named 64 = .ok (.getfield 64, 3) := by decide +kernel
theorem dX2_named_67 : decode cX2_named 67 = .ok (.ireturn, 1) := by decide +kernel
theorem dX2_named_68 : decode cX2_named 68 = .ok (.iload_n 3, 1) := by decide +kernel
theorem dX2_named_69 : decode cX2_named 69 = .ok (.ireturn, 1) := by decide +kernel
theorem dX2_named_70 : decode cX2_named 70 = .ok (.aload_n 0, 1) := by decide +kernel
theorem dX2_named_71 : decode cX2_named 71 = .ok (.getfield 15, 3) := by decide +kernel
theorem dX2_named_74 : decode cX2_named 74 = .ok (.getfield 112, 3) := by decide +kernel
theorem dX2_named_77 : decode cX2_named 77 = .ok (.iload_n 3, 1) := by decide +kernel
theorem dX2_named_78 : decode cX2_named 78 = .ok (.iaload, 1) := by decide +kernel
theorem dX2_named_79 : decode cX2_named 79 = .ok (.ireturn, 1) := by decide +kernel
theorem dX2_named_80 : decode cX2_named 80 = .ok (.aload_n 0, 1) := by decide +kernel
theorem dX2_named_81 : decode cX2_named 81 = .ok (.getfield 19, 3) := by decide +kernel
theorem dX2_named_84 : decode cX2_named 84 = .ok (.getfield 115, 3) := by decide +kernel
theorem dX2_named_87 : decode cX2_named 87 = .ok (.iload_n 3, 1) := by decide +kernel
theorem dX2_named_88 : decode cX2_named 88 = .ok (.iaload, 1) := by decide +kernel
theorem dX2_named_89 : decode cX2_named 89 = .ok (.ireturn, 1) := by decide +kernel
theorem dX2_named_90 : decode cX2_named 90 = .ok (.aload_n 0, 1) := by decide +kernel
theorem dX2_named_91 : decode cX2_named 91 = .ok (.getfield 15, 3) := by decide +kernel
theorem dX2_named_94 : decode cX2_named 94 = .ok (.getfield 118, 3) := by decide +kernel
theorem dX2_named_97 : decode cX2_named 97 = .ok (.iload_n 3, 1) := by decide +kernel
theorem dX2_named_98 : decode cX2_named 98 = .ok (.iaload, 1) := by decide +kernel
theorem dX2_named_99 : decode cX2_named 99 = .ok (.ireturn, 1) := by decide +kernel
theorem dX2_named_100 : decode cX2_named 100 = .ok (.aload_n 0, 1) := by decide +kernel
theorem dX2_named_101 : decode cX2_named 101 = .ok (.getfield 15, 3) := by decide +kernel
theorem dX2_named_104 : decode cX2_named 104 = .ok (.iload_n 2, 1) := by decide +kernel
theorem dX2_named_105 : decode cX2_named 105 = .ok (.invokevirtual 121, 3) := by decide +kernel
theorem dX2_named_108 : decode cX2_named 108 = .ok (.ifCond .ne 5, 3) := by decide +kernel
theorem dX2_named_111 : decode cX2_named 111 = .ok (.iconst 0, 1) := by decide +kernel
theorem dX2_named_112 : decode cX2_named 112 = .ok (.ireturn, 1) := by decide +kernel
theorem dX2_named_113 : decode cX2_named 113 = .ok (.iload_n 1, 1) := by decide +kernel
theorem dX2_named_114 : decode cX2_named 114 = .ok (.lookupswitch 46 #[(5, 26), (7, 36)], 26) := by decide +kernel
theorem dX2_named_140 : decode cX2_named 140 = .ok (.aload_n 0, 1) := by decide +kernel
theorem dX2_named_141 : decode cX2_named 141 = .ok (.getfield 15, 3) := by decide +kernel
theorem dX2_named_144 : decode cX2_named 144 = .ok (.getfield 37, 3) := by decide +kernel
theorem dX2_named_147 : decode cX2_named 147 = .ok (.iload_n 2, 1) := by decide +kernel
theorem dX2_named_148 : decode cX2_named 148 = .ok (.iaload, 1) := by decide +kernel
theorem dX2_named_149 : decode cX2_named 149 = .ok (.ireturn, 1) := by decide +kernel
theorem dX2_named_150 : decode cX2_named 150 = .ok (.aload_n 0, 1) := by decide +kernel
theorem dX2_named_151 : decode cX2_named 151 = .ok (.getfield 19, 3) := by decide +kernel
theorem dX2_named_154 : decode cX2_named 154 = .ok (.getfield 125, 3) := by decide +kernel
theorem dX2_named_157 : decode cX2_named 157 = .ok (.iload_n 2, 1) := by decide +kernel
theorem dX2_named_158 : decode cX2_named 158 = .ok (.iaload, 1) := by decide +kernel
theorem dX2_named_159 : decode cX2_named 159 = .ok (.ireturn, 1) := by decide +kernel
theorem dX2_named_160 : decode cX2_named 160 = .ok (.iload_n 2, 1) := by decide +kernel
theorem dX2_named_161 : decode cX2_named 161 = .ok (.ireturn, 1) := by decide +kernel
theorem dX2_alone_0 : decode cX2_alone 0 = .ok (.iload_n 1, 1) := by decide +kernel
theorem dX2_alone_1 : decode cX2_alone 1 = .ok (.lookupswitch 34 #[(27, 30), (44, 27)], 27) := by decide +kernel
theorem dX2_alone_28 : decode cX2_alone 28 = .ok (.iload_n 2, 1) := by decide +kernel
theorem dX2_alone_29 : decode cX2_alone 29 = .ok (.ineg, 1) := by decide +kernel
theorem dX2_alone_30 : decode cX2_alone 30 = .ok (.ireturn, 1) := by decide +kernel
theorem dX2_alone_31 : decode cX2_alone 31 = .ok (.iconst 1, 1) := by decide +kernel
theorem dX2_alone_32 : decode cX2_alone 32 = .ok (.iload_n 2, 1) := by decide +kernel
theorem dX2_alone_33 : decode cX2_alone 33 = .ok (.isub, 1) := by decide +kernel
theorem dX2_alone_34 : decode cX2_alone 34 = .ok (.ireturn, 1) := by decide +kernel
theorem dX2_alone_35 : decode cX2_alone 35 = .ok (.aload_n 0, 1) := by decide +kernel
theorem dX2_alone_36 : decode cX2_alone 36 = .ok (.getfield 15, 3) := by decide +kernel
theorem dX2_alone_39 : decode cX2_alone 39 = .ok (.iload_n 2, 1) := by decide +kernel
theorem dX2_alone_40 : decode cX2_alone 40 = .ok (.invokevirtual 128, 3) := by decide +kernel
theorem dX2_alone_43 : decode cX2_alone 43 = .ok (.ifCond .eq 15, 3) := by decide +kernel
theorem dX2_alone_46 : decode cX2_alone 46 = .ok (.aload_n 0, 1) := by decide +kernel
theorem dX2_alone_47 : decode cX2_alone 47 = .ok (.getfield 19, 3) := by decide +kernel
theorem dX2_alone_50 : decode cX2_alone 50 = .ok (.getfield 115, 3) := by decide +kernel
theorem dX2_alone_53 : decode cX2_alone 53 = .ok (.iload_n 2, 1) := by decide +kernel
theorem dX2_alone_54 : decode cX2_alone 54 = .ok (.iaload, 1) := by decide +kernel
theorem dX2_alone_55 : decode cX2_alone 55 = .ok (.goto 4, 3) := by decide +kernel
theorem dX2_alone_58 : decode cX2_alone 58 = .ok (.iconst 0, 1) := by decide +kernel
theorem dX2_alone_59 : decode cX2_alone 59 = .ok (.ireturn, 1) := by decide +kernel
theorem dX2_joined_0 : decode cX2_joined 0 = .ok (.iload_n 0, 1) := by decide +kernel
theorem dX2_joined_1 : decode cX2_joined 1 = .ok (.tableswitch 254 18 40 #[176, 254, 254, 254, 254, 254, 254, 191, 195, 254, 199, 221, 243, 254, 107, 126, 145, 164, 254, 254, 254, 210, 232], 107) := by decide +kernel
theorem dX2_joined_108 : decode cX2_joined 108 = .ok (.ldc2_w 131, 3) := by decide +kernel
theorem dX2_joined_111 : decode cX2_joined 111 = .ok (.ldc2_w 133, 3) := by decide +kernel
theorem dX2_joined_114 : decode cX2_joined 114 = .ok (.iload_n 1, 1) := by decide +kernel
theorem dX2_joined_115 : decode cX2_joined 115 = .ok (.i2l, 1) := by decide +kernel
theorem dX2_joined_116 : decode cX2_joined 116 = .ok (.iload_n 2, 1) := by decide +kernel
theorem dX2_joined_117 : decode cX2_joined 117 = .ok (.i2l, 1) := by decide +kernel
theorem dX2_joined_118 : decode cX2_joined 118 = .ok (.ladd, 1) := by decide +kernel
theorem dX2_joined_119 : decode cX2_joined 119 = .ok (.invokestatic 135, 3) := by decide +kernel
theorem dX2_joined_122 : decode cX2_joined 122 = .ok (.invokestatic 138, 3) := by decide +kernel
theorem dX2_joined_125 : decode cX2_joined 125 = .ok (.l2i, 1) := by decide +kernel
theorem dX2_joined_126 : decode cX2_joined 126 = .ok (.ireturn, 1) := by decide +kernel
theorem dX2_joined_127 : decode cX2_joined 127 = .ok (.ldc2_w 131, 3) := by decide +kernel
theorem dX2_joined_130 : decode cX2_joined 130 = .ok (.ldc2_w 133, 3) := by decide +kernel
theorem dX2_joined_133 : decode cX2_joined 133 = .ok (.iload_n 1, 1) := by decide +kernel
theorem dX2_joined_134 : decode cX2_joined 134 = .ok (.i2l, 1) := by decide +kernel
theorem dX2_joined_135 : decode cX2_joined 135 = .ok (.iload_n 2, 1) := by decide +kernel
theorem dX2_joined_136 : decode cX2_joined 136 = .ok (.i2l, 1) := by decide +kernel
theorem dX2_joined_137 : decode cX2_joined 137 = .ok (.lsub, 1) := by decide +kernel
theorem dX2_joined_138 : decode cX2_joined 138 = .ok (.invokestatic 135, 3) := by decide +kernel
theorem dX2_joined_141 : decode cX2_joined 141 = .ok (.invokestatic 138, 3) := by decide +kernel
theorem dX2_joined_144 : decode cX2_joined 144 = .ok (.l2i, 1) := by decide +kernel
theorem dX2_joined_145 : decode cX2_joined 145 = .ok (.ireturn, 1) := by decide +kernel
theorem dX2_joined_146 : decode cX2_joined 146 = .ok (.ldc2_w 131, 3) := by decide +kernel
theorem dX2_joined_149 : decode cX2_joined 149 = .ok (.ldc2_w 133, 3) := by decide +kernel
theorem dX2_joined_152 : decode cX2_joined 152 = .ok (.iload_n 1, 1) := by decide +kernel
theorem dX2_joined_153 : decode cX2_joined 153 = .ok (.i2l, 1) := by decide +kernel
theorem dX2_joined_154 : decode cX2_joined 154 = .ok (.iload_n 2, 1) := by decide +kernel
theorem dX2_joined_155 : decode cX2_joined 155 = .ok (.i2l, 1) := by decide +kernel
theorem dX2_joined_156 : decode cX2_joined 156 = .ok (.lmul, 1) := by decide +kernel
theorem dX2_joined_157 : decode cX2_joined 157 = .ok (.invokestatic 135, 3) := by decide +kernel
theorem dX2_joined_160 : decode cX2_joined 160 = .ok (.invokestatic 138, 3) := by decide +kernel
theorem dX2_joined_163 : decode cX2_joined 163 = .ok (.l2i, 1) := by decide +kernel
theorem dX2_joined_164 : decode cX2_joined 164 = .ok (.ireturn, 1) := by decide +kernel
theorem dX2_joined_165 : decode cX2_joined 165 = .ok (.iload_n 2, 1) := by decide +kernel
theorem dX2_joined_166 : decode cX2_joined 166 = .ok (.ifCond .ne 7, 3) := by decide +kernel
theorem dX2_joined_169 : decode cX2_joined 169 = .ok (.iconst 0, 1) := by decide +kernel
theorem dX2_joined_170 : decode cX2_joined 170 = .ok (.goto 6, 3) := by decide +kernel
theorem dX2_joined_173 : decode cX2_joined 173 = .ok (.iload_n 1, 1) := by decide +kernel
theorem dX2_joined_174 : decode cX2_joined 174 = .ok (.iload_n 2, 1) := by decide +kernel
theorem dX2_joined_175 : decode cX2_joined 175 = .ok (.idiv, 1) := by decide +kernel
theorem dX2_joined_176 : decode cX2_joined 176 = .ok (.ireturn, 1) := by decide +kernel
theorem dX2_joined_177 : decode cX2_joined 177 = .ok (.iload_n 1, 1) := by decide +kernel
theorem dX2_joined_178 : decode cX2_joined 178 = .ok (.invokestatic 140, 3) := by decide +kernel
theorem dX2_joined_181 : decode cX2_joined 181 = .ok (.i2l, 1) := by decide +kernel
theorem dX2_joined_182 : decode cX2_joined 182 = .ok (.iload_n 2, 1) := by decide +kernel
theorem dX2_joined_183 : decode cX2_joined 183 = .ok (.invokestatic 140, 3) := by decide +kernel
theorem dX2_joined_186 : decode cX2_joined 186 = .ok (.i2l, 1) := by decide +kernel
theorem dX2_joined_187 : decode cX2_joined 187 = .ok (.invokestatic 144, 3) := by decide +kernel
theorem dX2_joined_190 : decode cX2_joined 190 = .ok (.l2i, 1) := by decide +kernel
theorem dX2_joined_191 : decode cX2_joined 191 = .ok (.ireturn, 1) := by decide +kernel
theorem dX2_joined_192 : decode cX2_joined 192 = .ok (.iload_n 1, 1) := by decide +kernel
theorem dX2_joined_193 : decode cX2_joined 193 = .ok (.iload_n 2, 1) := by decide +kernel
theorem dX2_joined_194 : decode cX2_joined 194 = .ok (.ior, 1) := by decide +kernel
theorem dX2_joined_195 : decode cX2_joined 195 = .ok (.ireturn, 1) := by decide +kernel
theorem dX2_joined_196 : decode cX2_joined 196 = .ok (.iload_n 1, 1) := by decide +kernel
theorem dX2_joined_197 : decode cX2_joined 197 = .ok (.iload_n 2, 1) := by decide +kernel
theorem dX2_joined_198 : decode cX2_joined 198 = .ok (.iand, 1) := by decide +kernel
theorem dX2_joined_199 : decode cX2_joined 199 = .ok (.ireturn, 1) := by decide +kernel
theorem dX2_joined_200 : decode cX2_joined 200 = .ok (.iload_n 1, 1) := by decide +kernel
theorem dX2_joined_201 : decode cX2_joined 201 = .ok (.iload_n 2, 1) := by decide +kernel
theorem dX2_joined_202 : decode cX2_joined 202 = .ok (.if_icmp .ge 7, 3) := by decide +kernel
theorem dX2_joined_205 : decode cX2_joined 205 = .ok (.iconst 1, 1) := by decide +kernel
theorem dX2_joined_206 : decode cX2_joined 206 = .ok (.goto 4, 3) := by decide +kernel
theorem dX2_joined_209 : decode cX2_joined 209 = .ok (.iconst 0, 1) := by decide +kernel
theorem dX2_joined_210 : decode cX2_joined 210 = .ok (.ireturn, 1) := by decide +kernel
theorem dX2_joined_211 : decode cX2_joined 211 = .ok (.iload_n 1, 1) := by decide +kernel
theorem dX2_joined_212 : decode cX2_joined 212 = .ok (.iload_n 2, 1) := by decide +kernel
theorem dX2_joined_213 : decode cX2_joined 213 = .ok (.if_icmp .gt 7, 3) := by decide +kernel
theorem dX2_joined_216 : decode cX2_joined 216 = .ok (.iconst 1, 1) := by decide +kernel
theorem dX2_joined_217 : decode cX2_joined 217 = .ok (.goto 4, 3) := by decide +kernel
theorem dX2_joined_220 : decode cX2_joined 220 = .ok (.iconst 0, 1) := by decide +kernel
theorem dX2_joined_221 : decode cX2_joined 221 = .ok (.ireturn, 1) := by decide +kernel
theorem dX2_joined_222 : decode cX2_joined 222 = .ok (.iload_n 1, 1) := by decide +kernel
theorem dX2_joined_223 : decode cX2_joined 223 = .ok (.iload_n 2, 1) := by decide +kernel
theorem dX2_joined_224 : decode cX2_joined 224 = .ok (.if_icmp .le 7, 3) := by decide +kernel
theorem dX2_joined_227 : decode cX2_joined 227 = .ok (.iconst 1, 1) := by decide +kernel
theorem dX2_joined_228 : decode cX2_joined 228 = .ok (.goto 4, 3) := by decide +kernel
theorem dX2_joined_231 : decode cX2_joined 231 = .ok (.iconst 0, 1) := by decide +kernel
theorem dX2_joined_232 : decode cX2_joined 232 = .ok (.ireturn, 1) := by decide +kernel
theorem dX2_joined_233 : decode cX2_joined 233 = .ok (.iload_n 1, 1) := by decide +kernel
theorem dX2_joined_234 : decode cX2_joined 234 = .ok (.iload_n 2, 1) := by decide +kernel
theorem dX2_joined_235 : decode cX2_joined 235 = .ok (.if_icmp .lt 7, 3) := by decide +kernel
theorem dX2_joined_238 : decode cX2_joined 238 = .ok (.iconst 1, 1) := by decide +kernel
theorem dX2_joined_239 : decode cX2_joined 239 = .ok (.goto 4, 3) := by decide +kernel
theorem dX2_joined_242 : decode cX2_joined 242 = .ok (.iconst 0, 1) := by decide +kernel
theorem dX2_joined_243 : decode cX2_joined 243 = .ok (.ireturn, 1) := by decide +kernel
theorem dX2_joined_244 : decode cX2_joined 244 = .ok (.iload_n 1, 1) := by decide +kernel
theorem dX2_joined_245 : decode cX2_joined 245 = .ok (.iload_n 2, 1) := by decide +kernel
theorem dX2_joined_246 : decode cX2_joined 246 = .ok (.if_icmp .ne 7, 3) := by decide +kernel
theorem dX2_joined_249 : decode cX2_joined 249 = .ok (.iconst 1, 1) := by decide +kernel
theorem dX2_joined_250 : decode cX2_joined 250 = .ok (.goto 4, 3) := by decide +kernel
theorem dX2_joined_253 : decode cX2_joined 253 = .ok (.iconst 0, 1) := by decide +kernel
theorem dX2_joined_254 : decode cX2_joined 254 = .ok (.ireturn, 1) := by decide +kernel
theorem dX2_joined_255 : decode cX2_joined 255 = .ok (.iload_n 1, 1) := by decide +kernel
theorem dX2_joined_256 : decode cX2_joined 256 = .ok (.iload_n 2, 1) := by decide +kernel
theorem dX2_joined_257 : decode cX2_joined 257 = .ok (.if_icmp .eq 7, 3) := by decide +kernel
theorem dX2_joined_260 : decode cX2_joined 260 = .ok (.iconst 1, 1) := by decide +kernel
theorem dX2_joined_261 : decode cX2_joined 261 = .ok (.goto 4, 3) := by decide +kernel
theorem dX2_joined_264 : decode cX2_joined 264 = .ok (.iconst 0, 1) := by decide +kernel
theorem dX2_joined_265 : decode cX2_joined 265 = .ok (.ireturn, 1) := by decide +kernel
theorem dX2_commonPart_0 : decode cX2_commonPart 0 = .ok (.lload_n 0, 1) := by decide +kernel
theorem dX2_commonPart_1 : decode cX2_commonPart 1 = .ok (.lstore 4, 2) := by decide +kernel
theorem dX2_commonPart_3 : decode cX2_commonPart 3 = .ok (.lload_n 2, 1) := by decide +kernel
theorem dX2_commonPart_4 : decode cX2_commonPart 4 = .ok (.lstore 6, 2) := by decide +kernel
theorem dX2_commonPart_6 : decode cX2_commonPart 6 = .ok (.iconst 0, 1) := by decide +kernel
theorem dX2_commonPart_7 : decode cX2_commonPart 7 = .ok (.istore 8, 2) := by decide +kernel
theorem dX2_commonPart_9 : decode cX2_commonPart 9 = .ok (.iload 8, 2) := by decide +kernel
theorem dX2_commonPart_11 : decode cX2_commonPart 11 = .ok (.sipush 130, 3) := by decide +kernel
theorem dX2_commonPart_14 : decode cX2_commonPart 14 = .ok (.if_icmp .ge 31, 3) := by decide +kernel
theorem dX2_commonPart_17 : decode cX2_commonPart 17 = .ok (.lload 6, 2) := by decide +kernel
theorem dX2_commonPart_19 : decode cX2_commonPart 19 = .ok (.lconst 0, 1) := by decide +kernel
theorem dX2_commonPart_20 : decode cX2_commonPart 20 = .ok (.lcmp, 1) := by decide +kernel
theorem dX2_commonPart_21 : decode cX2_commonPart 21 = .ok (.ifCond .le 24, 3) := by decide +kernel
theorem dX2_commonPart_24 : decode cX2_commonPart 24 = .ok (.lload 4, 2) := by decide +kernel
theorem dX2_commonPart_26 : decode cX2_commonPart 26 = .ok (.lload 6, 2) := by decide +kernel
theorem dX2_commonPart_28 : decode cX2_commonPart 28 = .ok (.lrem, 1) := by decide +kernel
theorem dX2_commonPart_29 : decode cX2_commonPart 29 = .ok (.lstore 9, 2) := by decide +kernel
theorem dX2_commonPart_31 : decode cX2_commonPart 31 = .ok (.lload 6, 2) := by decide +kernel
theorem dX2_commonPart_33 : decode cX2_commonPart 33 = .ok (.lstore 4, 2) := by decide +kernel
theorem dX2_commonPart_35 : decode cX2_commonPart 35 = .ok (.lload 9, 2) := by decide +kernel
theorem dX2_commonPart_37 : decode cX2_commonPart 37 = .ok (.lstore 6, 2) := by decide +kernel
theorem dX2_commonPart_39 : decode cX2_commonPart 39 = .ok (.iinc 8 1, 3) := by decide +kernel
theorem dX2_commonPart_42 : decode cX2_commonPart 42 = .ok (.goto (-33), 3) := by decide +kernel
theorem dX2_commonPart_45 : decode cX2_commonPart 45 = .ok (.lload 4, 2) := by decide +kernel
theorem dX2_commonPart_47 : decode cX2_commonPart 47 = .ok (.lreturn, 1) := by decide +kernel
theorem dX3_init_0 : decode cX3_init 0 = .ok (.aload_n 0, 1) := by decide +kernel
theorem dX3_init_1 : decode cX3_init 1 = .ok (.invokespecial 3, 3) := by decide +kernel
theorem dX3_init_4 : decode cX3_init 4 = .ok (.aload_n 0, 1) := by decide +kernel
theorem dX3_init_5 : decode cX3_init 5 = .ok (.sipush 600, 3) := by decide +kernel
theorem dX3_init_8 : decode cX3_init 8 = .ok (.newarray .int, 2) := by decide +kernel
theorem dX3_init_10 : decode cX3_init 10 = .ok (.putfield 11, 3) := by decide +kernel
theorem dX3_init_13 : decode cX3_init 13 = .ok (.aload_n 0, 1) := by decide +kernel
theorem dX3_init_14 : decode cX3_init 14 = .ok (.bipush 6, 2) := by decide +kernel
theorem dX3_init_16 : decode cX3_init 16 = .ok (.newarray .int, 2) := by decide +kernel
theorem dX3_init_18 : decode cX3_init 18 = .ok (.putfield 15, 3) := by decide +kernel
theorem dX3_init_21 : decode cX3_init 21 = .ok (.aload_n 0, 1) := by decide +kernel
theorem dX3_init_22 : decode cX3_init 22 = .ok (.bipush 6, 2) := by decide +kernel
theorem dX3_init_24 : decode cX3_init 24 = .ok (.newarray .int, 2) := by decide +kernel
theorem dX3_init_26 : decode cX3_init 26 = .ok (.putfield 18, 3) := by decide +kernel
theorem dX3_init_29 : decode cX3_init 29 = .ok (.aload_n 0, 1) := by decide +kernel
theorem dX3_init_30 : decode cX3_init 30 = .ok (.iconst 0, 1) := by decide +kernel
theorem dX3_init_31 : decode cX3_init 31 = .ok (.putfield 21, 3) := by decide +kernel
theorem dX3_init_34 : decode cX3_init 34 = .ok (.aload_n 0, 1) := by decide +kernel
theorem dX3_init_35 : decode cX3_init 35 = .ok (.bipush 100, 2) := by decide +kernel
theorem dX3_init_37 : decode cX3_init 37 = .ok (.newarray .long, 2) := by decide +kernel
theorem dX3_init_39 : decode cX3_init 39 = .ok (.putfield 25, 3) := by decide +kernel
theorem dX3_init_42 : decode cX3_init 42 = .ok (.aload_n 0, 1) := by decide +kernel
theorem dX3_init_43 : decode cX3_init 43 = .ok (.aload_n 1, 1) := by decide +kernel
theorem dX3_init_44 : decode cX3_init 44 = .ok (.putfield 29, 3) := by decide +kernel
theorem dX3_init_47 : decode cX3_init 47 = .ok (.aload_n 0, 1) := by decide +kernel
theorem dX3_init_48 : decode cX3_init 48 = .ok (.aload_n 2, 1) := by decide +kernel
theorem dX3_init_49 : decode cX3_init 49 = .ok (.putfield 33, 3) := by decide +kernel
theorem dX3_init_52 : decode cX3_init 52 = .ok (.aload_n 0, 1) := by decide +kernel
theorem dX3_init_53 : decode cX3_init 53 = .ok (.aload_n 3, 1) := by decide +kernel
theorem dX3_init_54 : decode cX3_init 54 = .ok (.putfield 37, 3) := by decide +kernel
theorem dX3_init_57 : decode cX3_init 57 = .ok (.return_, 1) := by decide +kernel
theorem dX3_toAndFro_0 : decode cX3_toAndFro 0 = .ok (.aload_n 0, 1) := by decide +kernel
theorem dX3_toAndFro_1 : decode cX3_toAndFro 1 = .ok (.getfield 33, 3) := by decide +kernel
theorem dX3_toAndFro_4 : decode cX3_toAndFro 4 = .ok (.getfield 41, 3) := by decide +kernel
theorem dX3_toAndFro_7 : decode cX3_toAndFro 7 = .ok (.iload_n 2, 1) := by decide +kernel
theorem dX3_toAndFro_8 : decode cX3_toAndFro 8 = .ok (.iaload, 1) := by decide +kernel
theorem dX3_toAndFro_9 : decode cX3_toAndFro 9 = .ok (.istore_n 3, 1) := by decide +kernel
theorem dX3_toAndFro_10 : decode cX3_toAndFro 10 = .ok (.iconst 0, 1) := by decide +kernel
theorem dX3_toAndFro_11 : decode cX3_toAndFro 11 = .ok (.istore 4, 2) := by decide +kernel
theorem dX3_toAndFro_13 : decode cX3_toAndFro 13 = .ok (.aload_n 0, 1) := by decide +kernel
theorem dX3_toAndFro_14 : decode cX3_toAndFro 14 = .ok (.getfield 37, 3) := by decide +kernel
theorem dX3_toAndFro_17 : decode cX3_toAndFro 17 = .ok (.aload_n 0, 1) := by decide +kernel
theorem dX3_toAndFro_18 : decode cX3_toAndFro 18 = .ok (.getfield 29, 3) := by decide +kernel
theorem dX3_toAndFro_21 : decode cX3_toAndFro 21 = .ok (.getfield 46, 3) := by decide +kernel
theorem dX3_toAndFro_24 : decode cX3_toAndFro 24 = .ok (.iload_n 1, 1) := by decide +kernel
theorem dX3_toAndFro_25 : decode cX3_toAndFro 25 = .ok (.iload_n 2, 1) := by decide +kernel
theorem dX3_toAndFro_26 : decode cX3_toAndFro 26 = .ok (.invokevirtual 51, 3) := by decide +kernel
theorem dX3_toAndFro_29 : decode cX3_toAndFro 29 = .ok (.istore 5, 2) := by decide +kernel
theorem dX3_toAndFro_31 : decode cX3_toAndFro 31 = .ok (.iload 4, 2) := by decide +kernel
theorem dX3_toAndFro_33 : decode cX3_toAndFro 33 = .ok (.bipush 99, 2) := by decide +kernel
theorem dX3_toAndFro_35 : decode cX3_toAndFro 35 = .ok (.if_icmp .ge 55, 3) := by decide +kernel
theorem dX3_toAndFro_38 : decode cX3_toAndFro 38 = .ok (.iload 5, 2) := by decide +kernel
theorem dX3_toAndFro_40 : decode cX3_toAndFro 40 = .ok (.aload_n 0, 1) := by decide +kernel
theorem dX3_toAndFro_41 : decode cX3_toAndFro 41 = .ok (.getfield 33, 3) := by decide +kernel
theorem dX3_toAndFro_44 : decode cX3_toAndFro 44 = .ok (.getfield 41, 3) := by decide +kernel
theorem dX3_toAndFro_47 : decode cX3_toAndFro 47 = .ok (.iload_n 2, 1) := by decide +kernel
theorem dX3_toAndFro_48 : decode cX3_toAndFro 48 = .ok (.iaload, 1) := by decide +kernel
theorem dX3_toAndFro_49 : decode cX3_toAndFro 49 = .ok (.if_icmp .gt 41, 3) := by decide +kernel
theorem dX3_toAndFro_52 : decode cX3_toAndFro 52 = .ok (.iinc 4 1, 3) := by decide +kernel
theorem dX3_toAndFro_55 : decode cX3_toAndFro 55 = .ok (.aload_n 0, 1) := by decide +kernel
theorem dX3_toAndFro_56 : decode cX3_toAndFro 56 = .ok (.getfield 33, 3) := by decide +kernel
theorem dX3_toAndFro_59 : decode cX3_toAndFro 59 = .ok (.getfield 41, 3) := by decide +kernel
theorem dX3_toAndFro_62 : decode cX3_toAndFro 62 = .ok (.iload_n 2, 1) := by decide +kernel
theorem dX3_toAndFro_63 : decode cX3_toAndFro 63 = .ok (.dup2, 1) := by decide +kernel
theorem dX3_toAndFro_64 : decode cX3_toAndFro 64 = .ok (.iaload, 1) := by decide +kernel
theorem dX3_toAndFro_65 : decode cX3_toAndFro 65 = .ok (.iload 5, 2) := by decide +kernel
theorem dX3_toAndFro_67 : decode cX3_toAndFro 67 = .ok (.isub, 1) := by decide +kernel
theorem dX3_toAndFro_68 : decode cX3_toAndFro 68 = .ok (.iastore, 1) := by decide +kernel
theorem dX3_toAndFro_69 : decode cX3_toAndFro 69 = .ok (.aload_n 0, 1) := by decide +kernel
theorem dX3_toAndFro_70 : decode cX3_toAndFro 70 = .ok (.getfield 37, 3) := by decide +kernel
theorem dX3_toAndFro_73 : decode cX3_toAndFro 73 = .ok (.aload_n 0, 1) := by decide +kernel
theorem dX3_toAndFro_74 : decode cX3_toAndFro 74 = .ok (.getfield 29, 3) := by decide +kernel
theorem dX3_toAndFro_77 : decode cX3_toAndFro 77 = .ok (.getfield 46, 3) := by decide +kernel
theorem dX3_toAndFro_80 : decode cX3_toAndFro 80 = .ok (.iload_n 1, 1) := by decide +kernel
theorem dX3_toAndFro_81 : decode cX3_toAndFro 81 = .ok (.iload_n 2, 1) := by decide +kernel
theorem dX3_toAndFro_82 : decode cX3_toAndFro 82 = .ok (.invokevirtual 51, 3) := by decide +kernel
theorem dX3_toAndFro_85 : decode cX3_toAndFro 85 = .ok (.istore 5, 2) := by decide +kernel
theorem dX3_toAndFro_87 : decode cX3_toAndFro 87 = .ok (.goto (-56), 3) := by decide +kernel
theorem dX3_toAndFro_90 : decode cX3_toAndFro 90 = .ok (.aload_n 0, 1) := by decide +kernel
theorem dX3_toAndFro_91 : decode cX3_toAndFro 91 = .ok (.getfield 33, 3) := by decide +kernel
theorem dX3_toAndFro_94 : decode cX3_toAndFro 94 = .ok (.getfield 41, 3) := by decide +kernel
theorem dX3_toAndFro_97 : decode cX3_toAndFro 97 = .ok (.iload_n 2, 1) := by decide +kernel
theorem dX3_toAndFro_98 : decode cX3_toAndFro 98 = .ok (.iload_n 3, 1) := by decide +kernel
theorem dX3_toAndFro_99 : decode cX3_toAndFro 99 = .ok (.iastore, 1) := by decide +kernel
theorem dX3_toAndFro_100 : decode cX3_toAndFro 100 = .ok (.iload 4, 2) := by decide +kernel
theorem dX3_toAndFro_102 : decode cX3_toAndFro 102 = .ok (.ireturn, 1) := by decide +kernel
theorem dX3_gather_0 : decode cX3_gather 0 = .ok (.aload_n 0, 1) := by decide +kernel
theorem dX3_gather_1 : decode cX3_gather 1 = .ok (.getfield 11, 3) := by decide +kernel
theorem dX3_gather_4 : decode cX3_gather 4 = .ok (.iconst (-1), 1) := by decide +kernel
theorem dX3_gather_5 : decode cX3_gather 5 = .ok (.invokestatic 57, 3) := by decide +kernel
theorem dX3_gather_8 : decode cX3_gather 8 = .ok (.aload_n 0, 1) := by decide +kernel
theorem dX3_gather_9 : decode cX3_gather 9 = .ok (.iconst 0, 1) := by decide +kernel
theorem dX3_gather_10 : decode cX3_gather 10 = .ok (.putfield 21, 3) := by decide +kernel
theorem dX3_gather_13 : decode cX3_gather 13 = .ok (.aload_n 0, 1) := by decide +kernel
theorem dX3_gather_14 : decode cX3_gather 14 = .ok (.iload_n 1, 1) := by decide +kernel
theorem dX3_gather_15 : decode cX3_gather 15 = .ok (.iconst 0, 1) := by decide +kernel
theorem dX3_gather_16 : decode cX3_gather 16 = .ok (.iconst 0, 1) := by decide +kernel
theorem dX3_gather_17 : decode cX3_gather 17 = .ok (.invokevirtual 63, 3) := by decide +kernel
theorem dX3_gather_20 : decode cX3_gather 20 = .ok (.aload_n 0, 1) := by decide +kernel
theorem dX3_gather_21 : decode cX3_gather 21 = .ok (.getfield 21, 3) := by decide +kernel
theorem dX3_gather_24 : decode cX3_gather 24 = .ok (.ireturn, 1) := by decide +kernel
theorem dX3_follow_0 : decode cX3_follow 0 = .ok (.iload_n 2, 1) := by decide +kernel
theorem dX3_follow_1 : decode cX3_follow 1 = .ok (.aload_n 0, 1) := by decide +kernel
theorem dX3_follow_2 : decode cX3_follow 2 = .ok (.getfield 21, 3) := by decide +kernel
theorem dX3_follow_5 : decode cX3_follow 5 = .ok (.if_icmp .le 22, 3) := by decide +kernel
theorem dX3_follow_8 : decode cX3_follow 8 = .ok (.aload_n 0, 1) := by decide +kernel
theorem dX3_follow_9 : decode cX3_follow 9 = .ok (.iload_n 2, 1) := by decide +kernel
theorem dX3_follow_10 : decode cX3_follow 10 = .ok (.putfield 21, 3) := by decide +kernel
theorem dX3_follow_13 : decode cX3_follow 13 = .ok (.aload_n 0, 1) := by decide +kernel
theorem dX3_follow_14 : decode cX3_follow 14 = .ok (.getfield 15, 3) := by decide +kernel
theorem dX3_follow_17 : decode cX3_follow 17 = .ok (.iconst 0, 1) := by decide +kernel
theorem dX3_follow_18 : decode cX3_follow 18 = .ok (.aload_n 0, 1) := by decide +kernel
theorem dX3_follow_19 : decode cX3_follow 19 = .ok (.getfield 18, 3) := by decide +kernel
theorem dX3_follow_22 : decode cX3_follow 22 = .ok (.iconst 0, 1) := by decide +kernel
theorem dX3_follow_23 : decode cX3_follow 23 = .ok (.iload_n 2, 1) := by decide +kernel
theorem dX3_follow_24 : decode cX3_follow 24 = .ok (.invokestatic 67, 3) := by decide +kernel
theorem dX3_follow_27 : decode cX3_follow 27 = .ok (.iconst 0, 1) := by decide +kernel
theorem dX3_follow_28 : decode cX3_follow 28 = .ok (.istore 4, 2) := by decide +kernel
theorem dX3_follow_30 : decode cX3_follow 30 = .ok (.iload 4, 2) := by decide +kernel
theorem dX3_follow_32 : decode cX3_follow 32 = .ok (.aload_n 0, 1) := by decide +kernel
theorem dX3_follow_33 : decode cX3_follow 33 = .ok (.getfield 29, 3) := by decide +kernel
theorem dX3_follow_36 : decode cX3_follow 36 = .ok (.getfield 73, 3) := by decide +kernel
theorem dX3_follow_39 : decode cX3_follow 39 = .ok (.if_icmp .ge 116, 3) := by decide +kernel
theorem dX3_follow_42 : decode cX3_follow 42 = .ok (.iload_n 2, 1) := by decide +kernel
theorem dX3_follow_43 : decode cX3_follow 43 = .ok (.bipush 6, 2) := by decide +kernel
theorem dX3_follow_45 : decode cX3_follow 45 = .ok (.if_icmp .ge 110, 3) := by decide +kernel
theorem dX3_follow_48 : decode cX3_follow 48 = .ok (.aload_n 0, 1) := by decide +kernel
theorem dX3_follow_49 : decode cX3_follow 49 = .ok (.getfield 21, 3) := by decide +kernel
theorem dX3_follow_52 : decode cX3_follow 52 = .ok (.aload_n 0, 1) := by decide +kernel
theorem dX3_follow_53 : decode cX3_follow 53 = .ok (.getfield 29, 3) := by decide +kernel
theorem dX3_follow_56 : decode cX3_follow 56 = .ok (.getfield 73, 3) := by decide +kernel
theorem dX3_follow_59 : decode cX3_follow 59 = .ok (.if_icmp .ge 96, 3) := by decide +kernel
theorem dX3_follow_62 : decode cX3_follow 62 = .ok (.iload_n 3, 1) := by decide +kernel
theorem dX3_follow_63 : decode cX3_follow 63 = .ok (.iload 4, 2) := by decide +kernel
theorem dX3_follow_65 : decode cX3_follow 65 = .ok (.ishr, 1) := by decide +kernel
theorem dX3_follow_66 : decode cX3_follow 66 = .ok (.iconst 1, 1) := by decide +kernel
theorem dX3_follow_67 : decode cX3_follow 67 = .ok (.iand, 1) := by decide +kernel
theorem dX3_follow_68 : decode cX3_follow 68 = .ok (.ifCond .ne 81, 3) := by decide +kernel
theorem dX3_follow_71 : decode cX3_follow 71 = .ok (.aload_n 0, 1) := by decide +kernel
theorem dX3_follow_72 : decode cX3_follow 72 = .ok (.iload 4, 2) := by decide +kernel
theorem dX3_follow_74 : decode cX3_follow 74 = .ok (.iload_n 1, 1) := by decide +kernel
theorem dX3_follow_75 : decode cX3_follow 75 = .ok (.invokevirtual 76, 3) := by decide +kernel
theorem dX3_follow_78 : decode cX3_follow 78 = .ok (.aload_n 0, 1) := by decide +kernel
theorem dX3_follow_79 : decode cX3_follow 79 = .ok (.getfield 33, 3) := by decide +kernel
theorem dX3_follow_82 : decode cX3_follow 82 = .ok (.getfield 41, 3) := by decide +kernel
theorem dX3_follow_85 : decode cX3_follow 85 = .ok (.iload_n 1, 1) := by decide +kernel
theorem dX3_follow_86 : decode cX3_follow 86 = .ok (.iaload, 1) := by decide +kernel
theorem dX3_follow_87 : decode cX3_follow 87 = .ok (.if_icmp .gt 62, 3) := by decide +kernel
theorem dX3_follow_90 : decode cX3_follow 90 = .ok (.aload_n 0, 1) := by decide +kernel
theorem dX3_follow_91 : decode cX3_follow 91 = .ok (.iload 4, 2) := by decide +kernel
theorem dX3_follow_93 : decode cX3_follow 93 = .ok (.iload_n 1, 1) := by decide +kernel
theorem dX3_follow_94 : decode cX3_follow 94 = .ok (.invokevirtual 76, 3) := by decide +kernel
theorem dX3_follow_97 : decode cX3_follow 97 = .ok (.istore 5, 2) := by decide +kernel
theorem dX3_follow_99 : decode cX3_follow 99 = .ok (.aload_n 0, 1) := by decide +kernel
theorem dX3_follow_100 : decode cX3_follow 100 = .ok (.getfield 15, 3) := by decide +kernel
theorem dX3_follow_103 : decode cX3_follow 103 = .ok (.iload_n 2, 1) := by decide +kernel
theorem dX3_follow_104 : decode cX3_follow 104 = .ok (.iload 4, 2) := by decide +kernel
theorem dX3_follow_106 : decode cX3_follow 106 = .ok (.iastore, 1) := by decide +kernel
theorem dX3_follow_107 : decode cX3_follow 107 = .ok (.aload_n 0, 1) := by decide +kernel
theorem dX3_follow_108 : decode cX3_follow 108 = .ok (.getfield 33, 3) := by decide +kernel
theorem dX3_follow_111 : decode cX3_follow 111 = .ok (.getfield 41, 3) := by decide +kernel
theorem dX3_follow_114 : decode cX3_follow 114 = .ok (.iload_n 1, 1) := by decide +kernel
theorem dX3_follow_115 : decode cX3_follow 115 = .ok (.dup2, 1) := by decide +kernel
theorem dX3_follow_116 : decode cX3_follow 116 = .ok (.iaload, 1) := by decide +kernel
theorem dX3_follow_117 : decode cX3_follow 117 = .ok (.iload 5, 2) := by decide +kernel
theorem dX3_follow_119 : decode cX3_follow 119 = .ok (.isub, 1) := by decide +kernel
theorem dX3_follow_120 : decode cX3_follow 120 = .ok (.iastore, 1) := by decide +kernel
theorem dX3_follow_121 : decode cX3_follow 121 = .ok (.aload_n 0, 1) := by decide +kernel
theorem dX3_follow_122 : decode cX3_follow 122 = .ok (.iload_n 1, 1) := by decide +kernel
theorem dX3_follow_123 : decode cX3_follow 123 = .ok (.iload_n 2, 1) := by decide +kernel
theorem dX3_follow_124 : decode cX3_follow 124 = .ok (.iconst 1, 1) := by decide +kernel
theorem dX3_follow_125 : decode cX3_follow 125 = .ok (.iadd, 1) := by decide +kernel
theorem dX3_follow_126 : decode cX3_follow 126 = .ok (.iload_n 3, 1) := by decide +kernel
theorem dX3_follow_127 : decode cX3_follow 127 = .ok (.iconst 1, 1) := by decide +kernel
theorem dX3_follow_128 : decode cX3_follow 128 = .ok (.iload 4, 2) := by decide +kernel
theorem dX3_follow_130 : decode cX3_follow 130 = .ok (.ishl, 1) := by decide +kernel
theorem dX3_follow_131 : decode cX3_follow 131 = .ok (.ior, 1) := by decide +kernel
theorem dX3_follow_132 : decode cX3_follow 132 = .ok (.invokevirtual 63, 3) := by decide +kernel
theorem dX3_follow_135 : decode cX3_follow 135 = .ok (.aload_n 0, 1) := by decide +kernel
theorem dX3_follow_136 : decode cX3_follow 136 = .ok (.getfield 33, 3) := by decide +kernel
theorem dX3_follow_139 : decode cX3_follow 139 = .ok (.getfield 41, 3) := by decide +kernel
theorem dX3_follow_142 : decode cX3_follow 142 = .ok (.iload_n 1, 1) := by decide +kernel
theorem dX3_follow_143 : decode cX3_follow 143 = .ok (.dup2, 1) := by decide +kernel
theorem dX3_follow_144 : decode cX3_follow 144 = .ok (.iaload, 1) := by decide +kernel
theorem dX3_follow_145 : decode cX3_follow 145 = .ok (.iload 5, 2) := by decide +kernel
theorem dX3_follow_147 : decode cX3_follow 147 = .ok (.iadd, 1) := by decide +kernel
theorem dX3_follow_148 : decode cX3_follow 148 = .ok (.iastore, 1) := by decide +kernel
theorem dX3_follow_149 : decode cX3_follow 149 = .ok (.iinc 4 1, 3) := by decide +kernel
theorem dX3_follow_152 : decode cX3_follow 152 = .ok (.goto (-122), 3) := by decide +kernel
theorem dX3_follow_155 : decode cX3_follow 155 = .ok (.return_, 1) := by decide +kernel
theorem dX3_suckedAt_0 : decode cX3_suckedAt 0 = .ok (.iload_n 1, 1) := by decide +kernel
theorem dX3_suckedAt_1 : decode cX3_suckedAt 1 = .ok (.bipush 100, 2) := by decide +kernel
theorem dX3_suckedAt_3 : decode cX3_suckedAt 3 = .ok (.imul, 1) := by decide +kernel
theorem dX3_suckedAt_4 : decode cX3_suckedAt 4 = .ok (.aload_n 0, 1) := by decide +kernel
theorem dX3_suckedAt_5 : decode cX3_suckedAt 5 = .ok (.getfield 33, 3) := by decide +kernel
theorem dX3_suckedAt_8 : decode cX3_suckedAt 8 = .ok (.getfield 41, 3) := by decide +kernel
theorem dX3_suckedAt_11 : decode cX3_suckedAt 11 = .ok (.iload_n 2, 1) := by decide +kernel
theorem dX3_suckedAt_12 : decode cX3_suckedAt 12 = .ok (.iaload, 1) := by decide +kernel
theorem dX3_suckedAt_13 : decode cX3_suckedAt 13 = .ok (.iadd, 1) := by decide +kernel
theorem dX3_suckedAt_14 : decode cX3_suckedAt 14 = .ok (.istore_n 3, 1) := by decide +kernel
theorem dX3_suckedAt_15 : decode cX3_suckedAt 15 = .ok (.aload_n 0, 1) := by decide +kernel
theorem dX3_suckedAt_16 : decode cX3_suckedAt 16 = .ok (.getfield 11, 3) := by decide +kernel
theorem dX3_suckedAt_19 : decode cX3_suckedAt 19 = .ok (.iload_n 3, 1) := by decide +kernel
theorem dX3_suckedAt_20 : decode cX3_suckedAt 20 = .ok (.iaload, 1) := by decide +kernel
theorem dX3_suckedAt_21 : decode cX3_suckedAt 21 = .ok (.iconst (-1), 1) := by decide +kernel
theorem dX3_suckedAt_22 : decode cX3_suckedAt 22 = .ok (.if_icmp .ne 25, 3) := by decide +kernel
theorem dX3_suckedAt_25 : decode cX3_suckedAt 25 = .ok (.aload_n 0, 1) := by decide +kernel
theorem dX3_suckedAt_26 : decode cX3_suckedAt 26 = .ok (.getfield 11, 3) := by decide +kernel
theorem dX3_suckedAt_29 : decode cX3_suckedAt 29 = .ok (.iload_n 3, 1) := by decide +kernel
theorem dX3_suckedAt_30 : decode cX3_suckedAt 30 = .ok (.aload_n 0, 1) := by decide +kernel
theorem dX3_suckedAt_31 : decode cX3_suckedAt 31 = .ok (.getfield 37, 3) := by decide +kernel
theorem dX3_suckedAt_34 : decode cX3_suckedAt 34 = .ok (.aload_n 0, 1) := by decide +kernel
theorem dX3_suckedAt_35 : decode cX3_suckedAt 35 = .ok (.getfield 29, 3) := by decide +kernel
theorem dX3_suckedAt_38 : decode cX3_suckedAt 38 = .ok (.getfield 46, 3) := by decide +kernel
theorem dX3_suckedAt_41 : decode cX3_suckedAt 41 = .ok (.iload_n 1, 1) := by decide +kernel
theorem dX3_suckedAt_42 : decode cX3_suckedAt 42 = .ok (.iload_n 2, 1) := by decide +kernel
theorem dX3_suckedAt_43 : decode cX3_suckedAt 43 = .ok (.invokevirtual 51, 3) := by decide +kernel
theorem dX3_suckedAt_46 : decode cX3_suckedAt 46 = .ok (.iastore, 1) := by decide +kernel
theorem dX3_suckedAt_47 : decode cX3_suckedAt 47 = .ok (.aload_n 0, 1) := by decide +kernel
theorem dX3_suckedAt_48 : decode cX3_suckedAt 48 = .ok (.getfield 11, 3) := by decide +kernel
theorem dX3_suckedAt_51 : decode cX3_suckedAt 51 = .ok (.iload_n 3, 1) := by decide +kernel
theorem dX3_suckedAt_52 : decode cX3_suckedAt 52 = .ok (.iaload, 1) := by decide +kernel
theorem dX3_suckedAt_53 : decode cX3_suckedAt 53 = .ok (.ireturn, 1) := by decide +kernel
theorem dX3_waysToSuck_0 : decode cX3_waysToSuck 0 = .ok (.iload_n 2, 1) := by decide +kernel
theorem dX3_waysToSuck_1 : decode cX3_waysToSuck 1 = .ok (.aload_n 0, 1) := by decide +kernel
theorem dX3_waysToSuck_2 : decode cX3_waysToSuck 2 = .ok (.getfield 33, 3) := by decide +kernel
theorem dX3_waysToSuck_5 : decode cX3_waysToSuck 5 = .ok (.getfield 41, 3) := by decide +kernel
theorem dX3_waysToSuck_8 : decode cX3_waysToSuck 8 = .ok (.iload_n 1, 1) := by decide +kernel
theorem dX3_waysToSuck_9 : decode cX3_waysToSuck 9 = .ok (.iaload, 1) := by decide +kernel
theorem dX3_waysToSuck_10 : decode cX3_waysToSuck 10 = .ok (.isub, 1) := by decide +kernel
theorem dX3_waysToSuck_11 : decode cX3_waysToSuck 11 = .ok (.istore_n 3, 1) := by decide +kernel
theorem dX3_waysToSuck_12 : decode cX3_waysToSuck 12 = .ok (.iload_n 3, 1) := by decide +kernel
theorem dX3_waysToSuck_13 : decode cX3_waysToSuck 13 = .ok (.ifCond .ge 5, 3) := by decide +kernel
theorem dX3_waysToSuck_16 : decode cX3_waysToSuck 16 = .ok (.lconst 0, 1) := by decide +kernel
theorem dX3_waysToSuck_17 : decode cX3_waysToSuck 17 = .ok (.lreturn, 1) := by decide +kernel
theorem dX3_waysToSuck_18 : decode cX3_waysToSuck 18 = .ok (.aload_n 0, 1) := by decide +kernel
theorem dX3_waysToSuck_19 : decode cX3_waysToSuck 19 = .ok (.getfield 33, 3) := by decide +kernel
theorem dX3_waysToSuck_22 : decode cX3_waysToSuck 22 = .ok (.getfield 41, 3) := by decide +kernel
theorem dX3_waysToSuck_25 : decode cX3_waysToSuck 25 = .ok (.iload_n 1, 1) := by decide +kernel
theorem dX3_waysToSuck_26 : decode cX3_waysToSuck 26 = .ok (.iaload, 1) := by decide +kernel
theorem dX3_waysToSuck_27 : decode cX3_waysToSuck 27 = .ok (.istore 4, 2) := by decide +kernel
theorem dX3_waysToSuck_29 : decode cX3_waysToSuck 29 = .ok (.aload_n 0, 1) := by decide +kernel
theorem dX3_waysToSuck_30 : decode cX3_waysToSuck 30 = .ok (.getfield 33, 3) := by decide +kernel
theorem dX3_waysToSuck_33 : decode cX3_waysToSuck 33 = .ok (.getfield 41, 3) := by decide +kernel
theorem dX3_waysToSuck_36 : decode cX3_waysToSuck 36 = .ok (.iload_n 1, 1) := by decide +kernel
theorem dX3_waysToSuck_37 : decode cX3_waysToSuck 37 = .ok (.iload_n 2, 1) := by decide +kernel
theorem dX3_waysToSuck_38 : decode cX3_waysToSuck 38 = .ok (.iastore, 1) := by decide +kernel
theorem dX3_waysToSuck_39 : decode cX3_waysToSuck 39 = .ok (.aload_n 0, 1) := by decide +kernel
theorem dX3_waysToSuck_40 : decode cX3_waysToSuck 40 = .ok (.getfield 25, 3) := by decide +kernel
theorem dX3_waysToSuck_43 : decode cX3_waysToSuck 43 = .ok (.lconst 0, 1) := by decide +kernel
theorem dX3_waysToSuck_44 : decode cX3_waysToSuck 44 = .ok (.invokestatic 80, 3) := by decide +kernel
theorem dX3_waysToSuck_47 : decode cX3_waysToSuck 47 = .ok (.aload_n 0, 1) := by decide +kernel
theorem dX3_waysToSuck_48 : decode cX3_waysToSuck 48 = .ok (.getfield 25, 3) := by decide +kernel
theorem dX3_waysToSuck_51 : decode cX3_waysToSuck 51 = .ok (.iconst 0, 1) := by decide +kernel
theorem dX3_waysToSuck_52 : decode cX3_waysToSuck 52 = .ok (.lconst 1, 1) := by decide +kernel
theorem dX3_waysToSuck_53 : decode cX3_waysToSuck 53 = .ok (.lastore, 1) := by decide +kernel
theorem dX3_waysToSuck_54 : decode cX3_waysToSuck 54 = .ok (.iconst 0, 1) := by decide +kernel
theorem dX3_waysToSuck_55 : decode cX3_waysToSuck 55 = .ok (.istore 5, 2) := by decide +kernel
theorem dX3_waysToSuck_57 : decode cX3_waysToSuck 57 = .ok (.iload 5, 2) := by decide +kernel
theorem dX3_waysToSuck_59 : decode cX3_waysToSuck 59 = .ok (.aload_n 0, 1) := by decide +kernel
theorem dX3_waysToSuck_60 : decode cX3_waysToSuck 60 = .ok (.getfield 29, 3) := by decide +kernel
theorem dX3_waysToSuck_63 : decode cX3_waysToSuck 63 = .ok (.getfield 73, 3) := by decide +kernel
theorem dX3_waysToSuck_66 : decode cX3_waysToSuck 66 = .ok (.if_icmp .ge 31, 3) := by decide +kernel
theorem dX3_waysToSuck_69 : decode cX3_waysToSuck 69 = .ok (.aload_n 0, 1) := by decide +kernel
theorem dX3_waysToSuck_70 : decode cX3_waysToSuck 70 = .ok (.aload_n 0, 1) := by decide +kernel
theorem dX3_waysToSuck_71 : decode cX3_waysToSuck 71 = .ok (.getfield 37, 3) := by decide +kernel
theorem dX3_waysToSuck_74 : decode cX3_waysToSuck 74 = .ok (.aload_n 0, 1) := by decide +kernel
theorem dX3_waysToSuck_75 : decode cX3_waysToSuck 75 = .ok (.getfield 29, 3) := by decide +kernel
theorem dX3_waysToSuck_78 : decode cX3_waysToSuck 78 = .ok (.getfield 46, 3) := by decide +kernel
theorem dX3_waysToSuck_81 : decode cX3_waysToSuck 81 = .ok (.iload 5, 2) := by decide +kernel
theorem dX3_waysToSuck_83 : decode cX3_waysToSuck 83 = .ok (.iload_n 1, 1) := by decide +kernel
theorem dX3_waysToSuck_84 : decode cX3_waysToSuck 84 = .ok (.invokevirtual 51, 3) := by decide +kernel
theorem dX3_waysToSuck_87 : decode cX3_waysToSuck 87 = .ok (.iload_n 3, 1) := by decide +kernel
theorem dX3_waysToSuck_88 : decode cX3_waysToSuck 88 = .ok (.invokevirtual 83, 3) := by decide +kernel
theorem dX3_waysToSuck_91 : decode cX3_waysToSuck 91 = .ok (.iinc 5 1, 3) := by decide +kernel
theorem dX3_waysToSuck_94 : decode cX3_waysToSuck 94 = .ok (.goto (-37), 3) := by decide +kernel
theorem dX3_waysToSuck_97 : decode cX3_waysToSuck 97 = .ok (.aload_n 0, 1) := by decide +kernel
theorem dX3_waysToSuck_98 : decode cX3_waysToSuck 98 = .ok (.getfield 33, 3) := by decide +kernel
theorem dX3_waysToSuck_101 : decode cX3_waysToSuck 101 = .ok (.getfield 41, 3) := by decide +kernel
theorem dX3_waysToSuck_104 : decode cX3_waysToSuck 104 = .ok (.iload_n 1, 1) := by decide +kernel
theorem dX3_waysToSuck_105 : decode cX3_waysToSuck 105 = .ok (.iload 4, 2) := by decide +kernel
theorem dX3_waysToSuck_107 : decode cX3_waysToSuck 107 = .ok (.iastore, 1) := by decide +kernel
theorem dX3_waysToSuck_108 : decode cX3_waysToSuck 108 = .ok (.aload_n 0, 1) := by decide +kernel
theorem dX3_waysToSuck_109 : decode cX3_waysToSuck 109 = .ok (.getfield 25, 3) := by decide +kernel
theorem dX3_waysToSuck_112 : decode cX3_waysToSuck 112 = .ok (.iload_n 3, 1) := by decide +kernel
theorem dX3_waysToSuck_113 : decode cX3_waysToSuck 113 = .ok (.laload, 1) := by decide +kernel
theorem dX3_waysToSuck_114 : decode cX3_waysToSuck 114 = .ok (.lreturn, 1) := by decide +kernel
theorem dX3_addGoer_0 : decode cX3_addGoer 0 = .ok (.iload_n 2, 1) := by decide +kernel
theorem dX3_addGoer_1 : decode cX3_addGoer 1 = .ok (.istore_n 3, 1) := by decide +kernel
theorem dX3_addGoer_2 : decode cX3_addGoer 2 = .ok (.iload_n 3, 1) := by decide +kernel
theorem dX3_addGoer_3 : decode cX3_addGoer 3 = .ok (.ifCond .lt 59, 3) := by decide +kernel
theorem dX3_addGoer_6 : decode cX3_addGoer 6 = .ok (.lconst 0, 1) := by decide +kernel
theorem dX3_addGoer_7 : decode cX3_addGoer 7 = .ok (.lstore 4, 2) := by decide +kernel
theorem dX3_addGoer_9 : decode cX3_addGoer 9 = .ok (.iconst 0, 1) := by decide +kernel
theorem dX3_addGoer_10 : decode cX3_addGoer 10 = .ok (.istore 6, 2) := by decide +kernel
theorem dX3_addGoer_12 : decode cX3_addGoer 12 = .ok (.iload 6, 2) := by decide +kernel
theorem dX3_addGoer_14 : decode cX3_addGoer 14 = .ok (.iconst 3, 1) := by decide +kernel
theorem dX3_addGoer_15 : decode cX3_addGoer 15 = .ok (.if_icmp .gt 33, 3) := by decide +kernel
theorem dX3_addGoer_18 : decode cX3_addGoer 18 = .ok (.iload 6, 2) := by decide +kernel
theorem dX3_addGoer_20 : decode cX3_addGoer 20 = .ok (.iload_n 1, 1) := by decide +kernel
theorem dX3_addGoer_21 : decode cX3_addGoer 21 = .ok (.imul, 1) := by decide +kernel
theorem dX3_addGoer_22 : decode cX3_addGoer 22 = .ok (.iload_n 3, 1) := by decide +kernel
theorem dX3_addGoer_23 : decode cX3_addGoer 23 = .ok (.if_icmp .gt 25, 3) := by decide +kernel
theorem dX3_addGoer_26 : decode cX3_addGoer 26 = .ok (.lload 4, 2) := by decide +kernel
theorem dX3_addGoer_28 : decode cX3_addGoer 28 = .ok (.aload_n 0, 1) := by decide +kernel
theorem dX3_addGoer_29 : decode cX3_addGoer 29 = .ok (.getfield 25, 3) := by decide +kernel
theorem dX3_addGoer_32 : decode cX3_addGoer 32 = .ok (.iload_n 3, 1) := by decide +kernel
theorem dX3_addGoer_33 : decode cX3_addGoer 33 = .ok (.iload 6, 2) := by decide +kernel
theorem dX3_addGoer_35 : decode cX3_addGoer 35 = .ok (.iload_n 1, 1) := by decide +kernel
theorem dX3_addGoer_36 : decode cX3_addGoer 36 = .ok (.imul, 1) := by decide +kernel
theorem dX3_addGoer_37 : decode cX3_addGoer 37 = .ok (.isub, 1) := by decide +kernel
theorem dX3_addGoer_38 : decode cX3_addGoer 38 = .ok (.laload, 1) := by decide +kernel
theorem dX3_addGoer_39 : decode cX3_addGoer 39 = .ok (.ladd, 1) := by decide +kernel
theorem dX3_addGoer_40 : decode cX3_addGoer 40 = .ok (.lstore 4, 2) := by decide +kernel
theorem dX3_addGoer_42 : decode cX3_addGoer 42 = .ok (.iinc 6 1, 3) := by decide +kernel
theorem dX3_addGoer_45 : decode cX3_addGoer 45 = .ok (.goto (-33), 3) := by decide +kernel
theorem dX3_addGoer_48 : decode cX3_addGoer 48 = .ok (.aload_n 0, 1) := by decide +kernel
theorem dX3_addGoer_49 : decode cX3_addGoer 49 = .ok (.getfield 25, 3) := by decide +kernel
theorem dX3_addGoer_52 : decode cX3_addGoer 52 = .ok (.iload_n 3, 1) := by decide +kernel
theorem dX3_addGoer_53 : decode cX3_addGoer 53 = .ok (.lload 4, 2) := by decide +kernel
theorem dX3_addGoer_55 : decode cX3_addGoer 55 = .ok (.lastore, 1) := by decide +kernel
theorem dX3_addGoer_56 : decode cX3_addGoer 56 = .ok (.iinc 3 (-1), 3) := by decide +kernel
theorem dX3_addGoer_59 : decode cX3_addGoer 59 = .ok (.goto (-57), 3) := by decide +kernel
theorem dX3_addGoer_62 : decode cX3_addGoer 62 = .ok (.return_, 1) := by decide +kernel
theorem dX5_init_0 : decode cX5_init 0 = .ok (.aload_n 0, 1) := by decide +kernel
theorem dX5_init_1 : decode cX5_init 1 = .ok (.invokespecial 3, 3) := by decide +kernel
theorem dX5_init_4 : decode cX5_init 4 = .ok (.aload_n 0, 1) := by decide +kernel
theorem dX5_init_5 : decode cX5_init 5 = .ok (.aconst_null, 1) := by decide +kernel
theorem dX5_init_6 : decode cX5_init 6 = .ok (.putfield 9, 3) := by decide +kernel
theorem dX5_init_9 : decode cX5_init 9 = .ok (.aload_n 0, 1) := by decide +kernel
theorem dX5_init_10 : decode cX5_init 10 = .ok (.iconst 0, 1) := by decide +kernel
theorem dX5_init_11 : decode cX5_init 11 = .ok (.putfield 15, 3) := by decide +kernel
theorem dX5_init_14 : decode cX5_init 14 = .ok (.aload_n 0, 1) := by decide +kernel
theorem dX5_init_15 : decode cX5_init 15 = .ok (.iconst (-1), 1) := by decide +kernel
theorem dX5_init_16 : decode cX5_init 16 = .ok (.putfield 19, 3) := by decide +kernel
theorem dX5_init_19 : decode cX5_init 19 = .ok (.aload_n 0, 1) := by decide +kernel
theorem dX5_init_20 : decode cX5_init 20 = .ok (.iconst (-1), 1) := by decide +kernel
theorem dX5_init_21 : decode cX5_init 21 = .ok (.putfield 22, 3) := by decide +kernel
theorem dX5_init_24 : decode cX5_init 24 = .ok (.aload_n 0, 1) := by decide +kernel
theorem dX5_init_25 : decode cX5_init 25 = .ok (.iconst (-1), 1) := by decide +kernel
theorem dX5_init_26 : decode cX5_init 26 = .ok (.putfield 25, 3) := by decide +kernel
theorem dX5_init_29 : decode cX5_init 29 = .ok (.aload_n 0, 1) := by decide +kernel
theorem dX5_init_30 : decode cX5_init 30 = .ok (.aload_n 1, 1) := by decide +kernel
theorem dX5_init_31 : decode cX5_init 31 = .ok (.putfield 28, 3) := by decide +kernel
theorem dX5_init_34 : decode cX5_init 34 = .ok (.return_, 1) := by decide +kernel
theorem dX5_takes_0 : decode cX5_takes 0 = .ok (.aload_n 0, 1) := by decide +kernel
theorem dX5_takes_1 : decode cX5_takes 1 = .ok (.aload_n 1, 1) := by decide +kernel
theorem dX5_takes_2 : decode cX5_takes 2 = .ok (.putfield 9, 3) := by decide +kernel
theorem dX5_takes_5 : decode cX5_takes 5 = .ok (.aload_n 0, 1) := by decide +kernel
theorem dX5_takes_6 : decode cX5_takes 6 = .ok (.getfield 9, 3) := by decide +kernel
theorem dX5_takes_9 : decode cX5_takes 9 = .ok (.invokevirtual 32, 3) := by decide +kernel
theorem dX5_takes_12 : decode cX5_takes 12 = .ok (.aload_n 0, 1) := by decide +kernel
theorem dX5_takes_13 : decode cX5_takes 13 = .ok (.getfield 28, 3) := by decide +kernel
theorem dX5_takes_16 : decode cX5_takes 16 = .ok (.invokevirtual 37, 3) := by decide +kernel
theorem dX5_takes_19 : decode cX5_takes 19 = .ok (.aload_n 0, 1) := by decide +kernel
theorem dX5_takes_20 : decode cX5_takes 20 = .ok (.iconst 0, 1) := by decide +kernel
theorem dX5_takes_21 : decode cX5_takes 21 = .ok (.putfield 15, 3) := by decide +kernel
theorem dX5_takes_24 : decode cX5_takes 24 = .ok (.aload_n 0, 1) := by decide +kernel
theorem dX5_takes_25 : decode cX5_takes 25 = .ok (.iconst 0, 1) := by decide +kernel
theorem dX5_takes_26 : decode cX5_takes 26 = .ok (.putfield 22, 3) := by decide +kernel
theorem dX5_takes_29 : decode cX5_takes 29 = .ok (.aload_n 0, 1) := by decide +kernel
theorem dX5_takes_30 : decode cX5_takes 30 = .ok (.iconst (-1), 1) := by decide +kernel
theorem dX5_takes_31 : decode cX5_takes 31 = .ok (.putfield 25, 3) := by decide +kernel
theorem dX5_takes_34 : decode cX5_takes 34 = .ok (.iconst 1, 1) := by decide +kernel
theorem dX5_takes_35 : decode cX5_takes 35 = .ok (.istore_n 2, 1) := by decide +kernel
theorem dX5_takes_36 : decode cX5_takes 36 = .ok (.iconst 0, 1) := by decide +kernel
theorem dX5_takes_37 : decode cX5_takes 37 = .ok (.istore_n 3, 1) := by decide +kernel
theorem dX5_takes_38 : decode cX5_takes 38 = .ok (.iload_n 3, 1) := by decide +kernel
theorem dX5_takes_39 : decode cX5_takes 39 = .ok (.bipush 24, 2) := by decide +kernel
theorem dX5_takes_41 : decode cX5_takes 41 = .ok (.if_icmp .gt 27, 3) := by decide +kernel
theorem dX5_takes_44 : decode cX5_takes 44 = .ok (.iload_n 2, 1) := by decide +kernel
theorem dX5_takes_45 : decode cX5_takes 45 = .ok (.ifCond .eq 23, 3) := by decide +kernel
theorem dX5_takes_48 : decode cX5_takes 48 = .ok (.aload_n 0, 1) := by decide +kernel
theorem dX5_takes_49 : decode cX5_takes 49 = .ok (.invokevirtual 42, 3) := by decide +kernel
theorem dX5_takes_52 : decode cX5_takes 52 = .ok (.bipush 43, 2) := by decide +kernel
theorem dX5_takes_54 : decode cX5_takes 54 = .ok (.if_icmp .eq 14, 3) := by decide +kernel
theorem dX5_takes_57 : decode cX5_takes 57 = .ok (.aload_n 0, 1) := by decide +kernel
theorem dX5_takes_58 : decode cX5_takes 58 = .ok (.invokevirtual 48, 3) := by decide +kernel
theorem dX5_takes_61 : decode cX5_takes 61 = .ok (.istore_n 2, 1) := by decide +kernel
theorem dX5_takes_62 : decode cX5_takes 62 = .ok (.iinc 3 1, 3) := by decide +kernel
theorem dX5_takes_65 : decode cX5_takes 65 = .ok (.goto (-27), 3) := by decide +kernel
theorem dX5_takes_68 : decode cX5_takes 68 = .ok (.iload_n 2, 1) := by decide +kernel
theorem dX5_takes_69 : decode cX5_takes 69 = .ok (.ireturn, 1) := by decide +kernel
theorem dX5_kind_0 : decode cX5_kind 0 = .ok (.aload_n 0, 1) := by decide +kernel
theorem dX5_kind_1 : decode cX5_kind 1 = .ok (.getfield 28, 3) := by decide +kernel
theorem dX5_kind_4 : decode cX5_kind 4 = .ok (.aload_n 0, 1) := by decide +kernel
theorem dX5_kind_5 : decode cX5_kind 5 = .ok (.getfield 15, 3) := by decide +kernel
theorem dX5_kind_8 : decode cX5_kind 8 = .ok (.invokevirtual 52, 3) := by decide +kernel
theorem dX5_kind_11 : decode cX5_kind 11 = .ok (.ireturn, 1) := by decide +kernel
theorem dX5_fails_0 : decode cX5_fails 0 = .ok (.aload_n 0, 1) := by decide +kernel
theorem dX5_fails_1 : decode cX5_fails 1 = .ok (.iload_n 1, 1) := by decide +kernel
theorem dX5_fails_2 : decode cX5_fails 2 = .ok (.putfield 22, 3) := by decide +kernel
theorem dX5_fails_5 : decode cX5_fails 5 = .ok (.aload_n 0, 1) := by decide +kernel
theorem dX5_fails_6 : decode cX5_fails 6 = .ok (.aload_n 0, 1) := by decide +kernel
theorem dX5_fails_7 : decode cX5_fails 7 = .ok (.getfield 28, 3) := by decide +kernel
theorem dX5_fails_10 : decode cX5_fails 10 = .ok (.aload_n 0, 1) := by decide +kernel
theorem dX5_fails_11 : decode cX5_fails 11 = .ok (.getfield 15, 3) := by decide +kernel
theorem dX5_fails_14 : decode cX5_fails 14 = .ok (.invokevirtual 56, 3) := by decide +kernel
theorem dX5_fails_17 : decode cX5_fails 17 = .ok (.putfield 25, 3) := by decide +kernel
theorem dX5_fails_20 : decode cX5_fails 20 = .ok (.iconst 0, 1) := by decide +kernel
theorem dX5_fails_21 : decode cX5_fails 21 = .ok (.ireturn, 1) := by decide +kernel
theorem dX5_takesKind_0 : decode cX5_takesKind 0 = .ok (.aload_n 0, 1) := by decide +kernel
theorem dX5_takesKind_1 : decode cX5_takesKind 1 = .ok (.invokevirtual 42, 3) := by decide +kernel
theorem dX5_takesKind_4 : decode cX5_takesKind 4 = .ok (.iload_n 1, 1) := by decide +kernel
theorem dX5_takesKind_5 : decode cX5_takesKind 5 = .ok (.if_icmp .eq 9, 3) := by decide +kernel
theorem dX5_takesKind_8 : decode cX5_takesKind 8 = .ok (.aload_n 0, 1) := by decide +kernel
theorem dX5_takesKind_9 : decode cX5_takesKind 9 = .ok (.iconst 1, 1) := by decide +kernel
theorem dX5_takesKind_10 : decode cX5_takesKind 10 = .ok (.invokevirtual 59, 3) := by decide +kernel
theorem dX5_takesKind_13 : decode cX5_takesKind 13 = .ok (.ireturn, 1) := by decide +kernel
theorem dX5_takesKind_14 : decode cX5_takesKind 14 = .ok (.aload_n 0, 1) := by decide +kernel
theorem dX5_takesKind_15 : decode cX5_takesKind 15 = .ok (.dup, 1) := by decide +kernel
theorem dX5_takesKind_16 : decode cX5_takesKind 16 = .ok (.getfield 15, 3) := by decide +kernel
theorem dX5_takesKind_19 : decode cX5_takesKind 19 = .ok (.iconst 1, 1) := by decide +kernel
theorem dX5_takesKind_20 : decode cX5_takesKind 20 = .ok (.iadd, 1) := by decide +kernel
theorem dX5_takesKind_21 : decode cX5_takesKind 21 = .ok (.putfield 15, 3) := by decide +kernel
theorem dX5_takesKind_24 : decode cX5_takesKind 24 = .ok (.iconst 1, 1) := by decide +kernel
theorem dX5_takesKind_25 : decode cX5_takesKind 25 = .ok (.ireturn, 1) := by decide +kernel
theorem dX5_takesNumber_0 : decode cX5_takesNumber 0 = .ok (.aload_n 0, 1) := by decide +kernel
theorem dX5_takesNumber_1 : decode cX5_takesNumber 1 = .ok (.invokevirtual 42, 3) := by decide +kernel
theorem dX5_takesNumber_4 : decode cX5_takesNumber 4 = .ok (.bipush 41, 2) := by decide +kernel
theorem dX5_takesNumber_6 : decode cX5_takesNumber 6 = .ok (.if_icmp .eq 9, 3) := by decide +kernel
theorem dX5_takesNumber_9 : decode cX5_takesNumber 9 = .ok (.aload_n 0, 1) := by decide +kernel
theorem dX5_takesNumber_10 : decode cX5_takesNumber 10 = .ok (.iconst 1, 1) := by decide +kernel
theorem dX5_takesNumber_11 : decode cX5_takesNumber 11 = .ok (.invokevirtual 59, 3) := by decide +kernel
theorem dX5_takesNumber_14 : decode cX5_takesNumber 14 = .ok (.ireturn, 1) := by decide +kernel
theorem dX5_takesNumber_15 : decode cX5_takesNumber 15 = .ok (.aload_n 0, 1) := by decide +kernel
theorem dX5_takesNumber_16 : decode cX5_takesNumber 16 = .ok (.getfield 28, 3) := by decide +kernel
theorem dX5_takesNumber_19 : decode cX5_takesNumber 19 = .ok (.aload_n 0, 1) := by decide +kernel
theorem dX5_takesNumber_20 : decode cX5_takesNumber 20 = .ok (.getfield 15, 3) := by decide +kernel
theorem dX5_takesNumber_23 : decode cX5_takesNumber 23 = .ok (.invokevirtual 63, 3) := by decide +kernel
theorem dX5_takesNumber_26 : decode cX5_takesNumber 26 = .ok (.istore 4, 2) := by decide +kernel
theorem dX5_takesNumber_28 : decode cX5_takesNumber 28 = .ok (.iload 4, 2) := by decide +kernel
theorem dX5_takesNumber_30 : decode cX5_takesNumber 30 = .ok (.iload_n 2, 1) := by decide +kernel
theorem dX5_takesNumber_31 : decode cX5_takesNumber 31 = .ok (.iload_n 3, 1) := by decide +kernel
theorem dX5_takesNumber_32 : decode cX5_takesNumber 32 = .ok (.invokestatic 66, 3) := by decide +kernel
theorem dX5_takesNumber_35 : decode cX5_takesNumber 35 = .ok (.ifCond .ne 9, 3) := by decide +kernel
theorem dX5_takesNumber_38 : decode cX5_takesNumber 38 = .ok (.aload_n 0, 1) := by decide +kernel
theorem dX5_takesNumber_39 : decode cX5_takesNumber 39 = .ok (.iconst 2, 1) := by decide +kernel
theorem dX5_takesNumber_40 : decode cX5_takesNumber 40 = .ok (.invokevirtual 59, 3) := by decide +kernel
theorem dX5_takesNumber_43 : decode cX5_takesNumber 43 = .ok (.ireturn, 1) := by decide +kernel
theorem dX5_takesNumber_44 : decode cX5_takesNumber 44 = .ok (.aload_n 0, 1) := by decide +kernel
theorem dX5_takesNumber_45 : decode cX5_takesNumber 45 = .ok (.getfield 9, 3) := by decide +kernel
theorem dX5_takesNumber_48 : decode cX5_takesNumber 48 = .ok (.iload_n 1, 1) := by decide +kernel
theorem dX5_takesNumber_49 : decode cX5_takesNumber 49 = .ok (.iload 4, 2) := by decide +kernel
theorem dX5_takesNumber_51 : decode cX5_takesNumber 51 = .ok (.invokevirtual 70, 3) := by decide +kernel
theorem dX5_takesNumber_54 : decode cX5_takesNumber 54 = .ok (.aload_n 0, 1) := by decide +kernel
theorem dX5_takesNumber_55 : decode cX5_takesNumber 55 = .ok (.dup, 1) := by decide +kernel
theorem dX5_takesNumber_56 : decode cX5_takesNumber 56 = .ok (.getfield 15, 3) := by decide +kernel
theorem dX5_takesNumber_59 : decode cX5_takesNumber 59 = .ok (.iconst 1, 1) := by decide +kernel
theorem dX5_takesNumber_60 : decode cX5_takesNumber 60 = .ok (.iadd, 1) := by decide +kernel
theorem dX5_takesNumber_61 : decode cX5_takesNumber 61 = .ok (.putfield 15, 3) := by decide +kernel
theorem dX5_takesNumber_64 : decode cX5_takesNumber 64 = .ok (.iconst 1, 1) := by decide +kernel
theorem dX5_takesNumber_65 : decode cX5_takesNumber 65 = .ok (.ireturn, 1) := by decide +kernel
theorem dX5_takesClause_0 : decode cX5_takesClause 0 = .ok (.aload_n 0, 1) := by decide +kernel
theorem dX5_takesClause_1 : decode cX5_takesClause 1 = .ok (.invokevirtual 42, 3) := by decide +kernel
theorem dX5_takesClause_4 : decode cX5_takesClause 4 = .ok (.istore_n 1, 1) := by decide +kernel
theorem dX5_takesClause_5 : decode cX5_takesClause 5 = .ok (.iload_n 1, 1) := by decide +kernel
theorem dX5_takesClause_6 : decode cX5_takesClause 6 = .ok (.invokestatic 74, 3) := by decide +kernel
theorem dX5_takesClause_9 : decode cX5_takesClause 9 = .ok (.ifCond .ne 9, 3) := by decide +kernel
theorem dX5_takesClause_12 : decode cX5_takesClause 12 = .ok (.aload_n 0, 1) := by decide +kernel
theorem dX5_takesClause_13 : decode cX5_takesClause 13 = .ok (.iconst 1, 1) := by decide +kernel
theorem dX5_takesClause_14 : decode cX5_takesClause 14 = .ok (.invokevirtual 59, 3) := by decide +kernel
theorem dX5_takesClause_17 : decode cX5_takesClause 17 = .ok (.ireturn, 1) := by decide +kernel
theorem dX5_takesClause_18 : decode cX5_takesClause 18 = .ok (.aload_n 0, 1) := by decide +kernel
theorem dX5_takesClause_19 : decode cX5_takesClause 19 = .ok (.getfield 9, 3) := by decide +kernel
theorem dX5_takesClause_22 : decode cX5_takesClause 22 = .ok (.iload_n 1, 1) := by decide +kernel
theorem dX5_takesClause_23 : decode cX5_takesClause 23 = .ok (.invokevirtual 77, 3) := by decide +kernel
theorem dX5_takesClause_26 : decode cX5_takesClause 26 = .ok (.ifCond .eq 9, 3) := by decide +kernel
theorem dX5_takesClause_29 : decode cX5_takesClause 29 = .ok (.aload_n 0, 1) := by decide +kernel
theorem dX5_takesClause_30 : decode cX5_takesClause 30 = .ok (.iconst 4, 1) := by decide +kernel
theorem dX5_takesClause_31 : decode cX5_takesClause 31 = .ok (.invokevirtual 59, 3) := by decide +kernel
theorem dX5_takesClause_34 : decode cX5_takesClause 34 = .ok (.ireturn, 1) := by decide +kernel
theorem dX5_takesClause_35 : decode cX5_takesClause 35 = .ok (.aload_n 0, 1) := by decide +kernel
theorem dX5_takesClause_36 : decode cX5_takesClause 36 = .ok (.getfield 9, 3) := by decide +kernel
theorem dX5_takesClause_39 : decode cX5_takesClause 39 = .ok (.getfield 80, 3) := by decide +kernel
theorem dX5_takesClause_42 : decode cX5_takesClause 42 = .ok (.bipush 24, 2) := by decide +kernel
theorem dX5_takesClause_44 : decode cX5_takesClause 44 = .ok (.if_icmp .lt 10, 3) := by decide +kernel
theorem dX5_takesClause_47 : decode cX5_takesClause 47 = .ok (.aload_n 0, 1) := by decide +kernel
theorem dX5_takesClause_48 : decode cX5_takesClause 48 = .ok (.bipush 6, 2) := by decide +kernel
theorem dX5_takesClause_50 : decode cX5_takesClause 50 = .ok (.invokevirtual 59, 3) := by decide +kernel
theorem dX5_takesClause_53 : decode cX5_takesClause 53 = .ok (.ireturn, 1) := by decide +kernel
theorem dX5_takesClause_54 : decode cX5_takesClause 54 = .ok (.aload_n 0, 1) := by decide +kernel
theorem dX5_takesClause_55 : decode cX5_takesClause 55 = .ok (.dup, 1) := by decide +kernel
theorem dX5_takesClause_56 : decode cX5_takesClause 56 = .ok (.getfield 15, 3) := by decide +kernel
theorem dX5_takesClause_59 : decode cX5_takesClause 59 = .ok (.iconst 1, 1) := by decide +kernel
theorem dX5_takesClause_60 : decode cX5_takesClause 60 = .ok (.iadd, 1) := by decide +kernel
theorem dX5_takesClause_61 : decode cX5_takesClause 61 = .ok (.putfield 15, 3) := by decide +kernel
theorem dX5_takesClause_64 : decode cX5_takesClause 64 = .ok (.aload_n 0, 1) := by decide +kernel
theorem dX5_takesClause_65 : decode cX5_takesClause 65 = .ok (.getfield 9, 3) := by decide +kernel
theorem dX5_takesClause_68 : decode cX5_takesClause 68 = .ok (.iload_n 1, 1) := by decide +kernel
theorem dX5_takesClause_69 : decode cX5_takesClause 69 = .ok (.invokevirtual 83, 3) := by decide +kernel
theorem dX5_takesClause_72 : decode cX5_takesClause 72 = .ok (.iload_n 1, 1) := by decide +kernel
theorem dX5_takesClause_73 : decode cX5_takesClause 73 = .ok (.bipush 9, 2) := by decide +kernel
theorem dX5_takesClause_75 : decode cX5_takesClause 75 = .ok (.if_icmp .eq 9, 3) := by decide +kernel
theorem dX5_takesClause_78 : decode cX5_takesClause 78 = .ok (.iload_n 1, 1) := by decide +kernel
theorem dX5_takesClause_79 : decode cX5_takesClause 79 = .ok (.bipush 10, 2) := by decide +kernel
theorem dX5_takesClause_81 : decode cX5_takesClause 81 = .ok (.if_icmp .ne 11, 3) := by decide +kernel
theorem dX5_takesClause_84 : decode cX5_takesClause 84 = .ok (.aload_n 0, 1) := by decide +kernel
theorem dX5_takesClause_85 : decode cX5_takesClause 85 = .ok (.iload_n 1, 1) := by decide +kernel
theorem dX5_takesClause_86 : decode cX5_takesClause 86 = .ok (.invokevirtual 87, 3) := by decide +kernel
theorem dX5_takesClause_89 : decode cX5_takesClause 89 = .ok (.goto 8, 3) := by decide +kernel
theorem dX5_takesClause_92 : decode cX5_takesClause 92 = .ok (.aload_n 0, 1) := by decide +kernel
theorem dX5_takesClause_93 : decode cX5_takesClause 93 = .ok (.iload_n 1, 1) := by decide +kernel
theorem dX5_takesClause_94 : decode cX5_takesClause 94 = .ok (.invokevirtual 90, 3) := by decide +kernel
theorem dX5_takesClause_97 : decode cX5_takesClause 97 = .ok (.istore_n 2, 1) := by decide +kernel
theorem dX5_takesClause_98 : decode cX5_takesClause 98 = .ok (.iload_n 2, 1) := by decide +kernel
theorem dX5_takesClause_99 : decode cX5_takesClause 99 = .ok (.ifCond .eq 16, 3) := by decide +kernel
theorem dX5_takesClause_102 : decode cX5_takesClause 102 = .ok (.aload_n 0, 1) := by decide +kernel
theorem dX5_takesClause_103 : decode cX5_takesClause 103 = .ok (.bipush 38, 2) := by decide +kernel
theorem dX5_takesClause_105 : decode cX5_takesClause 105 = .ok (.invokevirtual 93, 3) := by decide +kernel
theorem dX5_takesClause_108 : decode cX5_takesClause 108 = .ok (.ifCond .eq 7, 3) := by decide +kernel
theorem dX5_takesClause_111 : decode cX5_takesClause 111 = .ok (.iconst 1, 1) := by decide +kernel
theorem dX5_takesClause_112 : decode cX5_takesClause 112 = .ok (.goto 4, 3) := by decide +kernel
theorem dX5_takesClause_115 : decode cX5_takesClause 115 = .ok (.iconst 0, 1) := by decide +kernel
theorem dX5_takesClause_116 : decode cX5_takesClause 116 = .ok (.ireturn, 1) := by decide +kernel
theorem dX5_startsClause_0 : decode cX5_startsClause 0 = .ok (.iload_n 0, 1) := by decide +kernel
theorem dX5_startsClause_1 : decode cX5_startsClause 1 = .ok (.tableswitch 89 0 17 #[87, 89, 89, 89, 89, 89, 89, 89, 89, 87, 87, 87, 89, 87, 87, 89, 87, 87], 87) := by decide +kernel
theorem dX5_startsClause_88 : decode cX5_startsClause 88 = .ok (.iconst 1, 1) := by decide +kernel
theorem dX5_startsClause_89 : decode cX5_startsClause 89 = .ok (.ireturn, 1) := by decide +kernel
theorem dX5_startsClause_90 : decode cX5_startsClause 90 = .ok (.iconst 0, 1) := by decide +kernel
theorem dX5_startsClause_91 : decode cX5_startsClause 91 = .ok (.ireturn, 1) := by decide +kernel
theorem dX5_takesDeed_0 : decode cX5_takesDeed 0 = .ok (.iload_n 1, 1) := by decide +kernel
theorem dX5_takesDeed_1 : decode cX5_takesDeed 1 = .ok (.tableswitch 208 11 17 #[43, 208, 118, 154, 208, 190, 199], 43) := by decide +kernel
theorem dX5_takesDeed_44 : decode cX5_takesDeed 44 = .ok (.aload_n 0, 1) := by decide +kernel
theorem dX5_takesDeed_45 : decode cX5_takesDeed 45 = .ok (.iconst 0, 1) := by decide +kernel
theorem dX5_takesDeed_46 : decode cX5_takesDeed 46 = .ok (.iconst 0, 1) := by decide +kernel
theorem dX5_takesDeed_47 : decode cX5_takesDeed 47 = .ok (.bipush 7, 2) := by decide +kernel
theorem dX5_takesDeed_49 : decode cX5_takesDeed 49 = .ok (.invokevirtual 96, 3) := by decide +kernel
theorem dX5_takesDeed_52 : decode cX5_takesDeed 52 = .ok (.ifCond .eq 65, 3) := by decide +kernel
theorem dX5_takesDeed_55 : decode cX5_takesDeed 55 = .ok (.aload_n 0, 1) := by decide +kernel
theorem dX5_takesDeed_56 : decode cX5_takesDeed 56 = .ok (.bipush 12, 2) := by decide +kernel
theorem dX5_takesDeed_58 : decode cX5_takesDeed 58 = .ok (.invokevirtual 93, 3) := by decide +kernel
theorem dX5_takesDeed_61 : decode cX5_takesDeed 61 = .ok (.ifCond .eq 56, 3) := by decide +kernel
theorem dX5_takesDeed_64 : decode cX5_takesDeed 64 = .ok (.aload_n 0, 1) := by decide +kernel
theorem dX5_takesDeed_65 : decode cX5_takesDeed 65 = .ok (.iconst 1, 1) := by decide +kernel
theorem dX5_takesDeed_66 : decode cX5_takesDeed 66 = .ok (.iconst 0, 1) := by decide +kernel
theorem dX5_takesDeed_67 : decode cX5_takesDeed 67 = .ok (.bipush 7, 2) := by decide +kernel
theorem dX5_takesDeed_69 : decode cX5_takesDeed 69 = .ok (.invokevirtual 96, 3) := by decide +kernel
theorem dX5_takesDeed_72 : decode cX5_takesDeed 72 = .ok (.ifCond .eq 45, 3) := by decide +kernel
theorem dX5_takesDeed_75 : decode cX5_takesDeed 75 = .ok (.aload_n 0, 1) := by decide +kernel
theorem dX5_takesDeed_76 : decode cX5_takesDeed 76 = .ok (.iconst 3, 1) := by decide +kernel
theorem dX5_takesDeed_77 : decode cX5_takesDeed 77 = .ok (.invokevirtual 93, 3) := by decide +kernel
theorem dX5_takesDeed_80 : decode cX5_takesDeed 80 = .ok (.ifCond .eq 37, 3) := by decide +kernel
theorem dX5_takesDeed_83 : decode cX5_takesDeed 83 = .ok (.aload_n 0, 1) := by decide +kernel
theorem dX5_takesDeed_84 : decode cX5_takesDeed 84 = .ok (.iconst 2, 1) := by decide +kernel
theorem dX5_takesDeed_85 : decode cX5_takesDeed 85 = .ok (.iconst 1, 1) := by decide +kernel
theorem dX5_takesDeed_86 : decode cX5_takesDeed 86 = .ok (.bipush 9, 2) := by decide +kernel
theorem dX5_takesDeed_88 : decode cX5_takesDeed 88 = .ok (.invokevirtual 96, 3) := by decide +kernel
theorem dX5_takesDeed_91 : decode cX5_takesDeed 91 = .ok (.ifCond .eq 26, 3) := by decide +kernel
theorem dX5_takesDeed_94 : decode cX5_takesDeed 94 = .ok (.aload_n 0, 1) := by decide +kernel
theorem dX5_takesDeed_95 : decode cX5_takesDeed 95 = .ok (.iconst 4, 1) := by decide +kernel
theorem dX5_takesDeed_96 : decode cX5_takesDeed 96 = .ok (.invokevirtual 93, 3) := by decide +kernel
theorem dX5_takesDeed_99 : decode cX5_takesDeed 99 = .ok (.ifCond .eq 18, 3) := by decide +kernel
theorem dX5_takesDeed_102 : decode cX5_takesDeed 102 = .ok (.aload_n 0, 1) := by decide +kernel
theorem dX5_takesDeed_103 : decode cX5_takesDeed 103 = .ok (.iconst 3, 1) := by decide +kernel
theorem dX5_takesDeed_104 : decode cX5_takesDeed 104 = .ok (.iconst 1, 1) := by decide +kernel
theorem dX5_takesDeed_105 : decode cX5_takesDeed 105 = .ok (.bipush 99, 2) := by decide +kernel
theorem dX5_takesDeed_107 : decode cX5_takesDeed 107 = .ok (.invokevirtual 96, 3) := by decide +kernel
theorem dX5_takesDeed_110 : decode cX5_takesDeed 110 = .ok (.ifCond .eq 7, 3) := by decide +kernel
theorem dX5_takesDeed_113 : decode cX5_takesDeed 113 = .ok (.iconst 1, 1) := by decide +kernel
theorem dX5_takesDeed_114 : decode cX5_takesDeed 114 = .ok (.goto 4, 3) := by decide +kernel
theorem dX5_takesDeed_117 : decode cX5_takesDeed 117 = .ok (.iconst 0, 1) := by decide +kernel
theorem dX5_takesDeed_118 : decode cX5_takesDeed 118 = .ok (.ireturn, 1) := by decide +kernel
theorem dX5_takesDeed_119 : decode cX5_takesDeed 119 = .ok (.aload_n 0, 1) := by decide +kernel
theorem dX5_takesDeed_120 : decode cX5_takesDeed 120 = .ok (.iconst 0, 1) := by decide +kernel
theorem dX5_takesDeed_121 : decode cX5_takesDeed 121 = .ok (.iconst 0, 1) := by decide +kernel
theorem dX5_takesDeed_122 : decode cX5_takesDeed 122 = .ok (.bipush 7, 2) := by decide +kernel
theorem dX5_takesDeed_124 : decode cX5_takesDeed 124 = .ok (.invokevirtual 96, 3) := by decide +kernel
theorem dX5_takesDeed_127 : decode cX5_takesDeed 127 = .ok (.ifCond .eq 26, 3) := by decide +kernel
theorem dX5_takesDeed_130 : decode cX5_takesDeed 130 = .ok (.aload_n 0, 1) := by decide +kernel
theorem dX5_takesDeed_131 : decode cX5_takesDeed 131 = .ok (.iconst 5, 1) := by decide +kernel
theorem dX5_takesDeed_132 : decode cX5_takesDeed 132 = .ok (.invokevirtual 93, 3) := by decide +kernel
theorem dX5_takesDeed_135 : decode cX5_takesDeed 135 = .ok (.ifCond .eq 18, 3) := by decide +kernel
theorem dX5_takesDeed_138 : decode cX5_takesDeed 138 = .ok (.aload_n 0, 1) := by decide +kernel
theorem dX5_takesDeed_139 : decode cX5_takesDeed 139 = .ok (.iconst 1, 1) := by decide +kernel
theorem dX5_takesDeed_140 : decode cX5_takesDeed 140 = .ok (.iconst 1, 1) := by decide +kernel
theorem dX5_takesDeed_141 : decode cX5_takesDeed 141 = .ok (.bipush 9, 2) := by decide +kernel
theorem dX5_takesDeed_143 : decode cX5_takesDeed 143 = .ok (.invokevirtual 96, 3) := by decide +kernel
theorem dX5_takesDeed_146 : decode cX5_takesDeed 146 = .ok (.ifCond .eq 7, 3) := by decide +kernel
theorem dX5_takesDeed_149 : decode cX5_takesDeed 149 = .ok (.iconst 1, 1) := by decide +kernel
theorem dX5_takesDeed_150 : decode cX5_takesDeed 150 = .ok (.goto 4, 3) := by decide +kernel
theorem dX5_takesDeed_153 : decode cX5_takesDeed 153 = .ok (.iconst 0, 1) := by decide +kernel
theorem dX5_takesDeed_154 : decode cX5_takesDeed 154 = .ok (.ireturn, 1) := by decide +kernel
theorem dX5_takesDeed_155 : decode cX5_takesDeed 155 = .ok (.aload_n 0, 1) := by decide +kernel
theorem dX5_takesDeed_156 : decode cX5_takesDeed 156 = .ok (.iconst 0, 1) := by decide +kernel
theorem dX5_takesDeed_157 : decode cX5_takesDeed 157 = .ok (.iconst 0, 1) := by decide +kernel
theorem dX5_takesDeed_158 : decode cX5_takesDeed 158 = .ok (.bipush 15, 2) := by decide +kernel
theorem dX5_takesDeed_160 : decode cX5_takesDeed 160 = .ok (.invokevirtual 96, 3) := by decide +kernel
theorem dX5_takesDeed_163 : decode cX5_takesDeed 163 = .ok (.ifCond .eq 26, 3) := by decide +kernel
theorem dX5_takesDeed_166 : decode cX5_takesDeed 166 = .ok (.aload_n 0, 1) := by decide +kernel
theorem dX5_takesDeed_167 : decode cX5_takesDeed 167 = .ok (.bipush 15, 2) := by decide +kernel
theorem dX5_takesDeed_169 : decode cX5_takesDeed 169 = .ok (.invokevirtual 93, 3) := by decide +kernel
theorem dX5_takesDeed_172 : decode cX5_takesDeed 172 = .ok (.ifCond .eq 17, 3) := by decide +kernel
theorem dX5_takesDeed_175 : decode cX5_takesDeed 175 = .ok (.aload_n 0, 1) := by decide +kernel
theorem dX5_takesDeed_176 : decode cX5_takesDeed 176 = .ok (.iconst 1, 1) := by decide +kernel
theorem dX5_takesDeed_177 : decode cX5_takesDeed 177 = .ok (.iconst 0, 1) := by decide +kernel
theorem dX5_takesDeed_178 : decode cX5_takesDeed 178 = .ok (.iconst 5, 1) := by decide +kernel
theorem dX5_takesDeed_179 : decode cX5_takesDeed 179 = .ok (.invokevirtual 96, 3) := by decide +kernel
theorem dX5_takesDeed_182 : decode cX5_takesDeed 182 = .ok (.ifCond .eq 7, 3) := by decide +kernel
theorem dX5_takesDeed_185 : decode cX5_takesDeed 185 = .ok (.iconst 1, 1) := by decide +kernel
theorem dX5_takesDeed_186 : decode cX5_takesDeed 186 = .ok (.goto 4, 3) := by decide +kernel
theorem dX5_takesDeed_189 : decode cX5_takesDeed 189 = .ok (.iconst 0, 1) := by decide +kernel
theorem dX5_takesDeed_190 : decode cX5_takesDeed 190 = .ok (.ireturn, 1) := by decide +kernel
theorem dX5_takesDeed_191 : decode cX5_takesDeed 191 = .ok (.aload_n 0, 1) := by decide +kernel
theorem dX5_takesDeed_192 : decode cX5_takesDeed 192 = .ok (.iconst 0, 1) := by decide +kernel
theorem dX5_takesDeed_193 : decode cX5_takesDeed 193 = .ok (.iconst 0, 1) := by decide +kernel
theorem dX5_takesDeed_194 : decode cX5_takesDeed 194 = .ok (.bipush 15, 2) := by decide +kernel
theorem dX5_takesDeed_196 : decode cX5_takesDeed 196 = .ok (.invokevirtual 96, 3) := by decide +kernel
theorem dX5_takesDeed_199 : decode cX5_takesDeed 199 = .ok (.ireturn, 1) := by decide +kernel
theorem dX5_takesDeed_200 : decode cX5_takesDeed 200 = .ok (.aload_n 0, 1) := by decide +kernel
theorem dX5_takesDeed_201 : decode cX5_takesDeed 201 = .ok (.iconst 0, 1) := by decide +kernel
theorem dX5_takesDeed_202 : decode cX5_takesDeed 202 = .ok (.iconst 1, 1) := by decide +kernel
theorem dX5_takesDeed_203 : decode cX5_takesDeed 203 = .ok (.bipush 99, 2) := by decide +kernel
theorem dX5_takesDeed_205 : decode cX5_takesDeed 205 = .ok (.invokevirtual 96, 3) := by decide +kernel
theorem dX5_takesDeed_208 : decode cX5_takesDeed 208 = .ok (.ireturn, 1) := by decide +kernel
theorem dX5_takesDeed_209 : decode cX5_takesDeed 209 = .ok (.aload_n 0, 1) := by decide +kernel
theorem dX5_takesDeed_210 : decode cX5_takesDeed 210 = .ok (.iconst 0, 1) := by decide +kernel
theorem dX5_takesDeed_211 : decode cX5_takesDeed 211 = .ok (.iconst 1, 1) := by decide +kernel
theorem dX5_takesDeed_212 : decode cX5_takesDeed 212 = .ok (.bipush 60, 2) := by decide +kernel
theorem dX5_takesDeed_214 : decode cX5_takesDeed 214 = .ok (.invokevirtual 96, 3) := by decide +kernel
theorem dX5_takesDeed_217 : decode cX5_takesDeed 217 = .ok (.ireturn, 1) := by decide +kernel
theorem dX5_takesLaw_0 : decode cX5_takesLaw 0 = .ok (.aload_n 0, 1) := by decide +kernel
theorem dX5_takesLaw_1 : decode cX5_takesLaw 1 = .ok (.iload_n 1, 1) := by decide +kernel
theorem dX5_takesLaw_2 : decode cX5_takesLaw 2 = .ok (.putfield 19, 3) := by decide +kernel
theorem dX5_takesLaw_5 : decode cX5_takesLaw 5 = .ok (.aload_n 0, 1) := by decide +kernel
theorem dX5_takesLaw_6 : decode cX5_takesLaw 6 = .ok (.getfield 9, 3) := by decide +kernel
theorem dX5_takesLaw_9 : decode cX5_takesLaw 9 = .ok (.getfield 99, 3) := by decide +kernel
theorem dX5_takesLaw_12 : decode cX5_takesLaw 12 = .ok (.istore_n 2, 1) := by decide +kernel
theorem dX5_takesLaw_13 : decode cX5_takesLaw 13 = .ok (.aload_n 0, 1) := by decide +kernel
theorem dX5_takesLaw_14 : decode cX5_takesLaw 14 = .ok (.iconst 0, 1) := by decide +kernel
theorem dX5_takesLaw_15 : decode cX5_takesLaw 15 = .ok (.invokevirtual 102, 3) := by decide +kernel
theorem dX5_takesLaw_18 : decode cX5_takesLaw 18 = .ok (.istore_n 3, 1) := by decide +kernel
theorem dX5_takesLaw_19 : decode cX5_takesLaw 19 = .ok (.aload_n 0, 1) := by decide +kernel
theorem dX5_takesLaw_20 : decode cX5_takesLaw 20 = .ok (.getfield 9, 3) := by decide +kernel
theorem dX5_takesLaw_23 : decode cX5_takesLaw 23 = .ok (.iload_n 1, 1) := by decide +kernel
theorem dX5_takesLaw_24 : decode cX5_takesLaw 24 = .ok (.iload_n 2, 1) := by decide +kernel
theorem dX5_takesLaw_25 : decode cX5_takesLaw 25 = .ok (.aload_n 0, 1) := by decide +kernel
theorem dX5_takesLaw_26 : decode cX5_takesLaw 26 = .ok (.getfield 9, 3) := by decide +kernel
theorem dX5_takesLaw_29 : decode cX5_takesLaw 29 = .ok (.getfield 99, 3) := by decide +kernel
theorem dX5_takesLaw_32 : decode cX5_takesLaw 32 = .ok (.invokevirtual 105, 3) := by decide +kernel
theorem dX5_takesLaw_35 : decode cX5_takesLaw 35 = .ok (.iload_n 3, 1) := by decide +kernel
theorem dX5_takesLaw_36 : decode cX5_takesLaw 36 = .ok (.ireturn, 1) := by decide +kernel
theorem dX5_takesSum_0 : decode cX5_takesSum 0 = .ok (.aload_n 0, 1) := by decide +kernel
theorem dX5_takesSum_1 : decode cX5_takesSum 1 = .ok (.iload_n 1, 1) := by decide +kernel
theorem dX5_takesSum_2 : decode cX5_takesSum 2 = .ok (.invokevirtual 109, 3) := by decide +kernel
theorem dX5_takesSum_5 : decode cX5_takesSum 5 = .ok (.istore_n 2, 1) := by decide +kernel
theorem dX5_takesSum_6 : decode cX5_takesSum 6 = .ok (.iconst 0, 1) := by decide +kernel
theorem dX5_takesSum_7 : decode cX5_takesSum 7 = .ok (.istore_n 3, 1) := by decide +kernel
theorem dX5_takesSum_8 : decode cX5_takesSum 8 = .ok (.iload_n 3, 1) := by decide +kernel
theorem dX5_takesSum_9 : decode cX5_takesSum 9 = .ok (.sipush 300, 3) := by decide +kernel
theorem dX5_takesSum_12 : decode cX5_takesSum 12 = .ok (.if_icmp .ge 64, 3) := by decide +kernel
theorem dX5_takesSum_15 : decode cX5_takesSum 15 = .ok (.iload_n 2, 1) := by decide +kernel
theorem dX5_takesSum_16 : decode cX5_takesSum 16 = .ok (.ifCond .eq 60, 3) := by decide +kernel
theorem dX5_takesSum_19 : decode cX5_takesSum 19 = .ok (.aload_n 0, 1) := by decide +kernel
theorem dX5_takesSum_20 : decode cX5_takesSum 20 = .ok (.invokevirtual 42, 3) := by decide +kernel
theorem dX5_takesSum_23 : decode cX5_takesSum 23 = .ok (.bipush 32, 2) := by decide +kernel
theorem dX5_takesSum_25 : decode cX5_takesSum 25 = .ok (.if_icmp .eq 12, 3) := by decide +kernel
theorem dX5_takesSum_28 : decode cX5_takesSum 28 = .ok (.aload_n 0, 1) := by decide +kernel
theorem dX5_takesSum_29 : decode cX5_takesSum 29 = .ok (.invokevirtual 42, 3) := by decide +kernel
theorem dX5_takesSum_32 : decode cX5_takesSum 32 = .ok (.bipush 33, 2) := by decide +kernel
theorem dX5_takesSum_34 : decode cX5_takesSum 34 = .ok (.if_icmp .ne 42, 3) := by decide +kernel
theorem dX5_takesSum_37 : decode cX5_takesSum 37 = .ok (.aload_n 0, 1) := by decide +kernel
theorem dX5_takesSum_38 : decode cX5_takesSum 38 = .ok (.invokevirtual 42, 3) := by decide +kernel
theorem dX5_takesSum_41 : decode cX5_takesSum 41 = .ok (.istore 4, 2) := by decide +kernel
theorem dX5_takesSum_43 : decode cX5_takesSum 43 = .ok (.aload_n 0, 1) := by decide +kernel
theorem dX5_takesSum_44 : decode cX5_takesSum 44 = .ok (.dup, 1) := by decide +kernel
theorem dX5_takesSum_45 : decode cX5_takesSum 45 = .ok (.getfield 15, 3) := by decide +kernel
theorem dX5_takesSum_48 : decode cX5_takesSum 48 = .ok (.iconst 1, 1) := by decide +kernel
theorem dX5_takesSum_49 : decode cX5_takesSum 49 = .ok (.iadd, 1) := by decide +kernel
theorem dX5_takesSum_50 : decode cX5_takesSum 50 = .ok (.putfield 15, 3) := by decide +kernel
theorem dX5_takesSum_53 : decode cX5_takesSum 53 = .ok (.aload_n 0, 1) := by decide +kernel
theorem dX5_takesSum_54 : decode cX5_takesSum 54 = .ok (.iload_n 1, 1) := by decide +kernel
theorem dX5_takesSum_55 : decode cX5_takesSum 55 = .ok (.invokevirtual 109, 3) := by decide +kernel
theorem dX5_takesSum_58 : decode cX5_takesSum 58 = .ok (.istore_n 2, 1) := by decide +kernel
theorem dX5_takesSum_59 : decode cX5_takesSum 59 = .ok (.aload_n 0, 1) := by decide +kernel
theorem dX5_takesSum_60 : decode cX5_takesSum 60 = .ok (.getfield 9, 3) := by decide +kernel
theorem dX5_takesSum_63 : decode cX5_takesSum 63 = .ok (.iload 4, 2) := by decide +kernel
theorem dX5_takesSum_65 : decode cX5_takesSum 65 = .ok (.iconst 0, 1) := by decide +kernel
theorem dX5_takesSum_66 : decode cX5_takesSum 66 = .ok (.invokevirtual 112, 3) := by decide +kernel
theorem dX5_takesSum_69 : decode cX5_takesSum 69 = .ok (.pop, 1) := by decide +kernel
theorem dX5_takesSum_70 : decode cX5_takesSum 70 = .ok (.iinc 3 1, 3) := by decide +kernel
theorem dX5_takesSum_73 : decode cX5_takesSum 73 = .ok (.goto (-65), 3) := by decide +kernel
theorem dX5_takesSum_76 : decode cX5_takesSum 76 = .ok (.iload_n 2, 1) := by decide +kernel
theorem dX5_takesSum_77 : decode cX5_takesSum 77 = .ok (.ireturn, 1) := by decide +kernel
theorem dX5_takesProduct_0 : decode cX5_takesProduct 0 = .ok (.aload_n 0, 1) := by decide +kernel
theorem dX5_takesProduct_1 : decode cX5_takesProduct 1 = .ok (.iload_n 1, 1) := by decide +kernel
theorem dX5_takesProduct_2 : decode cX5_takesProduct 2 = .ok (.invokevirtual 116, 3) := by decide +kernel
theorem dX5_takesProduct_5 : decode cX5_takesProduct 5 = .ok (.istore_n 2, 1) := by decide +kernel
theorem dX5_takesProduct_6 : decode cX5_takesProduct 6 = .ok (.iconst 0, 1) := by decide +kernel
theorem dX5_takesProduct_7 : decode cX5_takesProduct 7 = .ok (.istore_n 3, 1) := by decide +kernel
theorem dX5_takesProduct_8 : decode cX5_takesProduct 8 = .ok (.iload_n 3, 1) := by decide +kernel
theorem dX5_takesProduct_9 : decode cX5_takesProduct 9 = .ok (.sipush 300, 3) := by decide +kernel
theorem dX5_takesProduct_12 : decode cX5_takesProduct 12 = .ok (.if_icmp .ge 64, 3) := by decide +kernel
theorem dX5_takesProduct_15 : decode cX5_takesProduct 15 = .ok (.iload_n 2, 1) := by decide +kernel
theorem dX5_takesProduct_16 : decode cX5_takesProduct 16 = .ok (.ifCond .eq 60, 3) := by decide +kernel
theorem dX5_takesProduct_19 : decode cX5_takesProduct 19 = .ok (.aload_n 0, 1) := by decide +kernel
theorem dX5_takesProduct_20 : decode cX5_takesProduct 20 = .ok (.invokevirtual 42, 3) := by decide +kernel
theorem dX5_takesProduct_23 : decode cX5_takesProduct 23 = .ok (.bipush 34, 2) := by decide +kernel
theorem dX5_takesProduct_25 : decode cX5_takesProduct 25 = .ok (.if_icmp .eq 12, 3) := by decide +kernel
theorem dX5_takesProduct_28 : decode cX5_takesProduct 28 = .ok (.aload_n 0, 1) := by decide +kernel
theorem dX5_takesProduct_29 : decode cX5_takesProduct 29 = .ok (.invokevirtual 42, 3) := by decide +kernel
theorem dX5_takesProduct_32 : decode cX5_takesProduct 32 = .ok (.bipush 35, 2) := by decide +kernel
theorem dX5_takesProduct_34 : decode cX5_takesProduct 34 = .ok (.if_icmp .ne 42, 3) := by decide +kernel
theorem dX5_takesProduct_37 : decode cX5_takesProduct 37 = .ok (.aload_n 0, 1) := by decide +kernel
theorem dX5_takesProduct_38 : decode cX5_takesProduct 38 = .ok (.invokevirtual 42, 3) := by decide +kernel
theorem dX5_takesProduct_41 : decode cX5_takesProduct 41 = .ok (.istore 4, 2) := by decide +kernel
theorem dX5_takesProduct_43 : decode cX5_takesProduct 43 = .ok (.aload_n 0, 1) := by decide +kernel
theorem dX5_takesProduct_44 : decode cX5_takesProduct 44 = .ok (.dup, 1) := by decide +kernel
theorem dX5_takesProduct_45 : decode cX5_takesProduct 45 = .ok (.getfield 15, 3) := by decide +kernel
theorem dX5_takesProduct_48 : decode cX5_takesProduct 48 = .ok (.iconst 1, 1) := by decide +kernel
theorem dX5_takesProduct_49 : decode cX5_takesProduct 49 = .ok (.iadd, 1) := by decide +kernel
theorem dX5_takesProduct_50 : decode cX5_takesProduct 50 = .ok (.putfield 15, 3) := by decide +kernel
theorem dX5_takesProduct_53 : decode cX5_takesProduct 53 = .ok (.aload_n 0, 1) := by decide +kernel
theorem dX5_takesProduct_54 : decode cX5_takesProduct 54 = .ok (.iload_n 1, 1) := by decide +kernel
theorem dX5_takesProduct_55 : decode cX5_takesProduct 55 = .ok (.invokevirtual 116, 3) := by decide +kernel
theorem dX5_takesProduct_58 : decode cX5_takesProduct 58 = .ok (.istore_n 2, 1) := by decide +kernel
theorem dX5_takesProduct_59 : decode cX5_takesProduct 59 = .ok (.aload_n 0, 1) := by decide +kernel
theorem dX5_takesProduct_60 : decode cX5_takesProduct 60 = .ok (.getfield 9, 3) := by decide +kernel
theorem dX5_takesProduct_63 : decode cX5_takesProduct 63 = .ok (.iload 4, 2) := by decide +kernel
theorem dX5_takesProduct_65 : decode cX5_takesProduct 65 = .ok (.iconst 0, 1) := by decide +kernel
theorem dX5_takesProduct_66 : decode cX5_takesProduct 66 = .ok (.invokevirtual 112, 3) := by decide +kernel
theorem dX5_takesProduct_69 : decode cX5_takesProduct 69 = .ok (.pop, 1) := by decide +kernel
theorem dX5_takesProduct_70 : decode cX5_takesProduct 70 = .ok (.iinc 3 1, 3) := by decide +kernel
theorem dX5_takesProduct_73 : decode cX5_takesProduct 73 = .ok (.goto (-65), 3) := by decide +kernel
theorem dX5_takesProduct_76 : decode cX5_takesProduct 76 = .ok (.iload_n 2, 1) := by decide +kernel
theorem dX5_takesProduct_77 : decode cX5_takesProduct 77 = .ok (.ireturn, 1) := by decide +kernel
theorem dX5_takesOne_0 : decode cX5_takesOne 0 = .ok (.aload_n 0, 1) := by decide +kernel
theorem dX5_takesOne_1 : decode cX5_takesOne 1 = .ok (.invokevirtual 42, 3) := by decide +kernel
theorem dX5_takesOne_4 : decode cX5_takesOne 4 = .ok (.istore_n 2, 1) := by decide +kernel
theorem dX5_takesOne_5 : decode cX5_takesOne 5 = .ok (.iload_n 2, 1) := by decide +kernel
theorem dX5_takesOne_6 : decode cX5_takesOne 6 = .ok (.bipush 41, 2) := by decide +kernel
theorem dX5_takesOne_8 : decode cX5_takesOne 8 = .ok (.if_icmp .ne 8, 3) := by decide +kernel
theorem dX5_takesOne_11 : decode cX5_takesOne 11 = .ok (.aload_n 0, 1) := by decide +kernel
theorem dX5_takesOne_12 : decode cX5_takesOne 12 = .ok (.invokevirtual 119, 3) := by decide +kernel
theorem dX5_takesOne_15 : decode cX5_takesOne 15 = .ok (.ireturn, 1) := by decide +kernel
theorem dX5_takesOne_16 : decode cX5_takesOne 16 = .ok (.iload_n 2, 1) := by decide +kernel
theorem dX5_takesOne_17 : decode cX5_takesOne 17 = .ok (.invokestatic 122, 3) := by decide +kernel
theorem dX5_takesOne_20 : decode cX5_takesOne 20 = .ok (.ifCond .eq 9, 3) := by decide +kernel
theorem dX5_takesOne_23 : decode cX5_takesOne 23 = .ok (.aload_n 0, 1) := by decide +kernel
theorem dX5_takesOne_24 : decode cX5_takesOne 24 = .ok (.iload_n 2, 1) := by decide +kernel
theorem dX5_takesOne_25 : decode cX5_takesOne 25 = .ok (.invokevirtual 125, 3) := by decide +kernel
theorem dX5_takesOne_28 : decode cX5_takesOne 28 = .ok (.ireturn, 1) := by decide +kernel
theorem dX5_takesOne_29 : decode cX5_takesOne 29 = .ok (.iload_n 2, 1) := by decide +kernel
theorem dX5_takesOne_30 : decode cX5_takesOne 30 = .ok (.invokestatic 128, 3) := by decide +kernel
theorem dX5_takesOne_33 : decode cX5_takesOne 33 = .ok (.ifCond .ne 9, 3) := by decide +kernel
theorem dX5_takesOne_36 : decode cX5_takesOne 36 = .ok (.aload_n 0, 1) := by decide +kernel
theorem dX5_takesOne_37 : decode cX5_takesOne 37 = .ok (.iconst 1, 1) := by decide +kernel
theorem dX5_takesOne_38 : decode cX5_takesOne 38 = .ok (.invokevirtual 59, 3) := by decide +kernel
theorem dX5_takesOne_41 : decode cX5_takesOne 41 = .ok (.ireturn, 1) := by decide +kernel
theorem dX5_takesOne_42 : decode cX5_takesOne 42 = .ok (.iload_n 1, 1) := by decide +kernel
theorem dX5_takesOne_43 : decode cX5_takesOne 43 = .ok (.bipush 8, 2) := by decide +kernel
theorem dX5_takesOne_45 : decode cX5_takesOne 45 = .ok (.if_icmp .lt 9, 3) := by decide +kernel
theorem dX5_takesOne_48 : decode cX5_takesOne 48 = .ok (.aload_n 0, 1) := by decide +kernel
theorem dX5_takesOne_49 : decode cX5_takesOne 49 = .ok (.iconst 3, 1) := by decide +kernel
theorem dX5_takesOne_50 : decode cX5_takesOne 50 = .ok (.invokevirtual 59, 3) := by decide +kernel
theorem dX5_takesOne_53 : decode cX5_takesOne 53 = .ok (.ireturn, 1) := by decide +kernel
theorem dX5_takesOne_54 : decode cX5_takesOne 54 = .ok (.aload_n 0, 1) := by decide +kernel
theorem dX5_takesOne_55 : decode cX5_takesOne 55 = .ok (.dup, 1) := by decide +kernel
theorem dX5_takesOne_56 : decode cX5_takesOne 56 = .ok (.getfield 15, 3) := by decide +kernel
theorem dX5_takesOne_59 : decode cX5_takesOne 59 = .ok (.iconst 1, 1) := by decide +kernel
theorem dX5_takesOne_60 : decode cX5_takesOne 60 = .ok (.iadd, 1) := by decide +kernel
theorem dX5_takesOne_61 : decode cX5_takesOne 61 = .ok (.putfield 15, 3) := by decide +kernel
theorem dX5_takesOne_64 : decode cX5_takesOne 64 = .ok (.iload_n 2, 1) := by decide +kernel
theorem dX5_takesOne_65 : decode cX5_takesOne 65 = .ok (.lookupswitch 162 #[(18, 93), (20, 137), (33, 68), (36, 43)], 43) := by decide +kernel
theorem dX5_takesOne_108 : decode cX5_takesOne 108 = .ok (.aload_n 0, 1) := by decide +kernel
theorem dX5_takesOne_109 : decode cX5_takesOne 109 = .ok (.iload_n 1, 1) := by decide +kernel
theorem dX5_takesOne_110 : decode cX5_takesOne 110 = .ok (.iconst 1, 1) := by decide +kernel
theorem dX5_takesOne_111 : decode cX5_takesOne 111 = .ok (.iadd, 1) := by decide +kernel
theorem dX5_takesOne_112 : decode cX5_takesOne 112 = .ok (.invokevirtual 102, 3) := by decide +kernel
theorem dX5_takesOne_115 : decode cX5_takesOne 115 = .ok (.ifCond .eq 16, 3) := by decide +kernel
theorem dX5_takesOne_118 : decode cX5_takesOne 118 = .ok (.aload_n 0, 1) := by decide +kernel
theorem dX5_takesOne_119 : decode cX5_takesOne 119 = .ok (.bipush 37, 2) := by decide +kernel
theorem dX5_takesOne_121 : decode cX5_takesOne 121 = .ok (.invokevirtual 93, 3) := by decide +kernel
theorem dX5_takesOne_124 : decode cX5_takesOne 124 = .ok (.ifCond .eq 7, 3) := by decide +kernel
theorem dX5_takesOne_127 : decode cX5_takesOne 127 = .ok (.iconst 1, 1) := by decide +kernel
theorem dX5_takesOne_128 : decode cX5_takesOne 128 = .ok (.goto 4, 3) := by decide +kernel
theorem dX5_takesOne_131 : decode cX5_takesOne 131 = .ok (.iconst 0, 1) := by decide +kernel
theorem dX5_takesOne_132 : decode cX5_takesOne 132 = .ok (.ireturn, 1) := by decide +kernel
theorem dX5_takesOne_133 : decode cX5_takesOne 133 = .ok (.aload_n 0, 1) := by decide +kernel
theorem dX5_takesOne_134 : decode cX5_takesOne 134 = .ok (.iload_n 1, 1) := by decide +kernel
theorem dX5_takesOne_135 : decode cX5_takesOne 135 = .ok (.iconst 1, 1) := by decide +kernel
theorem dX5_takesOne_136 : decode cX5_takesOne 136 = .ok (.iadd, 1) := by decide +kernel
theorem dX5_takesOne_137 : decode cX5_takesOne 137 = .ok (.invokevirtual 116, 3) := by decide +kernel
theorem dX5_takesOne_140 : decode cX5_takesOne 140 = .ok (.ifCond .eq 16, 3) := by decide +kernel
theorem dX5_takesOne_143 : decode cX5_takesOne 143 = .ok (.aload_n 0, 1) := by decide +kernel
theorem dX5_takesOne_144 : decode cX5_takesOne 144 = .ok (.bipush 44, 2) := by decide +kernel
theorem dX5_takesOne_146 : decode cX5_takesOne 146 = .ok (.invokevirtual 131, 3) := by decide +kernel
theorem dX5_takesOne_149 : decode cX5_takesOne 149 = .ok (.ifCond .eq 7, 3) := by decide +kernel
theorem dX5_takesOne_152 : decode cX5_takesOne 152 = .ok (.iconst 1, 1) := by decide +kernel
theorem dX5_takesOne_153 : decode cX5_takesOne 153 = .ok (.goto 4, 3) := by decide +kernel
theorem dX5_takesOne_156 : decode cX5_takesOne 156 = .ok (.iconst 0, 1) := by decide +kernel
theorem dX5_takesOne_157 : decode cX5_takesOne 157 = .ok (.ireturn, 1) := by decide +kernel
theorem dX5_takesOne_158 : decode cX5_takesOne 158 = .ok (.aload_n 0, 1) := by decide +kernel
theorem dX5_takesOne_159 : decode cX5_takesOne 159 = .ok (.iload_n 1, 1) := by decide +kernel
theorem dX5_takesOne_160 : decode cX5_takesOne 160 = .ok (.iconst 1, 1) := by decide +kernel
theorem dX5_takesOne_161 : decode cX5_takesOne 161 = .ok (.iadd, 1) := by decide +kernel
theorem dX5_takesOne_162 : decode cX5_takesOne 162 = .ok (.invokevirtual 116, 3) := by decide +kernel
theorem dX5_takesOne_165 : decode cX5_takesOne 165 = .ok (.ifCond .eq 35, 3) := by decide +kernel
theorem dX5_takesOne_168 : decode cX5_takesOne 168 = .ok (.aload_n 0, 1) := by decide +kernel
theorem dX5_takesOne_169 : decode cX5_takesOne 169 = .ok (.bipush 19, 2) := by decide +kernel
theorem dX5_takesOne_171 : decode cX5_takesOne 171 = .ok (.invokevirtual 93, 3) := by decide +kernel
theorem dX5_takesOne_174 : decode cX5_takesOne 174 = .ok (.ifCond .eq 26, 3) := by decide +kernel
theorem dX5_takesOne_177 : decode cX5_takesOne 177 = .ok (.aload_n 0, 1) := by decide +kernel
theorem dX5_takesOne_178 : decode cX5_takesOne 178 = .ok (.iload_n 1, 1) := by decide +kernel
theorem dX5_takesOne_179 : decode cX5_takesOne 179 = .ok (.iconst 1, 1) := by decide +kernel
theorem dX5_takesOne_180 : decode cX5_takesOne 180 = .ok (.iadd, 1) := by decide +kernel
theorem dX5_takesOne_181 : decode cX5_takesOne 181 = .ok (.invokevirtual 116, 3) := by decide +kernel
theorem dX5_takesOne_184 : decode cX5_takesOne 184 = .ok (.ifCond .eq 16, 3) := by decide +kernel
theorem dX5_takesOne_187 : decode cX5_takesOne 187 = .ok (.aload_n 0, 1) := by decide +kernel
theorem dX5_takesOne_188 : decode cX5_takesOne 188 = .ok (.bipush 18, 2) := by decide +kernel
theorem dX5_takesOne_190 : decode cX5_takesOne 190 = .ok (.invokevirtual 131, 3) := by decide +kernel
theorem dX5_takesOne_193 : decode cX5_takesOne 193 = .ok (.ifCond .eq 7, 3) := by decide +kernel
theorem dX5_takesOne_196 : decode cX5_takesOne 196 = .ok (.iconst 1, 1) := by decide +kernel
theorem dX5_takesOne_197 : decode cX5_takesOne 197 = .ok (.goto 4, 3) := by decide +kernel
theorem dX5_takesOne_200 : decode cX5_takesOne 200 = .ok (.iconst 0, 1) := by decide +kernel
theorem dX5_takesOne_201 : decode cX5_takesOne 201 = .ok (.ireturn, 1) := by decide +kernel
theorem dX5_takesOne_202 : decode cX5_takesOne 202 = .ok (.aload_n 0, 1) := by decide +kernel
theorem dX5_takesOne_203 : decode cX5_takesOne 203 = .ok (.iload_n 1, 1) := by decide +kernel
theorem dX5_takesOne_204 : decode cX5_takesOne 204 = .ok (.iconst 1, 1) := by decide +kernel
theorem dX5_takesOne_205 : decode cX5_takesOne 205 = .ok (.iadd, 1) := by decide +kernel
theorem dX5_takesOne_206 : decode cX5_takesOne 206 = .ok (.invokevirtual 116, 3) := by decide +kernel
theorem dX5_takesOne_209 : decode cX5_takesOne 209 = .ok (.ifCond .eq 16, 3) := by decide +kernel
theorem dX5_takesOne_212 : decode cX5_takesOne 212 = .ok (.aload_n 0, 1) := by decide +kernel
theorem dX5_takesOne_213 : decode cX5_takesOne 213 = .ok (.bipush 20, 2) := by decide +kernel
theorem dX5_takesOne_215 : decode cX5_takesOne 215 = .ok (.invokevirtual 131, 3) := by decide +kernel
theorem dX5_takesOne_218 : decode cX5_takesOne 218 = .ok (.ifCond .eq 7, 3) := by decide +kernel
theorem dX5_takesOne_221 : decode cX5_takesOne 221 = .ok (.iconst 1, 1) := by decide +kernel
theorem dX5_takesOne_222 : decode cX5_takesOne 222 = .ok (.goto 4, 3) := by decide +kernel
theorem dX5_takesOne_225 : decode cX5_takesOne 225 = .ok (.iconst 0, 1) := by decide +kernel
theorem dX5_takesOne_226 : decode cX5_takesOne 226 = .ok (.ireturn, 1) := by decide +kernel
theorem dX5_takesOne_227 : decode cX5_takesOne 227 = .ok (.aload_n 0, 1) := by decide +kernel
theorem dX5_takesOne_228 : decode cX5_takesOne 228 = .ok (.iload_n 1, 1) := by decide +kernel
theorem dX5_takesOne_229 : decode cX5_takesOne 229 = .ok (.iconst 1, 1) := by decide +kernel
theorem dX5_takesOne_230 : decode cX5_takesOne 230 = .ok (.iadd, 1) := by decide +kernel
theorem dX5_takesOne_231 : decode cX5_takesOne 231 = .ok (.invokevirtual 134, 3) := by decide +kernel
theorem dX5_takesOne_234 : decode cX5_takesOne 234 = .ok (.ireturn, 1) := by decide +kernel
theorem dX5_opensOne_0 : decode cX5_opensOne 0 = .ok (.iload_n 0, 1) := by decide +kernel
theorem dX5_opensOne_1 : decode cX5_opensOne 1 = .ok (.bipush 36, 2) := by decide +kernel
theorem dX5_opensOne_3 : decode cX5_opensOne 3 = .ok (.if_icmp .eq 27, 3) := by decide +kernel
theorem dX5_opensOne_6 : decode cX5_opensOne 6 = .ok (.iload_n 0, 1) := by decide +kernel
theorem dX5_opensOne_7 : decode cX5_opensOne 7 = .ok (.bipush 33, 2) := by decide +kernel
theorem dX5_opensOne_9 : decode cX5_opensOne 9 = .ok (.if_icmp .eq 21, 3) := by decide +kernel
theorem dX5_opensOne_12 : decode cX5_opensOne 12 = .ok (.iload_n 0, 1) := by decide +kernel
theorem dX5_opensOne_13 : decode cX5_opensOne 13 = .ok (.bipush 18, 2) := by decide +kernel
theorem dX5_opensOne_15 : decode cX5_opensOne 15 = .ok (.if_icmp .eq 15, 3) := by decide +kernel
theorem dX5_opensOne_18 : decode cX5_opensOne 18 = .ok (.iload_n 0, 1) := by decide +kernel
theorem dX5_opensOne_19 : decode cX5_opensOne 19 = .ok (.bipush 20, 2) := by decide +kernel
theorem dX5_opensOne_21 : decode cX5_opensOne 21 = .ok (.if_icmp .eq 9, 3) := by decide +kernel
theorem dX5_opensOne_24 : decode cX5_opensOne 24 = .ok (.iload_n 0, 1) := by decide +kernel
theorem dX5_opensOne_25 : decode cX5_opensOne 25 = .ok (.bipush 21, 2) := by decide +kernel
theorem dX5_opensOne_27 : decode cX5_opensOne 27 = .ok (.if_icmp .ne 7, 3) := by decide +kernel
theorem dX5_opensOne_30 : decode cX5_opensOne 30 = .ok (.iconst 1, 1) := by decide +kernel
theorem dX5_opensOne_31 : decode cX5_opensOne 31 = .ok (.goto 4, 3) := by decide +kernel
theorem dX5_opensOne_34 : decode cX5_opensOne 34 = .ok (.iconst 0, 1) := by decide +kernel
theorem dX5_opensOne_35 : decode cX5_opensOne 35 = .ok (.ireturn, 1) := by decide +kernel
theorem dX5_emits_0 : decode cX5_emits 0 = .ok (.aload_n 0, 1) := by decide +kernel
theorem dX5_emits_1 : decode cX5_emits 1 = .ok (.getfield 9, 3) := by decide +kernel
theorem dX5_emits_4 : decode cX5_emits 4 = .ok (.iload_n 1, 1) := by decide +kernel
theorem dX5_emits_5 : decode cX5_emits 5 = .ok (.iconst 0, 1) := by decide +kernel
theorem dX5_emits_6 : decode cX5_emits 6 = .ok (.invokevirtual 112, 3) := by decide +kernel
theorem dX5_emits_9 : decode cX5_emits 9 = .ok (.pop, 1) := by decide +kernel
theorem dX5_emits_10 : decode cX5_emits 10 = .ok (.iconst 1, 1) := by decide +kernel
theorem dX5_emits_11 : decode cX5_emits 11 = .ok (.ireturn, 1) := by decide +kernel
theorem dX5_takesNumberOfLaw_0 : decode cX5_takesNumberOfLaw 0 = .ok (.aload_n 0, 1) := by decide +kernel
theorem dX5_takesNumberOfLaw_1 : decode cX5_takesNumberOfLaw 1 = .ok (.getfield 28, 3) := by decide +kernel
theorem dX5_takesNumberOfLaw_4 : decode cX5_takesNumberOfLaw 4 = .ok (.aload_n 0, 1) := by decide +kernel
theorem dX5_takesNumberOfLaw_5 : decode cX5_takesNumberOfLaw 5 = .ok (.getfield 15, 3) := by decide +kernel
theorem dX5_takesNumberOfLaw_8 : decode cX5_takesNumberOfLaw 8 = .ok (.invokevirtual 63, 3) := by decide +kernel
theorem dX5_takesNumberOfLaw_11 : decode cX5_takesNumberOfLaw 11 = .ok (.istore_n 1, 1) := by decide +kernel
theorem dX5_takesNumberOfLaw_12 : decode cX5_takesNumberOfLaw 12 = .ok (.iload_n 1, 1) := by decide +kernel
theorem dX5_takesNumberOfLaw_13 : decode cX5_takesNumberOfLaw 13 = .ok (.sipush 9999, 3) := by decide +kernel
theorem dX5_takesNumberOfLaw_16 : decode cX5_takesNumberOfLaw 16 = .ok (.if_icmp .le 9, 3) := by decide +kernel
theorem dX5_takesNumberOfLaw_19 : decode cX5_takesNumberOfLaw 19 = .ok (.aload_n 0, 1) := by decide +kernel
theorem dX5_takesNumberOfLaw_20 : decode cX5_takesNumberOfLaw 20 = .ok (.iconst 2, 1) := by decide +kernel
theorem dX5_takesNumberOfLaw_21 : decode cX5_takesNumberOfLaw 21 = .ok (.invokevirtual 59, 3) := by decide +kernel
theorem dX5_takesNumberOfLaw_24 : decode cX5_takesNumberOfLaw 24 = .ok (.ireturn, 1) := by decide +kernel
theorem dX5_takesNumberOfLaw_25 : decode cX5_takesNumberOfLaw 25 = .ok (.aload_n 0, 1) := by decide +kernel
theorem dX5_takesNumberOfLaw_26 : decode cX5_takesNumberOfLaw 26 = .ok (.getfield 9, 3) := by decide +kernel
theorem dX5_takesNumberOfLaw_29 : decode cX5_takesNumberOfLaw 29 = .ok (.bipush 41, 2) := by decide +kernel
theorem dX5_takesNumberOfLaw_31 : decode cX5_takesNumberOfLaw 31 = .ok (.iload_n 1, 1) := by decide +kernel
theorem dX5_takesNumberOfLaw_32 : decode cX5_takesNumberOfLaw 32 = .ok (.invokevirtual 112, 3) := by decide +kernel
theorem dX5_takesNumberOfLaw_35 : decode cX5_takesNumberOfLaw 35 = .ok (.pop, 1) := by decide +kernel
theorem dX5_takesNumberOfLaw_36 : decode cX5_takesNumberOfLaw 36 = .ok (.aload_n 0, 1) := by decide +kernel
theorem dX5_takesNumberOfLaw_37 : decode cX5_takesNumberOfLaw 37 = .ok (.dup, 1) := by decide +kernel
theorem dX5_takesNumberOfLaw_38 : decode cX5_takesNumberOfLaw 38 = .ok (.getfield 15, 3) := by decide +kernel
theorem dX5_takesNumberOfLaw_41 : decode cX5_takesNumberOfLaw 41 = .ok (.iconst 1, 1) := by decide +kernel
theorem dX5_takesNumberOfLaw_42 : decode cX5_takesNumberOfLaw 42 = .ok (.iadd, 1) := by decide +kernel
theorem dX5_takesNumberOfLaw_43 : decode cX5_takesNumberOfLaw 43 = .ok (.putfield 15, 3) := by decide +kernel
theorem dX5_takesNumberOfLaw_46 : decode cX5_takesNumberOfLaw 46 = .ok (.iconst 1, 1) := by decide +kernel
theorem dX5_takesNumberOfLaw_47 : decode cX5_takesNumberOfLaw 47 = .ok (.ireturn, 1) := by decide +kernel
theorem dX5_takesName_0 : decode cX5_takesName 0 = .ok (.iload_n 1, 1) := by decide +kernel
theorem dX5_takesName_1 : decode cX5_takesName 1 = .ok (.aload_n 0, 1) := by decide +kernel
theorem dX5_takesName_2 : decode cX5_takesName 2 = .ok (.getfield 19, 3) := by decide +kernel
theorem dX5_takesName_5 : decode cX5_takesName 5 = .ok (.invokestatic 137, 3) := by decide +kernel
theorem dX5_takesName_8 : decode cX5_takesName 8 = .ok (.ifCond .ne 9, 3) := by decide +kernel
theorem dX5_takesName_11 : decode cX5_takesName 11 = .ok (.aload_n 0, 1) := by decide +kernel
theorem dX5_takesName_12 : decode cX5_takesName 12 = .ok (.iconst 5, 1) := by decide +kernel
theorem dX5_takesName_13 : decode cX5_takesName 13 = .ok (.invokevirtual 59, 3) := by decide +kernel
theorem dX5_takesName_16 : decode cX5_takesName 16 = .ok (.ireturn, 1) := by decide +kernel
theorem dX5_takesName_17 : decode cX5_takesName 17 = .ok (.aload_n 0, 1) := by decide +kernel
theorem dX5_takesName_18 : decode cX5_takesName 18 = .ok (.dup, 1) := by decide +kernel
theorem dX5_takesName_19 : decode cX5_takesName 19 = .ok (.getfield 15, 3) := by decide +kernel
theorem dX5_takesName_22 : decode cX5_takesName 22 = .ok (.iconst 1, 1) := by decide +kernel
theorem dX5_takesName_23 : decode cX5_takesName 23 = .ok (.iadd, 1) := by decide +kernel
theorem dX5_takesName_24 : decode cX5_takesName 24 = .ok (.putfield 15, 3) := by decide +kernel
theorem dX5_takesName_27 : decode cX5_takesName 27 = .ok (.aload_n 0, 1) := by decide +kernel
theorem dX5_takesName_28 : decode cX5_takesName 28 = .ok (.iload_n 1, 1) := by decide +kernel
theorem dX5_takesName_29 : decode cX5_takesName 29 = .ok (.invokevirtual 131, 3) := by decide +kernel
theorem dX5_takesName_32 : decode cX5_takesName 32 = .ok (.ireturn, 1) := by decide +kernel
theorem dX5_takesChoice_0 : decode cX5_takesChoice 0 = .ok (.aload_n 0, 1) := by decide +kernel
theorem dX5_takesChoice_1 : decode cX5_takesChoice 1 = .ok (.iload_n 1, 1) := by decide +kernel
theorem dX5_takesChoice_2 : decode cX5_takesChoice 2 = .ok (.invokevirtual 141, 3) := by decide +kernel
theorem dX5_takesChoice_5 : decode cX5_takesChoice 5 = .ok (.ifCond .eq 12, 3) := by decide +kernel
theorem dX5_takesChoice_8 : decode cX5_takesChoice 8 = .ok (.aload_n 0, 1) := by decide +kernel
theorem dX5_takesChoice_9 : decode cX5_takesChoice 9 = .ok (.bipush 22, 2) := by decide +kernel
theorem dX5_takesChoice_11 : decode cX5_takesChoice 11 = .ok (.invokevirtual 93, 3) := by decide +kernel
theorem dX5_takesChoice_14 : decode cX5_takesChoice 14 = .ok (.ifCond .ne 5, 3) := by decide +kernel
theorem dX5_takesChoice_17 : decode cX5_takesChoice 17 = .ok (.iconst 0, 1) := by decide +kernel
theorem dX5_takesChoice_18 : decode cX5_takesChoice 18 = .ok (.ireturn, 1) := by decide +kernel
theorem dX5_takesChoice_19 : decode cX5_takesChoice 19 = .ok (.aload_n 0, 1) := by decide +kernel
theorem dX5_takesChoice_20 : decode cX5_takesChoice 20 = .ok (.getfield 9, 3) := by decide +kernel
theorem dX5_takesChoice_23 : decode cX5_takesChoice 23 = .ok (.bipush 22, 2) := by decide +kernel
theorem dX5_takesChoice_25 : decode cX5_takesChoice 25 = .ok (.iconst 0, 1) := by decide +kernel
theorem dX5_takesChoice_26 : decode cX5_takesChoice 26 = .ok (.invokevirtual 112, 3) := by decide +kernel
theorem dX5_takesChoice_29 : decode cX5_takesChoice 29 = .ok (.istore_n 2, 1) := by decide +kernel
theorem dX5_takesChoice_30 : decode cX5_takesChoice 30 = .ok (.aload_n 0, 1) := by decide +kernel
theorem dX5_takesChoice_31 : decode cX5_takesChoice 31 = .ok (.iload_n 1, 1) := by decide +kernel
theorem dX5_takesChoice_32 : decode cX5_takesChoice 32 = .ok (.invokevirtual 102, 3) := by decide +kernel
theorem dX5_takesChoice_35 : decode cX5_takesChoice 35 = .ok (.ifCond .eq 12, 3) := by decide +kernel
theorem dX5_takesChoice_38 : decode cX5_takesChoice 38 = .ok (.aload_n 0, 1) := by decide +kernel
theorem dX5_takesChoice_39 : decode cX5_takesChoice 39 = .ok (.bipush 23, 2) := by decide +kernel
theorem dX5_takesChoice_41 : decode cX5_takesChoice 41 = .ok (.invokevirtual 93, 3) := by decide +kernel
theorem dX5_takesChoice_44 : decode cX5_takesChoice 44 = .ok (.ifCond .ne 5, 3) := by decide +kernel
theorem dX5_takesChoice_47 : decode cX5_takesChoice 47 = .ok (.iconst 0, 1) := by decide +kernel
theorem dX5_takesChoice_48 : decode cX5_takesChoice 48 = .ok (.ireturn, 1) := by decide +kernel
theorem dX5_takesChoice_49 : decode cX5_takesChoice 49 = .ok (.aload_n 0, 1) := by decide +kernel
theorem dX5_takesChoice_50 : decode cX5_takesChoice 50 = .ok (.getfield 9, 3) := by decide +kernel
theorem dX5_takesChoice_53 : decode cX5_takesChoice 53 = .ok (.bipush 23, 2) := by decide +kernel
theorem dX5_takesChoice_55 : decode cX5_takesChoice 55 = .ok (.iconst 0, 1) := by decide +kernel
theorem dX5_takesChoice_56 : decode cX5_takesChoice 56 = .ok (.invokevirtual 112, 3) := by decide +kernel
theorem dX5_takesChoice_59 : decode cX5_takesChoice 59 = .ok (.istore_n 3, 1) := by decide +kernel
theorem dX5_takesChoice_60 : decode cX5_takesChoice 60 = .ok (.aload_n 0, 1) := by decide +kernel
theorem dX5_takesChoice_61 : decode cX5_takesChoice 61 = .ok (.getfield 9, 3) := by decide +kernel
theorem dX5_takesChoice_64 : decode cX5_takesChoice 64 = .ok (.iload_n 2, 1) := by decide +kernel
theorem dX5_takesChoice_65 : decode cX5_takesChoice 65 = .ok (.iload_n 3, 1) := by decide +kernel
theorem dX5_takesChoice_66 : decode cX5_takesChoice 66 = .ok (.invokevirtual 144, 3) := by decide +kernel
theorem dX5_takesChoice_69 : decode cX5_takesChoice 69 = .ok (.aload_n 0, 1) := by decide +kernel
theorem dX5_takesChoice_70 : decode cX5_takesChoice 70 = .ok (.iload_n 1, 1) := by decide +kernel
theorem dX5_takesChoice_71 : decode cX5_takesChoice 71 = .ok (.invokevirtual 102, 3) := by decide +kernel
theorem dX5_takesChoice_74 : decode cX5_takesChoice 74 = .ok (.ifCond .eq 12, 3) := by decide +kernel
theorem dX5_takesChoice_77 : decode cX5_takesChoice 77 = .ok (.aload_n 0, 1) := by decide +kernel
theorem dX5_takesChoice_78 : decode cX5_takesChoice 78 = .ok (.bipush 24, 2) := by decide +kernel
theorem dX5_takesChoice_80 : decode cX5_takesChoice 80 = .ok (.invokevirtual 93, 3) := by decide +kernel
theorem dX5_takesChoice_83 : decode cX5_takesChoice 83 = .ok (.ifCond .ne 5, 3) := by decide +kernel
theorem dX5_takesChoice_86 : decode cX5_takesChoice 86 = .ok (.iconst 0, 1) := by decide +kernel
theorem dX5_takesChoice_87 : decode cX5_takesChoice 87 = .ok (.ireturn, 1) := by decide +kernel
theorem dX5_takesChoice_88 : decode cX5_takesChoice 88 = .ok (.aload_n 0, 1) := by decide +kernel
theorem dX5_takesChoice_89 : decode cX5_takesChoice 89 = .ok (.getfield 9, 3) := by decide +kernel
theorem dX5_takesChoice_92 : decode cX5_takesChoice 92 = .ok (.iload_n 3, 1) := by decide +kernel
theorem dX5_takesChoice_93 : decode cX5_takesChoice 93 = .ok (.aload_n 0, 1) := by decide +kernel
theorem dX5_takesChoice_94 : decode cX5_takesChoice 94 = .ok (.getfield 9, 3) := by decide +kernel
theorem dX5_takesChoice_97 : decode cX5_takesChoice 97 = .ok (.getfield 99, 3) := by decide +kernel
theorem dX5_takesChoice_100 : decode cX5_takesChoice 100 = .ok (.iconst 1, 1) := by decide +kernel
theorem dX5_takesChoice_101 : decode cX5_takesChoice 101 = .ok (.isub, 1) := by decide +kernel
theorem dX5_takesChoice_102 : decode cX5_takesChoice 102 = .ok (.invokevirtual 144, 3) := by decide +kernel
theorem dX5_takesChoice_105 : decode cX5_takesChoice 105 = .ok (.iconst 1, 1) := by decide +kernel
theorem dX5_takesChoice_106 : decode cX5_takesChoice 106 = .ok (.ireturn, 1) := by decide +kernel
theorem dX5_takesEither_0 : decode cX5_takesEither 0 = .ok (.aload_n 0, 1) := by decide +kernel
theorem dX5_takesEither_1 : decode cX5_takesEither 1 = .ok (.iload_n 1, 1) := by decide +kernel
theorem dX5_takesEither_2 : decode cX5_takesEither 2 = .ok (.invokevirtual 147, 3) := by decide +kernel
theorem dX5_takesEither_5 : decode cX5_takesEither 5 = .ok (.istore_n 2, 1) := by decide +kernel
theorem dX5_takesEither_6 : decode cX5_takesEither 6 = .ok (.iconst 0, 1) := by decide +kernel
theorem dX5_takesEither_7 : decode cX5_takesEither 7 = .ok (.istore_n 3, 1) := by decide +kernel
theorem dX5_takesEither_8 : decode cX5_takesEither 8 = .ok (.iload_n 3, 1) := by decide +kernel
theorem dX5_takesEither_9 : decode cX5_takesEither 9 = .ok (.sipush 300, 3) := by decide +kernel
theorem dX5_takesEither_12 : decode cX5_takesEither 12 = .ok (.if_icmp .ge 49, 3) := by decide +kernel
theorem dX5_takesEither_15 : decode cX5_takesEither 15 = .ok (.iload_n 2, 1) := by decide +kernel
theorem dX5_takesEither_16 : decode cX5_takesEither 16 = .ok (.ifCond .eq 45, 3) := by decide +kernel
theorem dX5_takesEither_19 : decode cX5_takesEither 19 = .ok (.aload_n 0, 1) := by decide +kernel
theorem dX5_takesEither_20 : decode cX5_takesEither 20 = .ok (.invokevirtual 42, 3) := by decide +kernel
theorem dX5_takesEither_23 : decode cX5_takesEither 23 = .ok (.bipush 25, 2) := by decide +kernel
theorem dX5_takesEither_25 : decode cX5_takesEither 25 = .ok (.if_icmp .ne 36, 3) := by decide +kernel
theorem dX5_takesEither_28 : decode cX5_takesEither 28 = .ok (.aload_n 0, 1) := by decide +kernel
theorem dX5_takesEither_29 : decode cX5_takesEither 29 = .ok (.dup, 1) := by decide +kernel
theorem dX5_takesEither_30 : decode cX5_takesEither 30 = .ok (.getfield 15, 3) := by decide +kernel
theorem dX5_takesEither_33 : decode cX5_takesEither 33 = .ok (.iconst 1, 1) := by decide +kernel
theorem dX5_takesEither_34 : decode cX5_takesEither 34 = .ok (.iadd, 1) := by decide +kernel
theorem dX5_takesEither_35 : decode cX5_takesEither 35 = .ok (.putfield 15, 3) := by decide +kernel
theorem dX5_takesEither_38 : decode cX5_takesEither 38 = .ok (.aload_n 0, 1) := by decide +kernel
theorem dX5_takesEither_39 : decode cX5_takesEither 39 = .ok (.iload_n 1, 1) := by decide +kernel
theorem dX5_takesEither_40 : decode cX5_takesEither 40 = .ok (.invokevirtual 147, 3) := by decide +kernel
theorem dX5_takesEither_43 : decode cX5_takesEither 43 = .ok (.istore_n 2, 1) := by decide +kernel
theorem dX5_takesEither_44 : decode cX5_takesEither 44 = .ok (.aload_n 0, 1) := by decide +kernel
theorem dX5_takesEither_45 : decode cX5_takesEither 45 = .ok (.getfield 9, 3) := by decide +kernel
theorem dX5_takesEither_48 : decode cX5_takesEither 48 = .ok (.bipush 25, 2) := by decide +kernel
theorem dX5_takesEither_50 : decode cX5_takesEither 50 = .ok (.iconst 0, 1) := by decide +kernel
theorem dX5_takesEither_51 : decode cX5_takesEither 51 = .ok (.invokevirtual 112, 3) := by decide +kernel
theorem dX5_takesEither_54 : decode cX5_takesEither 54 = .ok (.pop, 1) := by decide +kernel
theorem dX5_takesEither_55 : decode cX5_takesEither 55 = .ok (.iinc 3 1, 3) := by decide +kernel
theorem dX5_takesEither_58 : decode cX5_takesEither 58 = .ok (.goto (-50), 3) := by decide +kernel
theorem dX5_takesEither_61 : decode cX5_takesEither 61 = .ok (.iload_n 2, 1) := by decide +kernel
theorem dX5_takesEither_62 : decode cX5_takesEither 62 = .ok (.ireturn, 1) := by decide +kernel
theorem dX5_takesBoth_0 : decode cX5_takesBoth 0 = .ok (.aload_n 0, 1) := by decide +kernel
theorem dX5_takesBoth_1 : decode cX5_takesBoth 1 = .ok (.iload_n 1, 1) := by decide +kernel
theorem dX5_takesBoth_2 : decode cX5_takesBoth 2 = .ok (.invokevirtual 150, 3) := by decide +kernel
theorem dX5_takesBoth_5 : decode cX5_takesBoth 5 = .ok (.istore_n 2, 1) := by decide +kernel
theorem dX5_takesBoth_6 : decode cX5_takesBoth 6 = .ok (.iconst 0, 1) := by decide +kernel
theorem dX5_takesBoth_7 : decode cX5_takesBoth 7 = .ok (.istore_n 3, 1) := by decide +kernel
theorem dX5_takesBoth_8 : decode cX5_takesBoth 8 = .ok (.iload_n 3, 1) := by decide +kernel
theorem dX5_takesBoth_9 : decode cX5_takesBoth 9 = .ok (.sipush 300, 3) := by decide +kernel
theorem dX5_takesBoth_12 : decode cX5_takesBoth 12 = .ok (.if_icmp .ge 49, 3) := by decide +kernel
theorem dX5_takesBoth_15 : decode cX5_takesBoth 15 = .ok (.iload_n 2, 1) := by decide +kernel
theorem dX5_takesBoth_16 : decode cX5_takesBoth 16 = .ok (.ifCond .eq 45, 3) := by decide +kernel
theorem dX5_takesBoth_19 : decode cX5_takesBoth 19 = .ok (.aload_n 0, 1) := by decide +kernel
theorem dX5_takesBoth_20 : decode cX5_takesBoth 20 = .ok (.invokevirtual 42, 3) := by decide +kernel
theorem dX5_takesBoth_23 : decode cX5_takesBoth 23 = .ok (.bipush 26, 2) := by decide +kernel
theorem dX5_takesBoth_25 : decode cX5_takesBoth 25 = .ok (.if_icmp .ne 36, 3) := by decide +kernel
theorem dX5_takesBoth_28 : decode cX5_takesBoth 28 = .ok (.aload_n 0, 1) := by decide +kernel
theorem dX5_takesBoth_29 : decode cX5_takesBoth 29 = .ok (.dup, 1) := by decide +kernel
theorem dX5_takesBoth_30 : decode cX5_takesBoth 30 = .ok (.getfield 15, 3) := by decide +kernel
theorem dX5_takesBoth_33 : decode cX5_takesBoth 33 = .ok (.iconst 1, 1) := by decide +kernel
theorem dX5_takesBoth_34 : decode cX5_takesBoth 34 = .ok (.iadd, 1) := by decide +kernel
theorem dX5_takesBoth_35 : decode cX5_takesBoth 35 = .ok (.putfield 15, 3) := by decide +kernel
theorem dX5_takesBoth_38 : decode cX5_takesBoth 38 = .ok (.aload_n 0, 1) := by decide +kernel
theorem dX5_takesBoth_39 : decode cX5_takesBoth 39 = .ok (.iload_n 1, 1) := by decide +kernel
theorem dX5_takesBoth_40 : decode cX5_takesBoth 40 = .ok (.invokevirtual 150, 3) := by decide +kernel
theorem dX5_takesBoth_43 : decode cX5_takesBoth 43 = .ok (.istore_n 2, 1) := by decide +kernel
theorem dX5_takesBoth_44 : decode cX5_takesBoth 44 = .ok (.aload_n 0, 1) := by decide +kernel
theorem dX5_takesBoth_45 : decode cX5_takesBoth 45 = .ok (.getfield 9, 3) := by decide +kernel
theorem dX5_takesBoth_48 : decode cX5_takesBoth 48 = .ok (.bipush 26, 2) := by decide +kernel
theorem dX5_takesBoth_50 : decode cX5_takesBoth 50 = .ok (.iconst 0, 1) := by decide +kernel
theorem dX5_takesBoth_51 : decode cX5_takesBoth 51 = .ok (.invokevirtual 112, 3) := by decide +kernel
theorem dX5_takesBoth_54 : decode cX5_takesBoth 54 = .ok (.pop, 1) := by decide +kernel
theorem dX5_takesBoth_55 : decode cX5_takesBoth 55 = .ok (.iinc 3 1, 3) := by decide +kernel
theorem dX5_takesBoth_58 : decode cX5_takesBoth 58 = .ok (.goto (-50), 3) := by decide +kernel
theorem dX5_takesBoth_61 : decode cX5_takesBoth 61 = .ok (.iload_n 2, 1) := by decide +kernel
theorem dX5_takesBoth_62 : decode cX5_takesBoth 62 = .ok (.ireturn, 1) := by decide +kernel
theorem dX5_takesAsk_0 : decode cX5_takesAsk 0 = .ok (.aload_n 0, 1) := by decide +kernel
theorem dX5_takesAsk_1 : decode cX5_takesAsk 1 = .ok (.invokevirtual 42, 3) := by decide +kernel
theorem dX5_takesAsk_4 : decode cX5_takesAsk 4 = .ok (.bipush 27, 2) := by decide +kernel
theorem dX5_takesAsk_6 : decode cX5_takesAsk 6 = .ok (.if_icmp .ne 50, 3) := by decide +kernel
theorem dX5_takesAsk_9 : decode cX5_takesAsk 9 = .ok (.iload_n 1, 1) := by decide +kernel
theorem dX5_takesAsk_10 : decode cX5_takesAsk 10 = .ok (.bipush 8, 2) := by decide +kernel
theorem dX5_takesAsk_12 : decode cX5_takesAsk 12 = .ok (.if_icmp .lt 9, 3) := by decide +kernel
theorem dX5_takesAsk_15 : decode cX5_takesAsk 15 = .ok (.aload_n 0, 1) := by decide +kernel
theorem dX5_takesAsk_16 : decode cX5_takesAsk 16 = .ok (.iconst 3, 1) := by decide +kernel
theorem dX5_takesAsk_17 : decode cX5_takesAsk 17 = .ok (.invokevirtual 59, 3) := by decide +kernel
theorem dX5_takesAsk_20 : decode cX5_takesAsk 20 = .ok (.ireturn, 1) := by decide +kernel
theorem dX5_takesAsk_21 : decode cX5_takesAsk 21 = .ok (.aload_n 0, 1) := by decide +kernel
theorem dX5_takesAsk_22 : decode cX5_takesAsk 22 = .ok (.dup, 1) := by decide +kernel
theorem dX5_takesAsk_23 : decode cX5_takesAsk 23 = .ok (.getfield 15, 3) := by decide +kernel
theorem dX5_takesAsk_26 : decode cX5_takesAsk 26 = .ok (.iconst 1, 1) := by decide +kernel
theorem dX5_takesAsk_27 : decode cX5_takesAsk 27 = .ok (.iadd, 1) := by decide +kernel
theorem dX5_takesAsk_28 : decode cX5_takesAsk 28 = .ok (.putfield 15, 3) := by decide +kernel
theorem dX5_takesAsk_31 : decode cX5_takesAsk 31 = .ok (.aload_n 0, 1) := by decide +kernel
theorem dX5_takesAsk_32 : decode cX5_takesAsk 32 = .ok (.iload_n 1, 1) := by decide +kernel
theorem dX5_takesAsk_33 : decode cX5_takesAsk 33 = .ok (.iconst 1, 1) := by decide +kernel
theorem dX5_takesAsk_34 : decode cX5_takesAsk 34 = .ok (.iadd, 1) := by decide +kernel
theorem dX5_takesAsk_35 : decode cX5_takesAsk 35 = .ok (.invokevirtual 150, 3) := by decide +kernel
theorem dX5_takesAsk_38 : decode cX5_takesAsk 38 = .ok (.ifCond .eq 16, 3) := by decide +kernel
theorem dX5_takesAsk_41 : decode cX5_takesAsk 41 = .ok (.aload_n 0, 1) := by decide +kernel
theorem dX5_takesAsk_42 : decode cX5_takesAsk 42 = .ok (.bipush 27, 2) := by decide +kernel
theorem dX5_takesAsk_44 : decode cX5_takesAsk 44 = .ok (.invokevirtual 131, 3) := by decide +kernel
theorem dX5_takesAsk_47 : decode cX5_takesAsk 47 = .ok (.ifCond .eq 7, 3) := by decide +kernel
theorem dX5_takesAsk_50 : decode cX5_takesAsk 50 = .ok (.iconst 1, 1) := by decide +kernel
theorem dX5_takesAsk_51 : decode cX5_takesAsk 51 = .ok (.goto 4, 3) := by decide +kernel
theorem dX5_takesAsk_54 : decode cX5_takesAsk 54 = .ok (.iconst 0, 1) := by decide +kernel
theorem dX5_takesAsk_55 : decode cX5_takesAsk 55 = .ok (.ireturn, 1) := by decide +kernel
theorem dX5_takesAsk_56 : decode cX5_takesAsk 56 = .ok (.aload_n 0, 1) := by decide +kernel
theorem dX5_takesAsk_57 : decode cX5_takesAsk 57 = .ok (.iload_n 1, 1) := by decide +kernel
theorem dX5_takesAsk_58 : decode cX5_takesAsk 58 = .ok (.invokevirtual 102, 3) := by decide +kernel
theorem dX5_takesAsk_61 : decode cX5_takesAsk 61 = .ok (.ifCond .ne 5, 3) := by decide +kernel
theorem dX5_takesAsk_64 : decode cX5_takesAsk 64 = .ok (.iconst 0, 1) := by decide +kernel
theorem dX5_takesAsk_65 : decode cX5_takesAsk 65 = .ok (.ireturn, 1) := by decide +kernel
theorem dX5_takesAsk_66 : decode cX5_takesAsk 66 = .ok (.aload_n 0, 1) := by decide +kernel
theorem dX5_takesAsk_67 : decode cX5_takesAsk 67 = .ok (.invokevirtual 42, 3) := by decide +kernel
theorem dX5_takesAsk_70 : decode cX5_takesAsk 70 = .ok (.istore_n 2, 1) := by decide +kernel
theorem dX5_takesAsk_71 : decode cX5_takesAsk 71 = .ok (.iload_n 2, 1) := by decide +kernel
theorem dX5_takesAsk_72 : decode cX5_takesAsk 72 = .ok (.invokestatic 153, 3) := by decide +kernel
theorem dX5_takesAsk_75 : decode cX5_takesAsk 75 = .ok (.ifCond .ne 9, 3) := by decide +kernel
theorem dX5_takesAsk_78 : decode cX5_takesAsk 78 = .ok (.aload_n 0, 1) := by decide +kernel
theorem dX5_takesAsk_79 : decode cX5_takesAsk 79 = .ok (.iconst 1, 1) := by decide +kernel
theorem dX5_takesAsk_80 : decode cX5_takesAsk 80 = .ok (.invokevirtual 59, 3) := by decide +kernel
theorem dX5_takesAsk_83 : decode cX5_takesAsk 83 = .ok (.ireturn, 1) := by decide +kernel
theorem dX5_takesAsk_84 : decode cX5_takesAsk 84 = .ok (.aload_n 0, 1) := by decide +kernel
theorem dX5_takesAsk_85 : decode cX5_takesAsk 85 = .ok (.dup, 1) := by decide +kernel
theorem dX5_takesAsk_86 : decode cX5_takesAsk 86 = .ok (.getfield 15, 3) := by decide +kernel
theorem dX5_takesAsk_89 : decode cX5_takesAsk 89 = .ok (.iconst 1, 1) := by decide +kernel
theorem dX5_takesAsk_90 : decode cX5_takesAsk 90 = .ok (.iadd, 1) := by decide +kernel
theorem dX5_takesAsk_91 : decode cX5_takesAsk 91 = .ok (.putfield 15, 3) := by decide +kernel
theorem dX5_takesAsk_94 : decode cX5_takesAsk 94 = .ok (.aload_n 0, 1) := by decide +kernel
theorem dX5_takesAsk_95 : decode cX5_takesAsk 95 = .ok (.iload_n 1, 1) := by decide +kernel
theorem dX5_takesAsk_96 : decode cX5_takesAsk 96 = .ok (.invokevirtual 102, 3) := by decide +kernel
theorem dX5_takesAsk_99 : decode cX5_takesAsk 99 = .ok (.ifCond .eq 15, 3) := by decide +kernel
theorem dX5_takesAsk_102 : decode cX5_takesAsk 102 = .ok (.aload_n 0, 1) := by decide +kernel
theorem dX5_takesAsk_103 : decode cX5_takesAsk 103 = .ok (.iload_n 2, 1) := by decide +kernel
theorem dX5_takesAsk_104 : decode cX5_takesAsk 104 = .ok (.invokevirtual 131, 3) := by decide +kernel
theorem dX5_takesAsk_107 : decode cX5_takesAsk 107 = .ok (.ifCond .eq 7, 3) := by decide +kernel
theorem dX5_takesAsk_110 : decode cX5_takesAsk 110 = .ok (.iconst 1, 1) := by decide +kernel
theorem dX5_takesAsk_111 : decode cX5_takesAsk 111 = .ok (.goto 4, 3) := by decide +kernel
theorem dX5_takesAsk_114 : decode cX5_takesAsk 114 = .ok (.iconst 0, 1) := by decide +kernel
theorem dX5_takesAsk_115 : decode cX5_takesAsk 115 = .ok (.ireturn, 1) := by decide +kernel
theorem dX6_init_0 : decode cX6_init 0 = .ok (.aload_n 0, 1) := by decide +kernel
theorem dX6_init_1 : decode cX6_init 1 = .ok (.invokespecial 5, 3) := by decide +kernel
theorem dX6_init_4 : decode cX6_init 4 = .ok (.aload_n 0, 1) := by decide +kernel
theorem dX6_init_5 : decode cX6_init 5 = .ok (.bipush 16, 2) := by decide +kernel
theorem dX6_init_7 : decode cX6_init 7 = .ok (.newarray .int, 2) := by decide +kernel
theorem dX6_init_9 : decode cX6_init 9 = .ok (.putfield 11, 3) := by decide +kernel
theorem dX6_init_12 : decode cX6_init 12 = .ok (.aload_n 0, 1) := by decide +kernel
theorem dX6_init_13 : decode cX6_init 13 = .ok (.bipush 6, 2) := by decide +kernel
theorem dX6_init_15 : decode cX6_init 15 = .ok (.newarray .int, 2) := by decide +kernel
theorem dX6_init_17 : decode cX6_init 17 = .ok (.putfield 15, 3) := by decide +kernel
theorem dX6_init_20 : decode cX6_init 20 = .ok (.aload_n 0, 1) := by decide +kernel
theorem dX6_init_21 : decode cX6_init 21 = .ok (.bipush 6, 2) := by decide +kernel
theorem dX6_init_23 : decode cX6_init 23 = .ok (.newarray .int, 2) := by decide +kernel
theorem dX6_init_25 : decode cX6_init 25 = .ok (.putfield 18, 3) := by decide +kernel
theorem dX6_init_28 : decode cX6_init 28 = .ok (.aload_n 0, 1) := by decide +kernel
theorem dX6_init_29 : decode cX6_init 29 = .ok (.bipush 30, 2) := by decide +kernel
theorem dX6_init_31 : decode cX6_init 31 = .ok (.newarray .int, 2) := by decide +kernel
theorem dX6_init_33 : decode cX6_init 33 = .ok (.putfield 21, 3) := by decide +kernel
theorem dX6_init_36 : decode cX6_init 36 = .ok (.aload_n 0, 1) := by decide +kernel
theorem dX6_init_37 : decode cX6_init 37 = .ok (.iconst 0, 1) := by decide +kernel
theorem dX6_init_38 : decode cX6_init 38 = .ok (.putfield 24, 3) := by decide +kernel
theorem dX6_init_41 : decode cX6_init 41 = .ok (.aload_n 0, 1) := by decide +kernel
theorem dX6_init_42 : decode cX6_init 42 = .ok (.bipush 20, 2) := by decide +kernel
theorem dX6_init_44 : decode cX6_init 44 = .ok (.putfield 28, 3) := by decide +kernel
theorem dX6_init_47 : decode cX6_init 47 = .ok (.aload_n 0, 1) := by decide +kernel
theorem dX6_init_48 : decode cX6_init 48 = .ok (.iconst 0, 1) := by decide +kernel
theorem dX6_init_49 : decode cX6_init 49 = .ok (.putfield 31, 3) := by decide +kernel
theorem dX6_init_52 : decode cX6_init 52 = .ok (.aload_n 0, 1) := by decide +kernel
theorem dX6_init_53 : decode cX6_init 53 = .ok (.iconst 0, 1) := by decide +kernel
theorem dX6_init_54 : decode cX6_init 54 = .ok (.putfield 34, 3) := by decide +kernel
theorem dX6_init_57 : decode cX6_init 57 = .ok (.aload_n 0, 1) := by decide +kernel
theorem dX6_init_58 : decode cX6_init 58 = .ok (.sipush 283, 3) := by decide +kernel
theorem dX6_init_61 : decode cX6_init 61 = .ok (.putfield 37, 3) := by decide +kernel
theorem dX6_init_64 : decode cX6_init 64 = .ok (.return_, 1) := by decide +kernel
theorem dX6_sow_0 : decode cX6_sow 0 = .ok (.aload_n 0, 1) := by decide +kernel
theorem dX6_sow_1 : decode cX6_sow 1 = .ok (.iload_n 1, 1) := by decide +kernel
theorem dX6_sow_2 : decode cX6_sow 2 = .ok (.iconst 2, 1) := by decide +kernel
theorem dX6_sow_3 : decode cX6_sow 3 = .ok (.imul, 1) := by decide +kernel
theorem dX6_sow_4 : decode cX6_sow 4 = .ok (.sipush 283, 3) := by decide +kernel
theorem dX6_sow_7 : decode cX6_sow 7 = .ok (.iadd, 1) := by decide +kernel
theorem dX6_sow_8 : decode cX6_sow 8 = .ok (.putfield 37, 3) := by decide +kernel
theorem dX6_sow_11 : decode cX6_sow 11 = .ok (.return_, 1) := by decide +kernel
theorem dX6_draw_0 : decode cX6_draw 0 = .ok (.iload_n 1, 1) := by decide +kernel
theorem dX6_draw_1 : decode cX6_draw 1 = .ok (.ifCond .le 12, 3) := by decide +kernel
theorem dX6_draw_4 : decode cX6_draw 4 = .ok (.aload_n 0, 1) := by decide +kernel
theorem dX6_draw_5 : decode cX6_draw 5 = .ok (.getfield 37, 3) := by decide +kernel
theorem dX6_draw_8 : decode cX6_draw 8 = .ok (.iload_n 1, 1) := by decide +kernel
theorem dX6_draw_9 : decode cX6_draw 9 = .ok (.irem, 1) := by decide +kernel
theorem dX6_draw_10 : decode cX6_draw 10 = .ok (.goto 4, 3) := by decide +kernel
theorem dX6_draw_13 : decode cX6_draw 13 = .ok (.iconst 0, 1) := by decide +kernel
theorem dX6_draw_14 : decode cX6_draw 14 = .ok (.istore_n 2, 1) := by decide +kernel
theorem dX6_draw_15 : decode cX6_draw 15 = .ok (.aload_n 0, 1) := by decide +kernel
theorem dX6_draw_16 : decode cX6_draw 16 = .ok (.aload_n 0, 1) := by decide +kernel
theorem dX6_draw_17 : decode cX6_draw 17 = .ok (.getfield 37, 3) := by decide +kernel
theorem dX6_draw_20 : decode cX6_draw 20 = .ok (.sipush 547, 3) := by decide +kernel
theorem dX6_draw_23 : decode cX6_draw 23 = .ok (.imul, 1) := by decide +kernel
theorem dX6_draw_24 : decode cX6_draw 24 = .ok (.sipush 421, 3) := by decide +kernel
theorem dX6_draw_27 : decode cX6_draw 27 = .ok (.iadd, 1) := by decide +kernel
theorem dX6_draw_28 : decode cX6_draw 28 = .ok (.sipush 30727, 3) := by decide +kernel
theorem dX6_draw_31 : decode cX6_draw 31 = .ok (.irem, 1) := by decide +kernel
theorem dX6_draw_32 : decode cX6_draw 32 = .ok (.putfield 37, 3) := by decide +kernel
theorem dX6_draw_35 : decode cX6_draw 35 = .ok (.iload_n 2, 1) := by decide +kernel
theorem dX6_draw_36 : decode cX6_draw 36 = .ok (.ireturn, 1) := by decide +kernel
theorem dX6_walk_0 : decode cX6_walk 0 = .ok (.aload_n 0, 1) := by decide +kernel
theorem dX6_walk_1 : decode cX6_walk 1 = .ok (.getfield 11, 3) := by decide +kernel
theorem dX6_walk_4 : decode cX6_walk 4 = .ok (.iload_n 2, 1) := by decide +kernel
theorem dX6_walk_5 : decode cX6_walk 5 = .ok (.dup2, 1) := by decide +kernel
theorem dX6_walk_6 : decode cX6_walk 6 = .ok (.iaload, 1) := by decide +kernel
theorem dX6_walk_7 : decode cX6_walk 7 = .ok (.iload 4, 2) := by decide +kernel
theorem dX6_walk_9 : decode cX6_walk 9 = .ok (.isub, 1) := by decide +kernel
theorem dX6_walk_10 : decode cX6_walk 10 = .ok (.iastore, 1) := by decide +kernel
theorem dX6_walk_11 : decode cX6_walk 11 = .ok (.aload_n 0, 1) := by decide +kernel
theorem dX6_walk_12 : decode cX6_walk 12 = .ok (.getfield 15, 3) := by decide +kernel
theorem dX6_walk_15 : decode cX6_walk 15 = .ok (.iload_n 1, 1) := by decide +kernel
theorem dX6_walk_16 : decode cX6_walk 16 = .ok (.iload_n 3, 1) := by decide +kernel
theorem dX6_walk_17 : decode cX6_walk 17 = .ok (.iastore, 1) := by decide +kernel
theorem dX6_walk_18 : decode cX6_walk 18 = .ok (.aload_n 0, 1) := by decide +kernel
theorem dX6_walk_19 : decode cX6_walk 19 = .ok (.getfield 18, 3) := by decide +kernel
theorem dX6_walk_22 : decode cX6_walk 22 = .ok (.iload_n 1, 1) := by decide +kernel
theorem dX6_walk_23 : decode cX6_walk 23 = .ok (.sipush 9999, 3) := by decide +kernel
theorem dX6_walk_26 : decode cX6_walk 26 = .ok (.aload_n 0, 1) := by decide +kernel
theorem dX6_walk_27 : decode cX6_walk 27 = .ok (.getfield 18, 3) := by decide +kernel
theorem dX6_walk_30 : decode cX6_walk 30 = .ok (.iload_n 1, 1) := by decide +kernel
theorem dX6_walk_31 : decode cX6_walk 31 = .ok (.iaload, 1) := by decide +kernel
theorem dX6_walk_32 : decode cX6_walk 32 = .ok (.iconst 1, 1) := by decide +kernel
theorem dX6_walk_33 : decode cX6_walk 33 = .ok (.iadd, 1) := by decide +kernel
theorem dX6_walk_34 : decode cX6_walk 34 = .ok (.invokestatic 40, 3) := by decide +kernel
theorem dX6_walk_37 : decode cX6_walk 37 = .ok (.iastore, 1) := by decide +kernel
theorem dX6_walk_38 : decode cX6_walk 38 = .ok (.aload_n 0, 1) := by decide +kernel
theorem dX6_walk_39 : decode cX6_walk 39 = .ok (.getfield 24, 3) := by decide +kernel
theorem dX6_walk_42 : decode cX6_walk 42 = .ok (.bipush 30, 2) := by decide +kernel
theorem dX6_walk_44 : decode cX6_walk 44 = .ok (.if_icmp .lt 24, 3) := by decide +kernel
theorem dX6_walk_47 : decode cX6_walk 47 = .ok (.aload_n 0, 1) := by decide +kernel
theorem dX6_walk_48 : decode cX6_walk 48 = .ok (.getfield 21, 3) := by decide +kernel
theorem dX6_walk_51 : decode cX6_walk 51 = .ok (.iconst 1, 1) := by decide +kernel
theorem dX6_walk_52 : decode cX6_walk 52 = .ok (.aload_n 0, 1) := by decide +kernel
theorem dX6_walk_53 : decode cX6_walk 53 = .ok (.getfield 21, 3) := by decide +kernel
theorem dX6_walk_56 : decode cX6_walk 56 = .ok (.iconst 0, 1) := by decide +kernel
theorem dX6_walk_57 : decode cX6_walk 57 = .ok (.bipush 29, 2) := by decide +kernel
theorem dX6_walk_59 : decode cX6_walk 59 = .ok (.invokestatic 46, 3) := by decide +kernel
theorem dX6_walk_62 : decode cX6_walk 62 = .ok (.aload_n 0, 1) := by decide +kernel
theorem dX6_walk_63 : decode cX6_walk 63 = .ok (.bipush 29, 2) := by decide +kernel
theorem dX6_walk_65 : decode cX6_walk 65 = .ok (.putfield 24, 3) := by decide +kernel
theorem dX6_walk_68 : decode cX6_walk 68 = .ok (.aload_n 0, 1) := by decide +kernel
theorem dX6_walk_69 : decode cX6_walk 69 = .ok (.getfield 21, 3) := by decide +kernel
theorem dX6_walk_72 : decode cX6_walk 72 = .ok (.aload_n 0, 1) := by decide +kernel
theorem dX6_walk_73 : decode cX6_walk 73 = .ok (.getfield 24, 3) := by decide +kernel
theorem dX6_walk_76 : decode cX6_walk 76 = .ok (.aload_n 0, 1) := by decide +kernel
theorem dX6_walk_77 : decode cX6_walk 77 = .ok (.getfield 34, 3) := by decide +kernel
theorem dX6_walk_80 : decode cX6_walk 80 = .ok (.bipush 14, 2) := by decide +kernel
theorem dX6_walk_82 : decode cX6_walk 82 = .ok (.ishl, 1) := by decide +kernel
theorem dX6_walk_83 : decode cX6_walk 83 = .ok (.iload_n 1, 1) := by decide +kernel
theorem dX6_walk_84 : decode cX6_walk 84 = .ok (.bipush 11, 2) := by decide +kernel
theorem dX6_walk_86 : decode cX6_walk 86 = .ok (.ishl, 1) := by decide +kernel
theorem dX6_walk_87 : decode cX6_walk 87 = .ok (.ior, 1) := by decide +kernel
theorem dX6_walk_88 : decode cX6_walk 88 = .ok (.iload_n 2, 1) := by decide +kernel
theorem dX6_walk_89 : decode cX6_walk 89 = .ok (.bipush 7, 2) := by decide +kernel
theorem dX6_walk_91 : decode cX6_walk 91 = .ok (.ishl, 1) := by decide +kernel
theorem dX6_walk_92 : decode cX6_walk 92 = .ok (.ior, 1) := by decide +kernel
theorem dX6_walk_93 : decode cX6_walk 93 = .ok (.iload 4, 2) := by decide +kernel
theorem dX6_walk_95 : decode cX6_walk 95 = .ok (.ior, 1) := by decide +kernel
theorem dX6_walk_96 : decode cX6_walk 96 = .ok (.iastore, 1) := by decide +kernel
theorem dX6_walk_97 : decode cX6_walk 97 = .ok (.aload_n 0, 1) := by decide +kernel
theorem dX6_walk_98 : decode cX6_walk 98 = .ok (.dup, 1) := by decide +kernel
theorem dX6_walk_99 : decode cX6_walk 99 = .ok (.getfield 24, 3) := by decide +kernel
theorem dX6_walk_102 : decode cX6_walk 102 = .ok (.iconst 1, 1) := by decide +kernel
theorem dX6_walk_103 : decode cX6_walk 103 = .ok (.iadd, 1) := by decide +kernel
theorem dX6_walk_104 : decode cX6_walk 104 = .ok (.putfield 24, 3) := by decide +kernel
theorem dX6_walk_107 : decode cX6_walk 107 = .ok (.return_, 1) := by decide +kernel
theorem dX6_dayOfGoing_0 : decode cX6_dayOfGoing 0 = .ok (.aload_n 0, 1) := by decide +kernel
theorem dX6_dayOfGoing_1 : decode cX6_dayOfGoing 1 = .ok (.getfield 21, 3) := by decide +kernel
theorem dX6_dayOfGoing_4 : decode cX6_dayOfGoing 4 = .ok (.iload_n 1, 1) := by decide +kernel
theorem dX6_dayOfGoing_5 : decode cX6_dayOfGoing 5 = .ok (.iaload, 1) := by decide +kernel
theorem dX6_dayOfGoing_6 : decode cX6_dayOfGoing 6 = .ok (.bipush 14, 2) := by decide +kernel
theorem dX6_dayOfGoing_8 : decode cX6_dayOfGoing 8 = .ok (.ishr, 1) := by decide +kernel
theorem dX6_dayOfGoing_9 : decode cX6_dayOfGoing 9 = .ok (.ireturn, 1) := by decide +kernel
theorem dX6_goerOfGoing_0 : decode cX6_goerOfGoing 0 = .ok (.aload_n 0, 1) := by decide +kernel
theorem dX6_goerOfGoing_1 : decode cX6_goerOfGoing 1 = .ok (.getfield 21, 3) := by decide +kernel
theorem dX6_goerOfGoing_4 : decode cX6_goerOfGoing 4 = .ok (.iload_n 1, 1) := by decide +kernel
theorem dX6_goerOfGoing_5 : decode cX6_goerOfGoing 5 = .ok (.iaload, 1) := by decide +kernel
theorem dX6_goerOfGoing_6 : decode cX6_goerOfGoing 6 = .ok (.bipush 11, 2) := by decide +kernel
theorem dX6_goerOfGoing_8 : decode cX6_goerOfGoing 8 = .ok (.ishr, 1) := by decide +kernel
theorem dX6_goerOfGoing_9 : decode cX6_goerOfGoing 9 = .ok (.bipush 7, 2) := by decide +kernel
theorem dX6_goerOfGoing_11 : decode cX6_goerOfGoing 11 = .ok (.iand, 1) := by decide +kernel
theorem dX6_goerOfGoing_12 : decode cX6_goerOfGoing 12 = .ok (.ireturn, 1) := by decide +kernel
theorem dX6_roadOfGoing_0 : decode cX6_roadOfGoing 0 = .ok (.aload_n 0, 1) := by decide +kernel
theorem dX6_roadOfGoing_1 : decode cX6_roadOfGoing 1 = .ok (.getfield 21, 3) := by decide +kernel
theorem dX6_roadOfGoing_4 : decode cX6_roadOfGoing 4 = .ok (.iload_n 1, 1) := by decide +kernel
theorem dX6_roadOfGoing_5 : decode cX6_roadOfGoing 5 = .ok (.iaload, 1) := by decide +kernel
theorem dX6_roadOfGoing_6 : decode cX6_roadOfGoing 6 = .ok (.bipush 7, 2) := by decide +kernel
theorem dX6_roadOfGoing_8 : decode cX6_roadOfGoing 8 = .ok (.ishr, 1) := by decide +kernel
theorem dX6_roadOfGoing_9 : decode cX6_roadOfGoing 9 = .ok (.bipush 15, 2) := by decide +kernel
theorem dX6_roadOfGoing_11 : decode cX6_roadOfGoing 11 = .ok (.iand, 1) := by decide +kernel
theorem dX6_roadOfGoing_12 : decode cX6_roadOfGoing 12 = .ok (.ireturn, 1) := by decide +kernel
theorem dX6_suckedInGoing_0 : decode cX6_suckedInGoing 0 = .ok (.aload_n 0, 1) := by decide +kernel
theorem dX6_suckedInGoing_1 : decode cX6_suckedInGoing 1 = .ok (.getfield 21, 3) := by decide +kernel
theorem dX6_suckedInGoing_4 : decode cX6_suckedInGoing 4 = .ok (.iload_n 1, 1) := by decide +kernel
theorem dX6_suckedInGoing_5 : decode cX6_suckedInGoing 5 = .ok (.iaload, 1) := by decide +kernel
theorem dX6_suckedInGoing_6 : decode cX6_suckedInGoing 6 = .ok (.bipush 127, 2) := by decide +kernel
theorem dX6_suckedInGoing_8 : decode cX6_suckedInGoing 8 = .ok (.iand, 1) := by decide +kernel
theorem dX6_suckedInGoing_9 : decode cX6_suckedInGoing 9 = .ok (.ireturn, 1) := by decide +kernel
theorem dX6_keep_0 : decode cX6_keep 0 = .ok (.iload_n 2, 1) := by decide +kernel
theorem dX6_keep_1 : decode cX6_keep 1 = .ok (.ifCond .lt 12, 3) := by decide +kernel
theorem dX6_keep_4 : decode cX6_keep 4 = .ok (.iload_n 2, 1) := by decide +kernel
theorem dX6_keep_5 : decode cX6_keep 5 = .ok (.aload_n 1, 1) := by decide +kernel
theorem dX6_keep_6 : decode cX6_keep 6 = .ok (.arraylength, 1) := by decide +kernel
theorem dX6_keep_7 : decode cX6_keep 7 = .ok (.bipush 65, 2) := by decide +kernel
theorem dX6_keep_9 : decode cX6_keep 9 = .ok (.isub, 1) := by decide +kernel
theorem dX6_keep_10 : decode cX6_keep 10 = .ok (.if_icmp .le 4, 3) := by decide +kernel
theorem dX6_keep_13 : decode cX6_keep 13 = .ok (.return_, 1) := by decide +kernel
theorem dX6_keep_14 : decode cX6_keep 14 = .ok (.aload_n 0, 1) := by decide +kernel
theorem dX6_keep_15 : decode cX6_keep 15 = .ok (.getfield 11, 3) := by decide +kernel
theorem dX6_keep_18 : decode cX6_keep 18 = .ok (.iconst 0, 1) := by decide +kernel
theorem dX6_keep_19 : decode cX6_keep 19 = .ok (.aload_n 1, 1) := by decide +kernel
theorem dX6_keep_20 : decode cX6_keep 20 = .ok (.iload_n 2, 1) := by decide +kernel
theorem dX6_keep_21 : decode cX6_keep 21 = .ok (.aload_n 0, 1) := by decide +kernel
theorem dX6_keep_22 : decode cX6_keep 22 = .ok (.getfield 11, 3) := by decide +kernel
theorem dX6_keep_25 : decode cX6_keep 25 = .ok (.arraylength, 1) := by decide +kernel
theorem dX6_keep_26 : decode cX6_keep 26 = .ok (.invokestatic 46, 3) := by decide +kernel
theorem dX6_keep_29 : decode cX6_keep 29 = .ok (.aload_n 0, 1) := by decide +kernel
theorem dX6_keep_30 : decode cX6_keep 30 = .ok (.getfield 15, 3) := by decide +kernel
theorem dX6_keep_33 : decode cX6_keep 33 = .ok (.iconst 0, 1) := by decide +kernel
theorem dX6_keep_34 : decode cX6_keep 34 = .ok (.aload_n 1, 1) := by decide +kernel
theorem dX6_keep_35 : decode cX6_keep 35 = .ok (.iload_n 2, 1) := by decide +kernel
theorem dX6_keep_36 : decode cX6_keep 36 = .ok (.bipush 16, 2) := by decide +kernel
theorem dX6_keep_38 : decode cX6_keep 38 = .ok (.iadd, 1) := by decide +kernel
theorem dX6_keep_39 : decode cX6_keep 39 = .ok (.aload_n 0, 1) := by decide +kernel
theorem dX6_keep_40 : decode cX6_keep 40 = .ok (.getfield 15, 3) := by decide +kernel
theorem dX6_keep_43 : decode cX6_keep 43 = .ok (.arraylength, 1) := by decide +kernel
theorem dX6_keep_44 : decode cX6_keep 44 = .ok (.invokestatic 46, 3) := by decide +kernel
theorem dX6_keep_47 : decode cX6_keep 47 = .ok (.aload_n 0, 1) := by decide +kernel
theorem dX6_keep_48 : decode cX6_keep 48 = .ok (.getfield 18, 3) := by decide +kernel
theorem dX6_keep_51 : decode cX6_keep 51 = .ok (.iconst 0, 1) := by decide +kernel
theorem dX6_keep_52 : decode cX6_keep 52 = .ok (.aload_n 1, 1) := by decide +kernel
theorem dX6_keep_53 : decode cX6_keep 53 = .ok (.iload_n 2, 1) := by decide +kernel
theorem dX6_keep_54 : decode cX6_keep 54 = .ok (.bipush 22, 2) := by decide +kernel
theorem dX6_keep_56 : decode cX6_keep 56 = .ok (.iadd, 1) := by decide +kernel
theorem dX6_keep_57 : decode cX6_keep 57 = .ok (.aload_n 0, 1) := by decide +kernel
theorem dX6_keep_58 : decode cX6_keep 58 = .ok (.getfield 18, 3) := by decide +kernel
theorem dX6_keep_61 : decode cX6_keep 61 = .ok (.arraylength, 1) := by decide +kernel
theorem dX6_keep_62 : decode cX6_keep 62 = .ok (.invokestatic 46, 3) := by decide +kernel
theorem dX6_keep_65 : decode cX6_keep 65 = .ok (.aload_n 0, 1) := by decide +kernel
theorem dX6_keep_66 : decode cX6_keep 66 = .ok (.getfield 21, 3) := by decide +kernel
theorem dX6_keep_69 : decode cX6_keep 69 = .ok (.iconst 0, 1) := by decide +kernel
theorem dX6_keep_70 : decode cX6_keep 70 = .ok (.aload_n 1, 1) := by decide +kernel
theorem dX6_keep_71 : decode cX6_keep 71 = .ok (.iload_n 2, 1) := by decide +kernel
theorem dX6_keep_72 : decode cX6_keep 72 = .ok (.bipush 28, 2) := by decide +kernel
theorem dX6_keep_74 : decode cX6_keep 74 = .ok (.iadd, 1) := by decide +kernel
theorem dX6_keep_75 : decode cX6_keep 75 = .ok (.aload_n 0, 1) := by decide +kernel
theorem dX6_keep_76 : decode cX6_keep 76 = .ok (.getfield 21, 3) := by decide +kernel
theorem dX6_keep_79 : decode cX6_keep 79 = .ok (.arraylength, 1) := by decide +kernel
theorem dX6_keep_80 : decode cX6_keep 80 = .ok (.invokestatic 46, 3) := by decide +kernel
theorem dX6_keep_83 : decode cX6_keep 83 = .ok (.aload_n 1, 1) := by decide +kernel
theorem dX6_keep_84 : decode cX6_keep 84 = .ok (.iload_n 2, 1) := by decide +kernel
theorem dX6_keep_85 : decode cX6_keep 85 = .ok (.bipush 58, 2) := by decide +kernel
theorem dX6_keep_87 : decode cX6_keep 87 = .ok (.iadd, 1) := by decide +kernel
theorem dX6_keep_88 : decode cX6_keep 88 = .ok (.aload_n 0, 1) := by decide +kernel
theorem dX6_keep_89 : decode cX6_keep 89 = .ok (.getfield 28, 3) := by decide +kernel
theorem dX6_keep_92 : decode cX6_keep 92 = .ok (.iastore, 1) := by decide +kernel
theorem dX6_keep_93 : decode cX6_keep 93 = .ok (.aload_n 1, 1) := by decide +kernel
theorem dX6_keep_94 : decode cX6_keep 94 = .ok (.iload_n 2, 1) := by decide +kernel
theorem dX6_keep_95 : decode cX6_keep 95 = .ok (.bipush 59, 2) := by decide +kernel
theorem dX6_keep_97 : decode cX6_keep 97 = .ok (.iadd, 1) := by decide +kernel
theorem dX6_keep_98 : decode cX6_keep 98 = .ok (.aload_n 0, 1) := by decide +kernel
theorem dX6_keep_99 : decode cX6_keep 99 = .ok (.getfield 31, 3) := by decide +kernel
theorem dX6_keep_102 : decode cX6_keep 102 = .ok (.iastore, 1) := by decide +kernel
theorem dX6_keep_103 : decode cX6_keep 103 = .ok (.aload_n 1, 1) := by decide +kernel
theorem dX6_keep_104 : decode cX6_keep 104 = .ok (.iload_n 2, 1) := by decide +kernel
theorem dX6_keep_105 : decode cX6_keep 105 = .ok (.bipush 60, 2) := by decide +kernel
theorem dX6_keep_107 : decode cX6_keep 107 = .ok (.iadd, 1) := by decide +kernel
theorem dX6_keep_108 : decode cX6_keep 108 = .ok (.aload_n 0, 1) := by decide +kernel
theorem dX6_keep_109 : decode cX6_keep 109 = .ok (.getfield 34, 3) := by decide +kernel
theorem dX6_keep_112 : decode cX6_keep 112 = .ok (.iastore, 1) := by decide +kernel
theorem dX6_keep_113 : decode cX6_keep 113 = .ok (.aload_n 1, 1) := by decide +kernel
theorem dX6_keep_114 : decode cX6_keep 114 = .ok (.iload_n 2, 1) := by decide +kernel
theorem dX6_keep_115 : decode cX6_keep 115 = .ok (.bipush 61, 2) := by decide +kernel
theorem dX6_keep_117 : decode cX6_keep 117 = .ok (.iadd, 1) := by decide +kernel
theorem dX6_keep_118 : decode cX6_keep 118 = .ok (.aload_n 0, 1) := by decide +kernel
theorem dX6_keep_119 : decode cX6_keep 119 = .ok (.getfield 37, 3) := by decide +kernel
theorem dX6_keep_122 : decode cX6_keep 122 = .ok (.iastore, 1) := by decide +kernel
theorem dX6_keep_123 : decode cX6_keep 123 = .ok (.aload_n 1, 1) := by decide +kernel
theorem dX6_keep_124 : decode cX6_keep 124 = .ok (.iload_n 2, 1) := by decide +kernel
theorem dX6_keep_125 : decode cX6_keep 125 = .ok (.bipush 62, 2) := by decide +kernel
theorem dX6_keep_127 : decode cX6_keep 127 = .ok (.iadd, 1) := by decide +kernel
theorem dX6_keep_128 : decode cX6_keep 128 = .ok (.aload_n 0, 1) := by decide +kernel
theorem dX6_keep_129 : decode cX6_keep 129 = .ok (.getfield 24, 3) := by decide +kernel
theorem dX6_keep_132 : decode cX6_keep 132 = .ok (.iastore, 1) := by decide +kernel
theorem dX6_keep_133 : decode cX6_keep 133 = .ok (.aload_n 1, 1) := by decide +kernel
theorem dX6_keep_134 : decode cX6_keep 134 = .ok (.iload_n 2, 1) := by decide +kernel
theorem dX6_keep_135 : decode cX6_keep 135 = .ok (.bipush 63, 2) := by decide +kernel
theorem dX6_keep_137 : decode cX6_keep 137 = .ok (.iadd, 1) := by decide +kernel
theorem dX6_keep_138 : decode cX6_keep 138 = .ok (.aload_n 3, 1) := by decide +kernel
theorem dX6_keep_139 : decode cX6_keep 139 = .ok (.getfield 52, 3) := by decide +kernel
theorem dX6_keep_142 : decode cX6_keep 142 = .ok (.iastore, 1) := by decide +kernel
theorem dX6_keep_143 : decode cX6_keep 143 = .ok (.aload_n 1, 1) := by decide +kernel
theorem dX6_keep_144 : decode cX6_keep 144 = .ok (.iload_n 2, 1) := by decide +kernel
theorem dX6_keep_145 : decode cX6_keep 145 = .ok (.bipush 64, 2) := by decide +kernel
theorem dX6_keep_147 : decode cX6_keep 147 = .ok (.iadd, 1) := by decide +kernel
theorem dX6_keep_148 : decode cX6_keep 148 = .ok (.aload_n 3, 1) := by decide +kernel
theorem dX6_keep_149 : decode cX6_keep 149 = .ok (.getfield 57, 3) := by decide +kernel
theorem dX6_keep_152 : decode cX6_keep 152 = .ok (.iastore, 1) := by decide +kernel
theorem dX6_keep_153 : decode cX6_keep 153 = .ok (.return_, 1) := by decide +kernel
theorem dX6_restore_0 : decode cX6_restore 0 = .ok (.iload_n 2, 1) := by decide +kernel
theorem dX6_restore_1 : decode cX6_restore 1 = .ok (.ifCond .lt 12, 3) := by decide +kernel
theorem dX6_restore_4 : decode cX6_restore 4 = .ok (.iload_n 2, 1) := by decide +kernel
theorem dX6_restore_5 : decode cX6_restore 5 = .ok (.aload_n 1, 1) := by decide +kernel
theorem dX6_restore_6 : decode cX6_restore 6 = .ok (.arraylength, 1) := by decide +kernel
theorem dX6_restore_7 : decode cX6_restore 7 = .ok (.bipush 65, 2) := by decide +kernel
theorem dX6_restore_9 : decode cX6_restore 9 = .ok (.isub, 1) := by decide +kernel
theorem dX6_restore_10 : decode cX6_restore 10 = .ok (.if_icmp .le 4, 3) := by decide +kernel
theorem dX6_restore_13 : decode cX6_restore 13 = .ok (.return_, 1) := by decide +kernel
theorem dX6_restore_14 : decode cX6_restore 14 = .ok (.aload_n 1, 1) := by decide +kernel
theorem dX6_restore_15 : decode cX6_restore 15 = .ok (.iload_n 2, 1) := by decide +kernel
theorem dX6_restore_16 : decode cX6_restore 16 = .ok (.bipush 63, 2) := by decide +kernel
theorem dX6_restore_18 : decode cX6_restore 18 = .ok (.iadd, 1) := by decide +kernel
theorem dX6_restore_19 : decode cX6_restore 19 = .ok (.iaload, 1) := by decide +kernel
theorem dX6_restore_20 : decode cX6_restore 20 = .ok (.istore_n 3, 1) := by decide +kernel
theorem dX6_restore_21 : decode cX6_restore 21 = .ok (.aload_n 1, 1) := by decide +kernel
theorem dX6_restore_22 : decode cX6_restore 22 = .ok (.iload_n 2, 1) := by decide +kernel
theorem dX6_restore_23 : decode cX6_restore 23 = .ok (.bipush 64, 2) := by decide +kernel
theorem dX6_restore_25 : decode cX6_restore 25 = .ok (.iadd, 1) := by decide +kernel
theorem dX6_restore_26 : decode cX6_restore 26 = .ok (.iaload, 1) := by decide +kernel
theorem dX6_restore_27 : decode cX6_restore 27 = .ok (.istore 4, 2) := by decide +kernel
theorem dX6_restore_29 : decode cX6_restore 29 = .ok (.aload_n 1, 1) := by decide +kernel
theorem dX6_restore_30 : decode cX6_restore 30 = .ok (.iload_n 2, 1) := by decide +kernel
theorem dX6_restore_31 : decode cX6_restore 31 = .ok (.aload_n 0, 1) := by decide +kernel
theorem dX6_restore_32 : decode cX6_restore 32 = .ok (.getfield 11, 3) := by decide +kernel
theorem dX6_restore_35 : decode cX6_restore 35 = .ok (.iconst 0, 1) := by decide +kernel
theorem dX6_restore_36 : decode cX6_restore 36 = .ok (.iload_n 3, 1) := by decide +kernel
theorem dX6_restore_37 : decode cX6_restore 37 = .ok (.invokestatic 46, 3) := by decide +kernel
theorem dX6_restore_40 : decode cX6_restore 40 = .ok (.aload_n 1, 1) := by decide +kernel
theorem dX6_restore_41 : decode cX6_restore 41 = .ok (.iload_n 2, 1) := by decide +kernel
theorem dX6_restore_42 : decode cX6_restore 42 = .ok (.bipush 16, 2) := by decide +kernel
theorem dX6_restore_44 : decode cX6_restore 44 = .ok (.iadd, 1) := by decide +kernel
theorem dX6_restore_45 : decode cX6_restore 45 = .ok (.aload_n 0, 1) := by decide +kernel
theorem dX6_restore_46 : decode cX6_restore 46 = .ok (.getfield 15, 3) := by decide +kernel
theorem dX6_restore_49 : decode cX6_restore 49 = .ok (.iconst 0, 1) := by decide +kernel
theorem dX6_restore_50 : decode cX6_restore 50 = .ok (.iload 4, 2) := by decide +kernel
theorem dX6_restore_52 : decode cX6_restore 52 = .ok (.invokestatic 46, 3) := by decide +kernel
theorem dX6_restore_55 : decode cX6_restore 55 = .ok (.aload_n 1, 1) := by decide +kernel
theorem dX6_restore_56 : decode cX6_restore 56 = .ok (.iload_n 2, 1) := by decide +kernel
theorem dX6_restore_57 : decode cX6_restore 57 = .ok (.bipush 22, 2) := by decide +kernel
theorem dX6_restore_59 : decode cX6_restore 59 = .ok (.iadd, 1) := by decide +kernel
theorem dX6_restore_60 : decode cX6_restore 60 = .ok (.aload_n 0, 1) := by decide +kernel
theorem dX6_restore_61 : decode cX6_restore 61 = .ok (.getfield 18, 3) := by decide +kernel
theorem dX6_restore_64 : decode cX6_restore 64 = .ok (.iconst 0, 1) := by decide +kernel
theorem dX6_restore_65 : decode cX6_restore 65 = .ok (.iload 4, 2) := by decide +kernel
theorem dX6_restore_67 : decode cX6_restore 67 = .ok (.invokestatic 46, 3) := by decide +kernel
theorem dX6_restore_70 : decode cX6_restore 70 = .ok (.aload_n 1, 1) := by decide +kernel
theorem dX6_restore_71 : decode cX6_restore 71 = .ok (.iload_n 2, 1) := by decide +kernel
theorem dX6_restore_72 : decode cX6_restore 72 = .ok (.bipush 28, 2) := by decide +kernel
theorem dX6_restore_74 : decode cX6_restore 74 = .ok (.iadd, 1) := by decide +kernel
theorem dX6_restore_75 : decode cX6_restore 75 = .ok (.aload_n 0, 1) := by decide +kernel
theorem dX6_restore_76 : decode cX6_restore 76 = .ok (.getfield 21, 3) := by decide +kernel
theorem dX6_restore_79 : decode cX6_restore 79 = .ok (.iconst 0, 1) := by decide +kernel
theorem dX6_restore_80 : decode cX6_restore 80 = .ok (.aload_n 0, 1) := by decide +kernel
theorem dX6_restore_81 : decode cX6_restore 81 = .ok (.getfield 21, 3) := by decide +kernel
theorem dX6_restore_84 : decode cX6_restore 84 = .ok (.arraylength, 1) := by decide +kernel
theorem dX6_restore_85 : decode cX6_restore 85 = .ok (.invokestatic 46, 3) := by decide +kernel
theorem dX6_restore_88 : decode cX6_restore 88 = .ok (.aload_n 0, 1) := by decide +kernel
theorem dX6_restore_89 : decode cX6_restore 89 = .ok (.aload_n 1, 1) := by decide +kernel
theorem dX6_restore_90 : decode cX6_restore 90 = .ok (.iload_n 2, 1) := by decide +kernel
theorem dX6_restore_91 : decode cX6_restore 91 = .ok (.bipush 58, 2) := by decide +kernel
theorem dX6_restore_93 : decode cX6_restore 93 = .ok (.iadd, 1) := by decide +kernel
theorem dX6_restore_94 : decode cX6_restore 94 = .ok (.iaload, 1) := by decide +kernel
theorem dX6_restore_95 : decode cX6_restore 95 = .ok (.putfield 28, 3) := by decide +kernel
theorem dX6_restore_98 : decode cX6_restore 98 = .ok (.aload_n 0, 1) := by decide +kernel
theorem dX6_restore_99 : decode cX6_restore 99 = .ok (.aload_n 1, 1) := by decide +kernel
theorem dX6_restore_100 : decode cX6_restore 100 = .ok (.iload_n 2, 1) := by decide +kernel
theorem dX6_restore_101 : decode cX6_restore 101 = .ok (.bipush 59, 2) := by decide +kernel
theorem dX6_restore_103 : decode cX6_restore 103 = .ok (.iadd, 1) := by decide +kernel
theorem dX6_restore_104 : decode cX6_restore 104 = .ok (.iaload, 1) := by decide +kernel
theorem dX6_restore_105 : decode cX6_restore 105 = .ok (.putfield 31, 3) := by decide +kernel
theorem dX6_restore_108 : decode cX6_restore 108 = .ok (.aload_n 0, 1) := by decide +kernel
theorem dX6_restore_109 : decode cX6_restore 109 = .ok (.aload_n 1, 1) := by decide +kernel
theorem dX6_restore_110 : decode cX6_restore 110 = .ok (.iload_n 2, 1) := by decide +kernel
theorem dX6_restore_111 : decode cX6_restore 111 = .ok (.bipush 60, 2) := by decide +kernel
theorem dX6_restore_113 : decode cX6_restore 113 = .ok (.iadd, 1) := by decide +kernel
theorem dX6_restore_114 : decode cX6_restore 114 = .ok (.iaload, 1) := by decide +kernel
theorem dX6_restore_115 : decode cX6_restore 115 = .ok (.putfield 34, 3) := by decide +kernel
theorem dX6_restore_118 : decode cX6_restore 118 = .ok (.aload_n 0, 1) := by decide +kernel
theorem dX6_restore_119 : decode cX6_restore 119 = .ok (.aload_n 1, 1) := by decide +kernel
theorem dX6_restore_120 : decode cX6_restore 120 = .ok (.iload_n 2, 1) := by decide +kernel
theorem dX6_restore_121 : decode cX6_restore 121 = .ok (.bipush 61, 2) := by decide +kernel
theorem dX6_restore_123 : decode cX6_restore 123 = .ok (.iadd, 1) := by decide +kernel
theorem dX6_restore_124 : decode cX6_restore 124 = .ok (.iaload, 1) := by decide +kernel
theorem dX6_restore_125 : decode cX6_restore 125 = .ok (.putfield 37, 3) := by decide +kernel
theorem dX6_restore_128 : decode cX6_restore 128 = .ok (.aload_n 0, 1) := by decide +kernel
theorem dX6_restore_129 : decode cX6_restore 129 = .ok (.aload_n 1, 1) := by decide +kernel
theorem dX6_restore_130 : decode cX6_restore 130 = .ok (.iload_n 2, 1) := by decide +kernel
theorem dX6_restore_131 : decode cX6_restore 131 = .ok (.bipush 62, 2) := by decide +kernel
theorem dX6_restore_133 : decode cX6_restore 133 = .ok (.iadd, 1) := by decide +kernel
theorem dX6_restore_134 : decode cX6_restore 134 = .ok (.iaload, 1) := by decide +kernel
theorem dX6_restore_135 : decode cX6_restore 135 = .ok (.putfield 24, 3) := by decide +kernel
theorem dX6_restore_138 : decode cX6_restore 138 = .ok (.return_, 1) := by decide +kernel
theorem dX6_thickIn_0 : decode cX6_thickIn 0 = .ok (.aload_n 0, 1) := by decide +kernel
theorem dX6_thickIn_1 : decode cX6_thickIn 1 = .ok (.iload_n 1, 1) := by decide +kernel
theorem dX6_thickIn_2 : decode cX6_thickIn 2 = .ok (.iaload, 1) := by decide +kernel
theorem dX6_thickIn_3 : decode cX6_thickIn 3 = .ok (.ireturn, 1) := by decide +kernel
theorem dX7_init_0 : decode cX7_init 0 = .ok (.aload_n 0, 1) := by decide +kernel
theorem dX7_init_1 : decode cX7_init 1 = .ok (.invokespecial 1, 3) := by decide +kernel
theorem dX7_init_4 : decode cX7_init 4 = .ok (.aload_n 0, 1) := by decide +kernel
theorem dX7_init_5 : decode cX7_init 5 = .ok (.sipush 1950, 3) := by decide +kernel
theorem dX7_init_8 : decode cX7_init 8 = .ok (.newarray .int, 2) := by decide +kernel
theorem dX7_init_10 : decode cX7_init 10 = .ok (.putfield 11, 3) := by decide +kernel
theorem dX7_init_13 : decode cX7_init 13 = .ok (.aload_n 0, 1) := by decide +kernel
theorem dX7_init_14 : decode cX7_init 14 = .ok (.iconst 0, 1) := by decide +kernel
theorem dX7_init_15 : decode cX7_init 15 = .ok (.putfield 15, 3) := by decide +kernel
theorem dX7_init_18 : decode cX7_init 18 = .ok (.aload_n 0, 1) := by decide +kernel
theorem dX7_init_19 : decode cX7_init 19 = .ok (.iconst 0, 1) := by decide +kernel
theorem dX7_init_20 : decode cX7_init 20 = .ok (.putfield 19, 3) := by decide +kernel
theorem dX7_init_23 : decode cX7_init 23 = .ok (.return_, 1) := by decide +kernel
theorem dX7_push_0 : decode cX7_push 0 = .ok (.aload_n 1, 1) := by decide +kernel
theorem dX7_push_1 : decode cX7_push 1 = .ok (.aload_n 0, 1) := by decide +kernel
theorem dX7_push_2 : decode cX7_push 2 = .ok (.getfield 11, 3) := by decide +kernel
theorem dX7_push_5 : decode cX7_push 5 = .ok (.aload_n 0, 1) := by decide +kernel
theorem dX7_push_6 : decode cX7_push 6 = .ok (.getfield 15, 3) := by decide +kernel
theorem dX7_push_9 : decode cX7_push 9 = .ok (.bipush 65, 2) := by decide +kernel
theorem dX7_push_11 : decode cX7_push 11 = .ok (.imul, 1) := by decide +kernel
theorem dX7_push_12 : decode cX7_push 12 = .ok (.aload_n 2, 1) := by decide +kernel
theorem dX7_push_13 : decode cX7_push 13 = .ok (.invokevirtual 22, 3) := by decide +kernel
theorem dX7_push_16 : decode cX7_push 16 = .ok (.aload_n 0, 1) := by decide +kernel
theorem dX7_push_17 : decode cX7_push 17 = .ok (.aload_n 0, 1) := by decide +kernel
theorem dX7_push_18 : decode cX7_push 18 = .ok (.getfield 15, 3) := by decide +kernel
theorem dX7_push_21 : decode cX7_push 21 = .ok (.iconst 1, 1) := by decide +kernel
theorem dX7_push_22 : decode cX7_push 22 = .ok (.iadd, 1) := by decide +kernel
theorem dX7_push_23 : decode cX7_push 23 = .ok (.bipush 30, 2) := by decide +kernel
theorem dX7_push_25 : decode cX7_push 25 = .ok (.irem, 1) := by decide +kernel
theorem dX7_push_26 : decode cX7_push 26 = .ok (.putfield 15, 3) := by decide +kernel
theorem dX7_push_29 : decode cX7_push 29 = .ok (.aload_n 0, 1) := by decide +kernel
theorem dX7_push_30 : decode cX7_push 30 = .ok (.bipush 30, 2) := by decide +kernel
theorem dX7_push_32 : decode cX7_push 32 = .ok (.aload_n 0, 1) := by decide +kernel
theorem dX7_push_33 : decode cX7_push 33 = .ok (.getfield 19, 3) := by decide +kernel
theorem dX7_push_36 : decode cX7_push 36 = .ok (.iconst 1, 1) := by decide +kernel
theorem dX7_push_37 : decode cX7_push 37 = .ok (.iadd, 1) := by decide +kernel
theorem dX7_push_38 : decode cX7_push 38 = .ok (.invokestatic 26, 3) := by decide +kernel
theorem dX7_push_41 : decode cX7_push 41 = .ok (.putfield 19, 3) := by decide +kernel
theorem dX7_push_44 : decode cX7_push 44 = .ok (.return_, 1) := by decide +kernel
theorem dX7_pop_0 : decode cX7_pop 0 = .ok (.aload_n 0, 1) := by decide +kernel
theorem dX7_pop_1 : decode cX7_pop 1 = .ok (.getfield 19, 3) := by decide +kernel
theorem dX7_pop_4 : decode cX7_pop 4 = .ok (.ifCond .ne 5, 3) := by decide +kernel
theorem dX7_pop_7 : decode cX7_pop 7 = .ok (.iconst 0, 1) := by decide +kernel
theorem dX7_pop_8 : decode cX7_pop 8 = .ok (.ireturn, 1) := by decide +kernel
theorem dX7_pop_9 : decode cX7_pop 9 = .ok (.aload_n 0, 1) := by decide +kernel
theorem dX7_pop_10 : decode cX7_pop 10 = .ok (.aload_n 0, 1) := by decide +kernel
theorem dX7_pop_11 : decode cX7_pop 11 = .ok (.getfield 15, 3) := by decide +kernel
theorem dX7_pop_14 : decode cX7_pop 14 = .ok (.bipush 30, 2) := by decide +kernel
theorem dX7_pop_16 : decode cX7_pop 16 = .ok (.iadd, 1) := by decide +kernel
theorem dX7_pop_17 : decode cX7_pop 17 = .ok (.iconst 1, 1) := by decide +kernel
theorem dX7_pop_18 : decode cX7_pop 18 = .ok (.isub, 1) := by decide +kernel
theorem dX7_pop_19 : decode cX7_pop 19 = .ok (.bipush 30, 2) := by decide +kernel
theorem dX7_pop_21 : decode cX7_pop 21 = .ok (.irem, 1) := by decide +kernel
theorem dX7_pop_22 : decode cX7_pop 22 = .ok (.putfield 15, 3) := by decide +kernel
theorem dX7_pop_25 : decode cX7_pop 25 = .ok (.aload_n 0, 1) := by decide +kernel
theorem dX7_pop_26 : decode cX7_pop 26 = .ok (.dup, 1) := by decide +kernel
theorem dX7_pop_27 : decode cX7_pop 27 = .ok (.getfield 19, 3) := by decide +kernel
theorem dX7_pop_30 : decode cX7_pop 30 = .ok (.iconst 1, 1) := by decide +kernel
theorem dX7_pop_31 : decode cX7_pop 31 = .ok (.isub, 1) := by decide +kernel
theorem dX7_pop_32 : decode cX7_pop 32 = .ok (.putfield 19, 3) := by decide +kernel
theorem dX7_pop_35 : decode cX7_pop 35 = .ok (.aload_n 1, 1) := by decide +kernel
theorem dX7_pop_36 : decode cX7_pop 36 = .ok (.aload_n 0, 1) := by decide +kernel
theorem dX7_pop_37 : decode cX7_pop 37 = .ok (.getfield 11, 3) := by decide +kernel
theorem dX7_pop_40 : decode cX7_pop 40 = .ok (.aload_n 0, 1) := by decide +kernel
theorem dX7_pop_41 : decode cX7_pop 41 = .ok (.getfield 15, 3) := by decide +kernel
theorem dX7_pop_44 : decode cX7_pop 44 = .ok (.bipush 65, 2) := by decide +kernel
theorem dX7_pop_46 : decode cX7_pop 46 = .ok (.imul, 1) := by decide +kernel
theorem dX7_pop_47 : decode cX7_pop 47 = .ok (.invokevirtual 32, 3) := by decide +kernel
theorem dX7_pop_50 : decode cX7_pop 50 = .ok (.iconst 1, 1) := by decide +kernel
theorem dX7_pop_51 : decode cX7_pop 51 = .ok (.ireturn, 1) := by decide +kernel
theorem dX7_copyFrom_0 : decode cX7_copyFrom 0 = .ok (.aload_n 1, 1) := by decide +kernel
theorem dX7_copyFrom_1 : decode cX7_copyFrom 1 = .ok (.getfield 11, 3) := by decide +kernel
theorem dX7_copyFrom_4 : decode cX7_copyFrom 4 = .ok (.iconst 0, 1) := by decide +kernel
theorem dX7_copyFrom_5 : decode cX7_copyFrom 5 = .ok (.aload_n 0, 1) := by decide +kernel
theorem dX7_copyFrom_6 : decode cX7_copyFrom 6 = .ok (.getfield 11, 3) := by decide +kernel
theorem dX7_copyFrom_9 : decode cX7_copyFrom 9 = .ok (.iconst 0, 1) := by decide +kernel
theorem dX7_copyFrom_10 : decode cX7_copyFrom 10 = .ok (.aload_n 0, 1) := by decide +kernel
theorem dX7_copyFrom_11 : decode cX7_copyFrom 11 = .ok (.getfield 11, 3) := by decide +kernel
theorem dX7_copyFrom_14 : decode cX7_copyFrom 14 = .ok (.arraylength, 1) := by decide +kernel
theorem dX7_copyFrom_15 : decode cX7_copyFrom 15 = .ok (.invokestatic 36, 3) := by decide +kernel
theorem dX7_copyFrom_18 : decode cX7_copyFrom 18 = .ok (.aload_n 0, 1) := by decide +kernel
theorem dX7_copyFrom_19 : decode cX7_copyFrom 19 = .ok (.aload_n 1, 1) := by decide +kernel
theorem dX7_copyFrom_20 : decode cX7_copyFrom 20 = .ok (.getfield 15, 3) := by decide +kernel
theorem dX7_copyFrom_23 : decode cX7_copyFrom 23 = .ok (.putfield 15, 3) := by decide +kernel
theorem dX7_copyFrom_26 : decode cX7_copyFrom 26 = .ok (.aload_n 0, 1) := by decide +kernel
theorem dX7_copyFrom_27 : decode cX7_copyFrom 27 = .ok (.aload_n 1, 1) := by decide +kernel
theorem dX7_copyFrom_28 : decode cX7_copyFrom 28 = .ok (.getfield 19, 3) := by decide +kernel
theorem dX7_copyFrom_31 : decode cX7_copyFrom 31 = .ok (.putfield 19, 3) := by decide +kernel
theorem dX7_copyFrom_34 : decode cX7_copyFrom 34 = .ok (.return_, 1) := by decide +kernel
theorem dX8_init_0 : decode cX8_init 0 = .ok (.aload_n 0, 1) := by decide +kernel
theorem dX8_init_1 : decode cX8_init 1 = .ok (.invokespecial 3, 3) := by decide +kernel
theorem dX8_init_4 : decode cX8_init 4 = .ok (.aload_n 0, 1) := by decide +kernel
theorem dX8_init_5 : decode cX8_init 5 = .ok (.sipush 300, 3) := by decide +kernel
theorem dX8_init_8 : decode cX8_init 8 = .ok (.newarray .int, 2) := by decide +kernel
theorem dX8_init_10 : decode cX8_init 10 = .ok (.putfield 9, 3) := by decide +kernel
theorem dX8_init_13 : decode cX8_init 13 = .ok (.aload_n 0, 1) := by decide +kernel
theorem dX8_init_14 : decode cX8_init 14 = .ok (.iconst 0, 1) := by decide +kernel
theorem dX8_init_15 : decode cX8_init 15 = .ok (.putfield 15, 3) := by decide +kernel
theorem dX8_init_18 : decode cX8_init 18 = .ok (.aload_n 0, 1) := by decide +kernel
theorem dX8_init_19 : decode cX8_init 19 = .ok (.sipush 301, 3) := by decide +kernel
theorem dX8_init_22 : decode cX8_init 22 = .ok (.newarray .int, 2) := by decide +kernel
theorem dX8_init_24 : decode cX8_init 24 = .ok (.putfield 19, 3) := by decide +kernel
theorem dX8_init_27 : decode cX8_init 27 = .ok (.aload_n 0, 1) := by decide +kernel
theorem dX8_init_28 : decode cX8_init 28 = .ok (.sipush 301, 3) := by decide +kernel
theorem dX8_init_31 : decode cX8_init 31 = .ok (.newarray .int, 2) := by decide +kernel
theorem dX8_init_33 : decode cX8_init 33 = .ok (.putfield 22, 3) := by decide +kernel
theorem dX8_init_36 : decode cX8_init 36 = .ok (.aload_n 0, 1) := by decide +kernel
theorem dX8_init_37 : decode cX8_init 37 = .ok (.sipush 301, 3) := by decide +kernel
theorem dX8_init_40 : decode cX8_init 40 = .ok (.newarray .int, 2) := by decide +kernel
theorem dX8_init_42 : decode cX8_init 42 = .ok (.putfield 25, 3) := by decide +kernel
theorem dX8_init_45 : decode cX8_init 45 = .ok (.aload_n 0, 1) := by decide +kernel
theorem dX8_init_46 : decode cX8_init 46 = .ok (.iconst 0, 1) := by decide +kernel
theorem dX8_init_47 : decode cX8_init 47 = .ok (.putfield 28, 3) := by decide +kernel
theorem dX8_init_50 : decode cX8_init 50 = .ok (.return_, 1) := by decide +kernel
theorem dX8_take_0 : decode cX8_take 0 = .ok (.bipush 24, 2) := by decide +kernel
theorem dX8_take_2 : decode cX8_take 2 = .ok (.istore_n 2, 1) := by decide +kernel
theorem dX8_take_3 : decode cX8_take 3 = .ok (.iload_n 2, 1) := by decide +kernel
theorem dX8_take_4 : decode cX8_take 4 = .ok (.ifCond .lt 45, 3) := by decide +kernel
theorem dX8_take_7 : decode cX8_take 7 = .ok (.aload_n 0, 1) := by decide +kernel
theorem dX8_take_8 : decode cX8_take 8 = .ok (.getfield 15, 3) := by decide +kernel
theorem dX8_take_11 : decode cX8_take 11 = .ok (.sipush 300, 3) := by decide +kernel
theorem dX8_take_14 : decode cX8_take 14 = .ok (.if_icmp .ge 35, 3) := by decide +kernel
theorem dX8_take_17 : decode cX8_take 17 = .ok (.aload_n 0, 1) := by decide +kernel
theorem dX8_take_18 : decode cX8_take 18 = .ok (.getfield 9, 3) := by decide +kernel
theorem dX8_take_21 : decode cX8_take 21 = .ok (.aload_n 0, 1) := by decide +kernel
theorem dX8_take_22 : decode cX8_take 22 = .ok (.getfield 15, 3) := by decide +kernel
theorem dX8_take_25 : decode cX8_take 25 = .ok (.iload_n 1, 1) := by decide +kernel
theorem dX8_take_26 : decode cX8_take 26 = .ok (.iload_n 2, 1) := by decide +kernel
theorem dX8_take_27 : decode cX8_take 27 = .ok (.ishr, 1) := by decide +kernel
theorem dX8_take_28 : decode cX8_take 28 = .ok (.sipush 255, 3) := by decide +kernel
theorem dX8_take_31 : decode cX8_take 31 = .ok (.iand, 1) := by decide +kernel
theorem dX8_take_32 : decode cX8_take 32 = .ok (.iastore, 1) := by decide +kernel
theorem dX8_take_33 : decode cX8_take 33 = .ok (.aload_n 0, 1) := by decide +kernel
theorem dX8_take_34 : decode cX8_take 34 = .ok (.dup, 1) := by decide +kernel
theorem dX8_take_35 : decode cX8_take 35 = .ok (.getfield 15, 3) := by decide +kernel
theorem dX8_take_38 : decode cX8_take 38 = .ok (.iconst 1, 1) := by decide +kernel
theorem dX8_take_39 : decode cX8_take 39 = .ok (.iadd, 1) := by decide +kernel
theorem dX8_take_40 : decode cX8_take 40 = .ok (.putfield 15, 3) := by decide +kernel
theorem dX8_take_43 : decode cX8_take 43 = .ok (.iinc 2 (-8), 3) := by decide +kernel
theorem dX8_take_46 : decode cX8_take 46 = .ok (.goto (-43), 3) := by decide +kernel
theorem dX8_take_49 : decode cX8_take 49 = .ok (.return_, 1) := by decide +kernel
theorem dX8_kindAt_0 : decode cX8_kindAt 0 = .ok (.iload_n 1, 1) := by decide +kernel
theorem dX8_kindAt_1 : decode cX8_kindAt 1 = .ok (.ifCond .lt 20, 3) := by decide +kernel
theorem dX8_kindAt_4 : decode cX8_kindAt 4 = .ok (.iload_n 1, 1) := by decide +kernel
theorem dX8_kindAt_5 : decode cX8_kindAt 5 = .ok (.aload_n 0, 1) := by decide +kernel
theorem dX8_kindAt_6 : decode cX8_kindAt 6 = .ok (.getfield 28, 3) := by decide +kernel
theorem dX8_kindAt_9 : decode cX8_kindAt 9 = .ok (.if_icmp .ge 12, 3) := by decide +kernel
theorem dX8_kindAt_12 : decode cX8_kindAt 12 = .ok (.aload_n 0, 1) := by decide +kernel
theorem dX8_kindAt_13 : decode cX8_kindAt 13 = .ok (.getfield 19, 3) := by decide +kernel
theorem dX8_kindAt_16 : decode cX8_kindAt 16 = .ok (.iload_n 1, 1) := by decide +kernel
theorem dX8_kindAt_17 : decode cX8_kindAt 17 = .ok (.iaload, 1) := by decide +kernel
theorem dX8_kindAt_18 : decode cX8_kindAt 18 = .ok (.goto 5, 3) := by decide +kernel
theorem dX8_kindAt_21 : decode cX8_kindAt 21 = .ok (.bipush 43, 2) := by decide +kernel
theorem dX8_kindAt_23 : decode cX8_kindAt 23 = .ok (.ireturn, 1) := by decide +kernel
theorem dX8_startAt_0 : decode cX8_startAt 0 = .ok (.iload_n 1, 1) := by decide +kernel
theorem dX8_startAt_1 : decode cX8_startAt 1 = .ok (.ifCond .lt 20, 3) := by decide +kernel
theorem dX8_startAt_4 : decode cX8_startAt 4 = .ok (.iload_n 1, 1) := by decide +kernel
theorem dX8_startAt_5 : decode cX8_startAt 5 = .ok (.aload_n 0, 1) := by decide +kernel
theorem dX8_startAt_6 : decode cX8_startAt 6 = .ok (.getfield 28, 3) := by decide +kernel
theorem dX8_startAt_9 : decode cX8_startAt 9 = .ok (.if_icmp .ge 12, 3) := by decide +kernel
theorem dX8_startAt_12 : decode cX8_startAt 12 = .ok (.aload_n 0, 1) := by decide +kernel
theorem dX8_startAt_13 : decode cX8_startAt 13 = .ok (.getfield 22, 3) := by decide +kernel
theorem dX8_startAt_16 : decode cX8_startAt 16 = .ok (.iload_n 1, 1) := by decide +kernel
theorem dX8_startAt_17 : decode cX8_startAt 17 = .ok (.iaload, 1) := by decide +kernel
theorem dX8_startAt_18 : decode cX8_startAt 18 = .ok (.goto 7, 3) := by decide +kernel
theorem dX8_startAt_21 : decode cX8_startAt 21 = .ok (.aload_n 0, 1) := by decide +kernel
theorem dX8_startAt_22 : decode cX8_startAt 22 = .ok (.getfield 15, 3) := by decide +kernel
theorem dX8_startAt_25 : decode cX8_startAt 25 = .ok (.ireturn, 1) := by decide +kernel
theorem dX8_numberAt_0 : decode cX8_numberAt 0 = .ok (.iload_n 1, 1) := by decide +kernel
theorem dX8_numberAt_1 : decode cX8_numberAt 1 = .ok (.ifCond .lt 20, 3) := by decide +kernel
theorem dX8_numberAt_4 : decode cX8_numberAt 4 = .ok (.iload_n 1, 1) := by decide +kernel
theorem dX8_numberAt_5 : decode cX8_numberAt 5 = .ok (.aload_n 0, 1) := by decide +kernel
theorem dX8_numberAt_6 : decode cX8_numberAt 6 = .ok (.getfield 28, 3) := by decide +kernel
theorem dX8_numberAt_9 : decode cX8_numberAt 9 = .ok (.if_icmp .ge 12, 3) := by decide +kernel
theorem dX8_numberAt_12 : decode cX8_numberAt 12 = .ok (.aload_n 0, 1) := by decide +kernel
theorem dX8_numberAt_13 : decode cX8_numberAt 13 = .ok (.getfield 25, 3) := by decide +kernel
theorem dX8_numberAt_16 : decode cX8_numberAt 16 = .ok (.iload_n 1, 1) := by decide +kernel
theorem dX8_numberAt_17 : decode cX8_numberAt 17 = .ok (.iaload, 1) := by decide +kernel
theorem dX8_numberAt_18 : decode cX8_numberAt 18 = .ok (.goto 4, 3) := by decide +kernel
theorem dX8_numberAt_21 : decode cX8_numberAt 21 = .ok (.iconst (-1), 1) := by decide +kernel
theorem dX8_numberAt_22 : decode cX8_numberAt 22 = .ok (.ireturn, 1) := by decide +kernel
theorem dX8_cutUp_0 : decode cX8_cutUp 0 = .ok (.aload_n 0, 1) := by decide +kernel
theorem dX8_cutUp_1 : decode cX8_cutUp 1 = .ok (.iconst 0, 1) := by decide +kernel
theorem dX8_cutUp_2 : decode cX8_cutUp 2 = .ok (.putfield 28, 3) := by decide +kernel
theorem dX8_cutUp_5 : decode cX8_cutUp 5 = .ok (.iconst 0, 1) := by decide +kernel
theorem dX8_cutUp_6 : decode cX8_cutUp 6 = .ok (.istore_n 1, 1) := by decide +kernel
theorem dX8_cutUp_7 : decode cX8_cutUp 7 = .ok (.iload_n 1, 1) := by decide +kernel
theorem dX8_cutUp_8 : decode cX8_cutUp 8 = .ok (.aload_n 0, 1) := by decide +kernel
theorem dX8_cutUp_9 : decode cX8_cutUp 9 = .ok (.getfield 15, 3) := by decide +kernel
theorem dX8_cutUp_12 : decode cX8_cutUp 12 = .ok (.if_icmp .ge 56, 3) := by decide +kernel
theorem dX8_cutUp_15 : decode cX8_cutUp 15 = .ok (.aload_n 0, 1) := by decide +kernel
theorem dX8_cutUp_16 : decode cX8_cutUp 16 = .ok (.getfield 9, 3) := by decide +kernel
theorem dX8_cutUp_19 : decode cX8_cutUp 19 = .ok (.iload_n 1, 1) := by decide +kernel
theorem dX8_cutUp_20 : decode cX8_cutUp 20 = .ok (.iaload, 1) := by decide +kernel
theorem dX8_cutUp_21 : decode cX8_cutUp 21 = .ok (.bipush 32, 2) := by decide +kernel
theorem dX8_cutUp_23 : decode cX8_cutUp 23 = .ok (.if_icmp .eq 14, 3) := by decide +kernel
theorem dX8_cutUp_26 : decode cX8_cutUp 26 = .ok (.aload_n 0, 1) := by decide +kernel
theorem dX8_cutUp_27 : decode cX8_cutUp 27 = .ok (.getfield 9, 3) := by decide +kernel
theorem dX8_cutUp_30 : decode cX8_cutUp 30 = .ok (.iload_n 1, 1) := by decide +kernel
theorem dX8_cutUp_31 : decode cX8_cutUp 31 = .ok (.iaload, 1) := by decide +kernel
theorem dX8_cutUp_32 : decode cX8_cutUp 32 = .ok (.bipush 10, 2) := by decide +kernel
theorem dX8_cutUp_34 : decode cX8_cutUp 34 = .ok (.if_icmp .ne 7, 3) := by decide +kernel
theorem dX8_cutUp_37 : decode cX8_cutUp 37 = .ok (.iconst 1, 1) := by decide +kernel
theorem dX8_cutUp_38 : decode cX8_cutUp 38 = .ok (.goto 4, 3) := by decide +kernel
theorem dX8_cutUp_41 : decode cX8_cutUp 41 = .ok (.iconst 0, 1) := by decide +kernel
theorem dX8_cutUp_42 : decode cX8_cutUp 42 = .ok (.istore_n 2, 1) := by decide +kernel
theorem dX8_cutUp_43 : decode cX8_cutUp 43 = .ok (.iload_n 2, 1) := by decide +kernel
theorem dX8_cutUp_44 : decode cX8_cutUp 44 = .ok (.ifCond .eq 9, 3) := by decide +kernel
theorem dX8_cutUp_47 : decode cX8_cutUp 47 = .ok (.iload_n 1, 1) := by decide +kernel
theorem dX8_cutUp_48 : decode cX8_cutUp 48 = .ok (.iconst 1, 1) := by decide +kernel
theorem dX8_cutUp_49 : decode cX8_cutUp 49 = .ok (.iadd, 1) := by decide +kernel
theorem dX8_cutUp_50 : decode cX8_cutUp 50 = .ok (.goto 14, 3) := by decide +kernel
theorem dX8_cutUp_53 : decode cX8_cutUp 53 = .ok (.iload_n 1, 1) := by decide +kernel
theorem dX8_cutUp_54 : decode cX8_cutUp 54 = .ok (.iconst 1, 1) := by decide +kernel
theorem dX8_cutUp_55 : decode cX8_cutUp 55 = .ok (.iadd, 1) := by decide +kernel
theorem dX8_cutUp_56 : decode cX8_cutUp 56 = .ok (.aload_n 0, 1) := by decide +kernel
theorem dX8_cutUp_57 : decode cX8_cutUp 57 = .ok (.iload_n 1, 1) := by decide +kernel
theorem dX8_cutUp_58 : decode cX8_cutUp 58 = .ok (.invokevirtual 33, 3) := by decide +kernel
theorem dX8_cutUp_61 : decode cX8_cutUp 61 = .ok (.invokestatic 37, 3) := by decide +kernel
theorem dX8_cutUp_64 : decode cX8_cutUp 64 = .ok (.istore_n 1, 1) := by decide +kernel
theorem dX8_cutUp_65 : decode cX8_cutUp 65 = .ok (.goto (-58), 3) := by decide +kernel
theorem dX8_cutUp_68 : decode cX8_cutUp 68 = .ok (.aload_n 0, 1) := by decide +kernel
theorem dX8_cutUp_69 : decode cX8_cutUp 69 = .ok (.bipush 43, 2) := by decide +kernel
theorem dX8_cutUp_71 : decode cX8_cutUp 71 = .ok (.aload_n 0, 1) := by decide +kernel
theorem dX8_cutUp_72 : decode cX8_cutUp 72 = .ok (.getfield 15, 3) := by decide +kernel
theorem dX8_cutUp_75 : decode cX8_cutUp 75 = .ok (.iconst 0, 1) := by decide +kernel
theorem dX8_cutUp_76 : decode cX8_cutUp 76 = .ok (.invokevirtual 43, 3) := by decide +kernel
theorem dX8_cutUp_79 : decode cX8_cutUp 79 = .ok (.return_, 1) := by decide +kernel
theorem dX8_cutFrom_0 : decode cX8_cutFrom 0 = .ok (.iload_n 1, 1) := by decide +kernel
theorem dX8_cutFrom_1 : decode cX8_cutFrom 1 = .ok (.iconst 1, 1) := by decide +kernel
theorem dX8_cutFrom_2 : decode cX8_cutFrom 2 = .ok (.iadd, 1) := by decide +kernel
theorem dX8_cutFrom_3 : decode cX8_cutFrom 3 = .ok (.istore_n 2, 1) := by decide +kernel
theorem dX8_cutFrom_4 : decode cX8_cutFrom 4 = .ok (.aload_n 0, 1) := by decide +kernel
theorem dX8_cutFrom_5 : decode cX8_cutFrom 5 = .ok (.getfield 9, 3) := by decide +kernel
theorem dX8_cutFrom_8 : decode cX8_cutFrom 8 = .ok (.iload_n 1, 1) := by decide +kernel
theorem dX8_cutFrom_9 : decode cX8_cutFrom 9 = .ok (.iaload, 1) := by decide +kernel
theorem dX8_cutFrom_10 : decode cX8_cutFrom 10 = .ok (.invokestatic 47, 3) := by decide +kernel
theorem dX8_cutFrom_13 : decode cX8_cutFrom 13 = .ok (.ifCond .eq 44, 3) := by decide +kernel
theorem dX8_cutFrom_16 : decode cX8_cutFrom 16 = .ok (.iload_n 2, 1) := by decide +kernel
theorem dX8_cutFrom_17 : decode cX8_cutFrom 17 = .ok (.aload_n 0, 1) := by decide +kernel
theorem dX8_cutFrom_18 : decode cX8_cutFrom 18 = .ok (.getfield 15, 3) := by decide +kernel
theorem dX8_cutFrom_21 : decode cX8_cutFrom 21 = .ok (.if_icmp .ge 21, 3) := by decide +kernel
theorem dX8_cutFrom_24 : decode cX8_cutFrom 24 = .ok (.aload_n 0, 1) := by decide +kernel
theorem dX8_cutFrom_25 : decode cX8_cutFrom 25 = .ok (.getfield 9, 3) := by decide +kernel
theorem dX8_cutFrom_28 : decode cX8_cutFrom 28 = .ok (.iload_n 2, 1) := by decide +kernel
theorem dX8_cutFrom_29 : decode cX8_cutFrom 29 = .ok (.iaload, 1) := by decide +kernel
theorem dX8_cutFrom_30 : decode cX8_cutFrom 30 = .ok (.invokestatic 47, 3) := by decide +kernel
theorem dX8_cutFrom_33 : decode cX8_cutFrom 33 = .ok (.ifCond .eq 9, 3) := by decide +kernel
theorem dX8_cutFrom_36 : decode cX8_cutFrom 36 = .ok (.iinc 2 1, 3) := by decide +kernel
theorem dX8_cutFrom_39 : decode cX8_cutFrom 39 = .ok (.goto (-23), 3) := by decide +kernel
theorem dX8_cutFrom_42 : decode cX8_cutFrom 42 = .ok (.aload_n 0, 1) := by decide +kernel
theorem dX8_cutFrom_43 : decode cX8_cutFrom 43 = .ok (.aload_n 0, 1) := by decide +kernel
theorem dX8_cutFrom_44 : decode cX8_cutFrom 44 = .ok (.iload_n 1, 1) := by decide +kernel
theorem dX8_cutFrom_45 : decode cX8_cutFrom 45 = .ok (.iload_n 2, 1) := by decide +kernel
theorem dX8_cutFrom_46 : decode cX8_cutFrom 46 = .ok (.invokevirtual 51, 3) := by decide +kernel
theorem dX8_cutFrom_49 : decode cX8_cutFrom 49 = .ok (.iload_n 1, 1) := by decide +kernel
theorem dX8_cutFrom_50 : decode cX8_cutFrom 50 = .ok (.iconst 0, 1) := by decide +kernel
theorem dX8_cutFrom_51 : decode cX8_cutFrom 51 = .ok (.invokevirtual 43, 3) := by decide +kernel
theorem dX8_cutFrom_54 : decode cX8_cutFrom 54 = .ok (.goto 160, 3) := by decide +kernel
theorem dX8_cutFrom_57 : decode cX8_cutFrom 57 = .ok (.aload_n 0, 1) := by decide +kernel
theorem dX8_cutFrom_58 : decode cX8_cutFrom 58 = .ok (.getfield 9, 3) := by decide +kernel
theorem dX8_cutFrom_61 : decode cX8_cutFrom 61 = .ok (.iload_n 1, 1) := by decide +kernel
theorem dX8_cutFrom_62 : decode cX8_cutFrom 62 = .ok (.iaload, 1) := by decide +kernel
theorem dX8_cutFrom_63 : decode cX8_cutFrom 63 = .ok (.invokestatic 54, 3) := by decide +kernel
theorem dX8_cutFrom_66 : decode cX8_cutFrom 66 = .ok (.ifCond .eq 45, 3) := by decide +kernel
theorem dX8_cutFrom_69 : decode cX8_cutFrom 69 = .ok (.iload_n 2, 1) := by decide +kernel
theorem dX8_cutFrom_70 : decode cX8_cutFrom 70 = .ok (.aload_n 0, 1) := by decide +kernel
theorem dX8_cutFrom_71 : decode cX8_cutFrom 71 = .ok (.getfield 15, 3) := by decide +kernel
theorem dX8_cutFrom_74 : decode cX8_cutFrom 74 = .ok (.if_icmp .ge 21, 3) := by decide +kernel
theorem dX8_cutFrom_77 : decode cX8_cutFrom 77 = .ok (.aload_n 0, 1) := by decide +kernel
theorem dX8_cutFrom_78 : decode cX8_cutFrom 78 = .ok (.getfield 9, 3) := by decide +kernel
theorem dX8_cutFrom_81 : decode cX8_cutFrom 81 = .ok (.iload_n 2, 1) := by decide +kernel
theorem dX8_cutFrom_82 : decode cX8_cutFrom 82 = .ok (.iaload, 1) := by decide +kernel
theorem dX8_cutFrom_83 : decode cX8_cutFrom 83 = .ok (.invokestatic 54, 3) := by decide +kernel
theorem dX8_cutFrom_86 : decode cX8_cutFrom 86 = .ok (.ifCond .eq 9, 3) := by decide +kernel
theorem dX8_cutFrom_89 : decode cX8_cutFrom 89 = .ok (.iinc 2 1, 3) := by decide +kernel
theorem dX8_cutFrom_92 : decode cX8_cutFrom 92 = .ok (.goto (-23), 3) := by decide +kernel
theorem dX8_cutFrom_95 : decode cX8_cutFrom 95 = .ok (.aload_n 0, 1) := by decide +kernel
theorem dX8_cutFrom_96 : decode cX8_cutFrom 96 = .ok (.bipush 41, 2) := by decide +kernel
theorem dX8_cutFrom_98 : decode cX8_cutFrom 98 = .ok (.iload_n 1, 1) := by decide +kernel
theorem dX8_cutFrom_99 : decode cX8_cutFrom 99 = .ok (.aload_n 0, 1) := by decide +kernel
theorem dX8_cutFrom_100 : decode cX8_cutFrom 100 = .ok (.iload_n 1, 1) := by decide +kernel
theorem dX8_cutFrom_101 : decode cX8_cutFrom 101 = .ok (.iload_n 2, 1) := by decide +kernel
theorem dX8_cutFrom_102 : decode cX8_cutFrom 102 = .ok (.invokevirtual 57, 3) := by decide +kernel
theorem dX8_cutFrom_105 : decode cX8_cutFrom 105 = .ok (.invokevirtual 43, 3) := by decide +kernel
theorem dX8_cutFrom_108 : decode cX8_cutFrom 108 = .ok (.goto 106, 3) := by decide +kernel
theorem dX8_cutFrom_111 : decode cX8_cutFrom 111 = .ok (.iload_n 2, 1) := by decide +kernel
theorem dX8_cutFrom_112 : decode cX8_cutFrom 112 = .ok (.aload_n 0, 1) := by decide +kernel
theorem dX8_cutFrom_113 : decode cX8_cutFrom 113 = .ok (.getfield 15, 3) := by decide +kernel
theorem dX8_cutFrom_116 : decode cX8_cutFrom 116 = .ok (.if_icmp .ge 66, 3) := by decide +kernel
theorem dX8_cutFrom_119 : decode cX8_cutFrom 119 = .ok (.aload_n 0, 1) := by decide +kernel
theorem dX8_cutFrom_120 : decode cX8_cutFrom 120 = .ok (.getfield 9, 3) := by decide +kernel
theorem dX8_cutFrom_123 : decode cX8_cutFrom 123 = .ok (.iload_n 2, 1) := by decide +kernel
theorem dX8_cutFrom_124 : decode cX8_cutFrom 124 = .ok (.iaload, 1) := by decide +kernel
theorem dX8_cutFrom_125 : decode cX8_cutFrom 125 = .ok (.bipush 61, 2) := by decide +kernel
theorem dX8_cutFrom_127 : decode cX8_cutFrom 127 = .ok (.if_icmp .ne 55, 3) := by decide +kernel
theorem dX8_cutFrom_130 : decode cX8_cutFrom 130 = .ok (.aload_n 0, 1) := by decide +kernel
theorem dX8_cutFrom_131 : decode cX8_cutFrom 131 = .ok (.getfield 9, 3) := by decide +kernel
theorem dX8_cutFrom_134 : decode cX8_cutFrom 134 = .ok (.iload_n 1, 1) := by decide +kernel
theorem dX8_cutFrom_135 : decode cX8_cutFrom 135 = .ok (.iaload, 1) := by decide +kernel
theorem dX8_cutFrom_136 : decode cX8_cutFrom 136 = .ok (.bipush 60, 2) := by decide +kernel
theorem dX8_cutFrom_138 : decode cX8_cutFrom 138 = .ok (.if_icmp .eq 14, 3) := by decide +kernel
theorem dX8_cutFrom_141 : decode cX8_cutFrom 141 = .ok (.aload_n 0, 1) := by decide +kernel
theorem dX8_cutFrom_142 : decode cX8_cutFrom 142 = .ok (.getfield 9, 3) := by decide +kernel
theorem dX8_cutFrom_145 : decode cX8_cutFrom 145 = .ok (.iload_n 1, 1) := by decide +kernel
theorem dX8_cutFrom_146 : decode cX8_cutFrom 146 = .ok (.iaload, 1) := by decide +kernel
theorem dX8_cutFrom_147 : decode cX8_cutFrom 147 = .ok (.bipush 62, 2) := by decide +kernel
theorem dX8_cutFrom_149 : decode cX8_cutFrom 149 = .ok (.if_icmp .ne 33, 3) := by decide +kernel
theorem dX8_cutFrom_152 : decode cX8_cutFrom 152 = .ok (.aload_n 0, 1) := by decide +kernel
theorem dX8_cutFrom_153 : decode cX8_cutFrom 153 = .ok (.aload_n 0, 1) := by decide +kernel
theorem dX8_cutFrom_154 : decode cX8_cutFrom 154 = .ok (.getfield 9, 3) := by decide +kernel
theorem dX8_cutFrom_157 : decode cX8_cutFrom 157 = .ok (.iload_n 1, 1) := by decide +kernel
theorem dX8_cutFrom_158 : decode cX8_cutFrom 158 = .ok (.iaload, 1) := by decide +kernel
theorem dX8_cutFrom_159 : decode cX8_cutFrom 159 = .ok (.bipush 60, 2) := by decide +kernel
theorem dX8_cutFrom_161 : decode cX8_cutFrom 161 = .ok (.if_icmp .ne 8, 3) := by decide +kernel
theorem dX8_cutFrom_164 : decode cX8_cutFrom 164 = .ok (.bipush 39, 2) := by decide +kernel
theorem dX8_cutFrom_166 : decode cX8_cutFrom 166 = .ok (.goto 5, 3) := by decide +kernel
theorem dX8_cutFrom_169 : decode cX8_cutFrom 169 = .ok (.bipush 40, 2) := by decide +kernel
theorem dX8_cutFrom_171 : decode cX8_cutFrom 171 = .ok (.iload_n 1, 1) := by decide +kernel
theorem dX8_cutFrom_172 : decode cX8_cutFrom 172 = .ok (.iconst 0, 1) := by decide +kernel
theorem dX8_cutFrom_173 : decode cX8_cutFrom 173 = .ok (.invokevirtual 43, 3) := by decide +kernel
theorem dX8_cutFrom_176 : decode cX8_cutFrom 176 = .ok (.iinc 2 1, 3) := by decide +kernel
theorem dX8_cutFrom_179 : decode cX8_cutFrom 179 = .ok (.goto 35, 3) := by decide +kernel
theorem dX8_cutFrom_182 : decode cX8_cutFrom 182 = .ok (.ldc 60, 2) := by decide +kernel
theorem dX8_cutFrom_184 : decode cX8_cutFrom 184 = .ok (.aload_n 0, 1) := by decide +kernel
theorem dX8_cutFrom_185 : decode cX8_cutFrom 185 = .ok (.getfield 9, 3) := by decide +kernel
theorem dX8_cutFrom_188 : decode cX8_cutFrom 188 = .ok (.iload_n 1, 1) := by decide +kernel
theorem dX8_cutFrom_189 : decode cX8_cutFrom 189 = .ok (.iaload, 1) := by decide +kernel
theorem dX8_cutFrom_190 : decode cX8_cutFrom 190 = .ok (.i2c, 1) := by decide +kernel
theorem dX8_cutFrom_191 : decode cX8_cutFrom 191 = .ok (.invokevirtual 62, 3) := by decide +kernel
theorem dX8_cutFrom_194 : decode cX8_cutFrom 194 = .ok (.istore_n 3, 1) := by decide +kernel
theorem dX8_cutFrom_195 : decode cX8_cutFrom 195 = .ok (.aload_n 0, 1) := by decide +kernel
theorem dX8_cutFrom_196 : decode cX8_cutFrom 196 = .ok (.iload_n 3, 1) := by decide +kernel
theorem dX8_cutFrom_197 : decode cX8_cutFrom 197 = .ok (.ifCond .ge 8, 3) := by decide +kernel
theorem dX8_cutFrom_200 : decode cX8_cutFrom 200 = .ok (.bipush 42, 2) := by decide +kernel
theorem dX8_cutFrom_202 : decode cX8_cutFrom 202 = .ok (.goto 7, 3) := by decide +kernel
theorem dX8_cutFrom_205 : decode cX8_cutFrom 205 = .ok (.bipush 28, 2) := by decide +kernel
theorem dX8_cutFrom_207 : decode cX8_cutFrom 207 = .ok (.iload_n 3, 1) := by decide +kernel
theorem dX8_cutFrom_208 : decode cX8_cutFrom 208 = .ok (.iadd, 1) := by decide +kernel
theorem dX8_cutFrom_209 : decode cX8_cutFrom 209 = .ok (.iload_n 1, 1) := by decide +kernel
theorem dX8_cutFrom_210 : decode cX8_cutFrom 210 = .ok (.iconst 0, 1) := by decide +kernel
theorem dX8_cutFrom_211 : decode cX8_cutFrom 211 = .ok (.invokevirtual 43, 3) := by decide +kernel
theorem dX8_cutFrom_214 : decode cX8_cutFrom 214 = .ok (.iload_n 2, 1) := by decide +kernel
theorem dX8_cutFrom_215 : decode cX8_cutFrom 215 = .ok (.ireturn, 1) := by decide +kernel
theorem dX8_put_0 : decode cX8_put 0 = .ok (.aload_n 0, 1) := by decide +kernel
theorem dX8_put_1 : decode cX8_put 1 = .ok (.getfield 28, 3) := by decide +kernel
theorem dX8_put_4 : decode cX8_put 4 = .ok (.aload_n 0, 1) := by decide +kernel
theorem dX8_put_5 : decode cX8_put 5 = .ok (.getfield 19, 3) := by decide +kernel
theorem dX8_put_8 : decode cX8_put 8 = .ok (.arraylength, 1) := by decide +kernel
theorem dX8_put_9 : decode cX8_put 9 = .ok (.if_icmp .ge 43, 3) := by decide +kernel
theorem dX8_put_12 : decode cX8_put 12 = .ok (.aload_n 0, 1) := by decide +kernel
theorem dX8_put_13 : decode cX8_put 13 = .ok (.getfield 19, 3) := by decide +kernel
theorem dX8_put_16 : decode cX8_put 16 = .ok (.aload_n 0, 1) := by decide +kernel
theorem dX8_put_17 : decode cX8_put 17 = .ok (.getfield 28, 3) := by decide +kernel
theorem dX8_put_20 : decode cX8_put 20 = .ok (.iload_n 1, 1) := by decide +kernel
theorem dX8_put_21 : decode cX8_put 21 = .ok (.iastore, 1) := by decide +kernel
theorem dX8_put_22 : decode cX8_put 22 = .ok (.aload_n 0, 1) := by decide +kernel
theorem dX8_put_23 : decode cX8_put 23 = .ok (.getfield 22, 3) := by decide +kernel
theorem dX8_put_26 : decode cX8_put 26 = .ok (.aload_n 0, 1) := by decide +kernel
theorem dX8_put_27 : decode cX8_put 27 = .ok (.getfield 28, 3) := by decide +kernel
theorem dX8_put_30 : decode cX8_put 30 = .ok (.iload_n 2, 1) := by decide +kernel
theorem dX8_put_31 : decode cX8_put 31 = .ok (.iastore, 1) := by decide +kernel
theorem dX8_put_32 : decode cX8_put 32 = .ok (.aload_n 0, 1) := by decide +kernel
theorem dX8_put_33 : decode cX8_put 33 = .ok (.getfield 25, 3) := by decide +kernel
theorem dX8_put_36 : decode cX8_put 36 = .ok (.aload_n 0, 1) := by decide +kernel
theorem dX8_put_37 : decode cX8_put 37 = .ok (.getfield 28, 3) := by decide +kernel
theorem dX8_put_40 : decode cX8_put 40 = .ok (.iload_n 3, 1) := by decide +kernel
theorem dX8_put_41 : decode cX8_put 41 = .ok (.iastore, 1) := by decide +kernel
theorem dX8_put_42 : decode cX8_put 42 = .ok (.aload_n 0, 1) := by decide +kernel
theorem dX8_put_43 : decode cX8_put 43 = .ok (.dup, 1) := by decide +kernel
theorem dX8_put_44 : decode cX8_put 44 = .ok (.getfield 28, 3) := by decide +kernel
theorem dX8_put_47 : decode cX8_put 47 = .ok (.iconst 1, 1) := by decide +kernel
theorem dX8_put_48 : decode cX8_put 48 = .ok (.iadd, 1) := by decide +kernel
theorem dX8_put_49 : decode cX8_put 49 = .ok (.putfield 28, 3) := by decide +kernel
theorem dX8_put_52 : decode cX8_put 52 = .ok (.return_, 1) := by decide +kernel
theorem dX8_wordFrom_0 : decode cX8_wordFrom 0 = .ok (.iconst 0, 1) := by decide +kernel
theorem dX8_wordFrom_1 : decode cX8_wordFrom 1 = .ok (.istore_n 3, 1) := by decide +kernel
theorem dX8_wordFrom_2 : decode cX8_wordFrom 2 = .ok (.iconst 0, 1) := by decide +kernel
theorem dX8_wordFrom_3 : decode cX8_wordFrom 3 = .ok (.istore 4, 2) := by decide +kernel
theorem dX8_wordFrom_5 : decode cX8_wordFrom 5 = .ok (.iconst 0, 1) := by decide +kernel
theorem dX8_wordFrom_6 : decode cX8_wordFrom 6 = .ok (.istore 5, 2) := by decide +kernel
theorem dX8_wordFrom_8 : decode cX8_wordFrom 8 = .ok (.iload 5, 2) := by decide +kernel
theorem dX8_wordFrom_10 : decode cX8_wordFrom 10 = .ok (.ldc 67, 2) := by decide +kernel
theorem dX8_wordFrom_12 : decode cX8_wordFrom 12 = .ok (.invokevirtual 69, 3) := by decide +kernel
theorem dX8_wordFrom_15 : decode cX8_wordFrom 15 = .ok (.if_icmp .ge 93, 3) := by decide +kernel
theorem dX8_wordFrom_18 : decode cX8_wordFrom 18 = .ok (.ldc 67, 2) := by decide +kernel
theorem dX8_wordFrom_20 : decode cX8_wordFrom 20 = .ok (.iload 5, 2) := by decide +kernel
theorem dX8_wordFrom_22 : decode cX8_wordFrom 22 = .ok (.invokevirtual 72, 3) := by decide +kernel
theorem dX8_wordFrom_25 : decode cX8_wordFrom 25 = .ok (.istore 6, 2) := by decide +kernel
theorem dX8_wordFrom_27 : decode cX8_wordFrom 27 = .ok (.iload 6, 2) := by decide +kernel
theorem dX8_wordFrom_29 : decode cX8_wordFrom 29 = .ok (.bipush 32, 2) := by decide +kernel
theorem dX8_wordFrom_31 : decode cX8_wordFrom 31 = .ok (.if_icmp .eq 55, 3) := by decide +kernel
theorem dX8_wordFrom_34 : decode cX8_wordFrom 34 = .ok (.iload 4, 2) := by decide +kernel
theorem dX8_wordFrom_36 : decode cX8_wordFrom 36 = .ok (.ifCond .lt 29, 3) := by decide +kernel
theorem dX8_wordFrom_39 : decode cX8_wordFrom 39 = .ok (.iload_n 1, 1) := by decide +kernel
theorem dX8_wordFrom_40 : decode cX8_wordFrom 40 = .ok (.iload 4, 2) := by decide +kernel
theorem dX8_wordFrom_42 : decode cX8_wordFrom 42 = .ok (.iadd, 1) := by decide +kernel
theorem dX8_wordFrom_43 : decode cX8_wordFrom 43 = .ok (.iload_n 2, 1) := by decide +kernel
theorem dX8_wordFrom_44 : decode cX8_wordFrom 44 = .ok (.if_icmp .ge 21, 3) := by decide +kernel
theorem dX8_wordFrom_47 : decode cX8_wordFrom 47 = .ok (.aload_n 0, 1) := by decide +kernel
theorem dX8_wordFrom_48 : decode cX8_wordFrom 48 = .ok (.getfield 9, 3) := by decide +kernel
theorem dX8_wordFrom_51 : decode cX8_wordFrom 51 = .ok (.iload_n 1, 1) := by decide +kernel
theorem dX8_wordFrom_52 : decode cX8_wordFrom 52 = .ok (.iload 4, 2) := by decide +kernel
theorem dX8_wordFrom_54 : decode cX8_wordFrom 54 = .ok (.iadd, 1) := by decide +kernel
theorem dX8_wordFrom_55 : decode cX8_wordFrom 55 = .ok (.iaload, 1) := by decide +kernel
theorem dX8_wordFrom_56 : decode cX8_wordFrom 56 = .ok (.iload 6, 2) := by decide +kernel
theorem dX8_wordFrom_58 : decode cX8_wordFrom 58 = .ok (.if_icmp .ne 7, 3) := by decide +kernel
theorem dX8_wordFrom_61 : decode cX8_wordFrom 61 = .ok (.iconst 1, 1) := by decide +kernel
theorem dX8_wordFrom_62 : decode cX8_wordFrom 62 = .ok (.goto 4, 3) := by decide +kernel
theorem dX8_wordFrom_65 : decode cX8_wordFrom 65 = .ok (.iconst 0, 1) := by decide +kernel
theorem dX8_wordFrom_66 : decode cX8_wordFrom 66 = .ok (.istore 7, 2) := by decide +kernel
theorem dX8_wordFrom_68 : decode cX8_wordFrom 68 = .ok (.iload 7, 2) := by decide +kernel
theorem dX8_wordFrom_70 : decode cX8_wordFrom 70 = .ok (.ifCond .eq 10, 3) := by decide +kernel
theorem dX8_wordFrom_73 : decode cX8_wordFrom 73 = .ok (.iload 4, 2) := by decide +kernel
theorem dX8_wordFrom_75 : decode cX8_wordFrom 75 = .ok (.iconst 1, 1) := by decide +kernel
theorem dX8_wordFrom_76 : decode cX8_wordFrom 76 = .ok (.iadd, 1) := by decide +kernel
theorem dX8_wordFrom_77 : decode cX8_wordFrom 77 = .ok (.goto 4, 3) := by decide +kernel
theorem dX8_wordFrom_80 : decode cX8_wordFrom 80 = .ok (.iconst (-1), 1) := by decide +kernel
theorem dX8_wordFrom_81 : decode cX8_wordFrom 81 = .ok (.istore 4, 2) := by decide +kernel
theorem dX8_wordFrom_83 : decode cX8_wordFrom 83 = .ok (.goto 19, 3) := by decide +kernel
theorem dX8_wordFrom_86 : decode cX8_wordFrom 86 = .ok (.iload 4, 2) := by decide +kernel
theorem dX8_wordFrom_88 : decode cX8_wordFrom 88 = .ok (.iload_n 2, 1) := by decide +kernel
theorem dX8_wordFrom_89 : decode cX8_wordFrom 89 = .ok (.iload_n 1, 1) := by decide +kernel
theorem dX8_wordFrom_90 : decode cX8_wordFrom 90 = .ok (.isub, 1) := by decide +kernel
theorem dX8_wordFrom_91 : decode cX8_wordFrom 91 = .ok (.if_icmp .ne 5, 3) := by decide +kernel
theorem dX8_wordFrom_94 : decode cX8_wordFrom 94 = .ok (.iload_n 3, 1) := by decide +kernel
theorem dX8_wordFrom_95 : decode cX8_wordFrom 95 = .ok (.ireturn, 1) := by decide +kernel
theorem dX8_wordFrom_96 : decode cX8_wordFrom 96 = .ok (.iinc 3 1, 3) := by decide +kernel
theorem dX8_wordFrom_99 : decode cX8_wordFrom 99 = .ok (.iconst 0, 1) := by decide +kernel
theorem dX8_wordFrom_100 : decode cX8_wordFrom 100 = .ok (.istore 4, 2) := by decide +kernel
theorem dX8_wordFrom_102 : decode cX8_wordFrom 102 = .ok (.iinc 5 1, 3) := by decide +kernel
theorem dX8_wordFrom_105 : decode cX8_wordFrom 105 = .ok (.goto (-97), 3) := by decide +kernel
theorem dX8_wordFrom_108 : decode cX8_wordFrom 108 = .ok (.bipush 42, 2) := by decide +kernel
theorem dX8_wordFrom_110 : decode cX8_wordFrom 110 = .ok (.ireturn, 1) := by decide +kernel
theorem dX8_numberFrom_0 : decode cX8_numberFrom 0 = .ok (.iconst 0, 1) := by decide +kernel
theorem dX8_numberFrom_1 : decode cX8_numberFrom 1 = .ok (.istore_n 3, 1) := by decide +kernel
theorem dX8_numberFrom_2 : decode cX8_numberFrom 2 = .ok (.iload_n 1, 1) := by decide +kernel
theorem dX8_numberFrom_3 : decode cX8_numberFrom 3 = .ok (.istore 4, 2) := by decide +kernel
theorem dX8_numberFrom_5 : decode cX8_numberFrom 5 = .ok (.iload 4, 2) := by decide +kernel
theorem dX8_numberFrom_7 : decode cX8_numberFrom 7 = .ok (.iload_n 2, 1) := by decide +kernel
theorem dX8_numberFrom_8 : decode cX8_numberFrom 8 = .ok (.if_icmp .ge 31, 3) := by decide +kernel
theorem dX8_numberFrom_11 : decode cX8_numberFrom 11 = .ok (.sipush 10000, 3) := by decide +kernel
theorem dX8_numberFrom_14 : decode cX8_numberFrom 14 = .ok (.iload_n 3, 1) := by decide +kernel
theorem dX8_numberFrom_15 : decode cX8_numberFrom 15 = .ok (.bipush 10, 2) := by decide +kernel
theorem dX8_numberFrom_17 : decode cX8_numberFrom 17 = .ok (.imul, 1) := by decide +kernel
theorem dX8_numberFrom_18 : decode cX8_numberFrom 18 = .ok (.aload_n 0, 1) := by decide +kernel
theorem dX8_numberFrom_19 : decode cX8_numberFrom 19 = .ok (.getfield 9, 3) := by decide +kernel
theorem dX8_numberFrom_22 : decode cX8_numberFrom 22 = .ok (.iload 4, 2) := by decide +kernel
theorem dX8_numberFrom_24 : decode cX8_numberFrom 24 = .ok (.iaload, 1) := by decide +kernel
theorem dX8_numberFrom_25 : decode cX8_numberFrom 25 = .ok (.iadd, 1) := by decide +kernel
theorem dX8_numberFrom_26 : decode cX8_numberFrom 26 = .ok (.bipush 48, 2) := by decide +kernel
theorem dX8_numberFrom_28 : decode cX8_numberFrom 28 = .ok (.isub, 1) := by decide +kernel
theorem dX8_numberFrom_29 : decode cX8_numberFrom 29 = .ok (.invokestatic 76, 3) := by decide +kernel
theorem dX8_numberFrom_32 : decode cX8_numberFrom 32 = .ok (.istore_n 3, 1) := by decide +kernel
theorem dX8_numberFrom_33 : decode cX8_numberFrom 33 = .ok (.iinc 4 1, 3) := by decide +kernel
theorem dX8_numberFrom_36 : decode cX8_numberFrom 36 = .ok (.goto (-31), 3) := by decide +kernel
theorem dX8_numberFrom_39 : decode cX8_numberFrom 39 = .ok (.iload_n 3, 1) := by decide +kernel
theorem dX8_numberFrom_40 : decode cX8_numberFrom 40 = .ok (.ireturn, 1) := by decide +kernel
theorem dX8_isLetter_0 : decode cX8_isLetter 0 = .ok (.iload_n 0, 1) := by decide +kernel
theorem dX8_isLetter_1 : decode cX8_isLetter 1 = .ok (.bipush 97, 2) := by decide +kernel
theorem dX8_isLetter_3 : decode cX8_isLetter 3 = .ok (.bipush 122, 2) := by decide +kernel
theorem dX8_isLetter_5 : decode cX8_isLetter 5 = .ok (.invokestatic 79, 3) := by decide +kernel
theorem dX8_isLetter_8 : decode cX8_isLetter 8 = .ok (.ifCond .ne 14, 3) := by decide +kernel
theorem dX8_isLetter_11 : decode cX8_isLetter 11 = .ok (.iload_n 0, 1) := by decide +kernel
theorem dX8_isLetter_12 : decode cX8_isLetter 12 = .ok (.bipush 65, 2) := by decide +kernel
theorem dX8_isLetter_14 : decode cX8_isLetter 14 = .ok (.bipush 90, 2) := by decide +kernel
theorem dX8_isLetter_16 : decode cX8_isLetter 16 = .ok (.invokestatic 79, 3) := by decide +kernel
theorem dX8_isLetter_19 : decode cX8_isLetter 19 = .ok (.ifCond .eq 7, 3) := by decide +kernel
theorem dX8_isLetter_22 : decode cX8_isLetter 22 = .ok (.iconst 1, 1) := by decide +kernel
theorem dX8_isLetter_23 : decode cX8_isLetter 23 = .ok (.goto 4, 3) := by decide +kernel
theorem dX8_isLetter_26 : decode cX8_isLetter 26 = .ok (.iconst 0, 1) := by decide +kernel
theorem dX8_isLetter_27 : decode cX8_isLetter 27 = .ok (.ireturn, 1) := by decide +kernel
theorem dX8_isDigit_0 : decode cX8_isDigit 0 = .ok (.iload_n 0, 1) := by decide +kernel
theorem dX8_isDigit_1 : decode cX8_isDigit 1 = .ok (.bipush 48, 2) := by decide +kernel
theorem dX8_isDigit_3 : decode cX8_isDigit 3 = .ok (.bipush 57, 2) := by decide +kernel
theorem dX8_isDigit_5 : decode cX8_isDigit 5 = .ok (.invokestatic 79, 3) := by decide +kernel
theorem dX8_isDigit_8 : decode cX8_isDigit 8 = .ok (.ireturn, 1) := by decide +kernel
theorem dX9_init_0 : decode cX9_init 0 = .ok (.aload_n 0, 1) := by decide +kernel
theorem dX9_init_1 : decode cX9_init 1 = .ok (.invokespecial 3, 3) := by decide +kernel
theorem dX9_init_4 : decode cX9_init 4 = .ok (.aload_n 0, 1) := by decide +kernel
theorem dX9_init_5 : decode cX9_init 5 = .ok (.sipush 300, 3) := by decide +kernel
theorem dX9_init_8 : decode cX9_init 8 = .ok (.newarray .int, 2) := by decide +kernel
theorem dX9_init_10 : decode cX9_init 10 = .ok (.putfield 9, 3) := by decide +kernel
theorem dX9_init_13 : decode cX9_init 13 = .ok (.aload_n 0, 1) := by decide +kernel
theorem dX9_init_14 : decode cX9_init 14 = .ok (.sipush 300, 3) := by decide +kernel
theorem dX9_init_17 : decode cX9_init 17 = .ok (.newarray .int, 2) := by decide +kernel
theorem dX9_init_19 : decode cX9_init 19 = .ok (.putfield 15, 3) := by decide +kernel
theorem dX9_init_22 : decode cX9_init 22 = .ok (.aload_n 0, 1) := by decide +kernel
theorem dX9_init_23 : decode cX9_init 23 = .ok (.iconst 0, 1) := by decide +kernel
theorem dX9_init_24 : decode cX9_init 24 = .ok (.putfield 18, 3) := by decide +kernel
theorem dX9_init_27 : decode cX9_init 27 = .ok (.aload_n 0, 1) := by decide +kernel
theorem dX9_init_28 : decode cX9_init 28 = .ok (.iconst (-1), 1) := by decide +kernel
theorem dX9_init_29 : decode cX9_init 29 = .ok (.putfield 22, 3) := by decide +kernel
theorem dX9_init_32 : decode cX9_init 32 = .ok (.aload_n 0, 1) := by decide +kernel
theorem dX9_init_33 : decode cX9_init 33 = .ok (.iconst (-1), 1) := by decide +kernel
theorem dX9_init_34 : decode cX9_init 34 = .ok (.putfield 25, 3) := by decide +kernel
theorem dX9_init_37 : decode cX9_init 37 = .ok (.aload_n 0, 1) := by decide +kernel
theorem dX9_init_38 : decode cX9_init 38 = .ok (.iconst (-1), 1) := by decide +kernel
theorem dX9_init_39 : decode cX9_init 39 = .ok (.putfield 28, 3) := by decide +kernel
theorem dX9_init_42 : decode cX9_init 42 = .ok (.aload_n 0, 1) := by decide +kernel
theorem dX9_init_43 : decode cX9_init 43 = .ok (.iconst (-1), 1) := by decide +kernel
theorem dX9_init_44 : decode cX9_init 44 = .ok (.putfield 31, 3) := by decide +kernel
theorem dX9_init_47 : decode cX9_init 47 = .ok (.aload_n 0, 1) := by decide +kernel
theorem dX9_init_48 : decode cX9_init 48 = .ok (.bipush 24, 2) := by decide +kernel
theorem dX9_init_50 : decode cX9_init 50 = .ok (.newarray .int, 2) := by decide +kernel
theorem dX9_init_52 : decode cX9_init 52 = .ok (.putfield 34, 3) := by decide +kernel
theorem dX9_init_55 : decode cX9_init 55 = .ok (.aload_n 0, 1) := by decide +kernel
theorem dX9_init_56 : decode cX9_init 56 = .ok (.bipush 96, 2) := by decide +kernel
theorem dX9_init_58 : decode cX9_init 58 = .ok (.newarray .int, 2) := by decide +kernel
theorem dX9_init_60 : decode cX9_init 60 = .ok (.putfield 37, 3) := by decide +kernel
theorem dX9_init_63 : decode cX9_init 63 = .ok (.aload_n 0, 1) := by decide +kernel
theorem dX9_init_64 : decode cX9_init 64 = .ok (.iconst 0, 1) := by decide +kernel
theorem dX9_init_65 : decode cX9_init 65 = .ok (.putfield 40, 3) := by decide +kernel
theorem dX9_init_68 : decode cX9_init 68 = .ok (.return_, 1) := by decide +kernel
theorem dX9_clear_0 : decode cX9_clear 0 = .ok (.aload_n 0, 1) := by decide +kernel
theorem dX9_clear_1 : decode cX9_clear 1 = .ok (.iconst 0, 1) := by decide +kernel
theorem dX9_clear_2 : decode cX9_clear 2 = .ok (.putfield 18, 3) := by decide +kernel
theorem dX9_clear_5 : decode cX9_clear 5 = .ok (.aload_n 0, 1) := by decide +kernel
theorem dX9_clear_6 : decode cX9_clear 6 = .ok (.iconst (-1), 1) := by decide +kernel
theorem dX9_clear_7 : decode cX9_clear 7 = .ok (.putfield 22, 3) := by decide +kernel
theorem dX9_clear_10 : decode cX9_clear 10 = .ok (.aload_n 0, 1) := by decide +kernel
theorem dX9_clear_11 : decode cX9_clear 11 = .ok (.iconst (-1), 1) := by decide +kernel
theorem dX9_clear_12 : decode cX9_clear 12 = .ok (.putfield 25, 3) := by decide +kernel
theorem dX9_clear_15 : decode cX9_clear 15 = .ok (.aload_n 0, 1) := by decide +kernel
theorem dX9_clear_16 : decode cX9_clear 16 = .ok (.iconst (-1), 1) := by decide +kernel
theorem dX9_clear_17 : decode cX9_clear 17 = .ok (.putfield 28, 3) := by decide +kernel
theorem dX9_clear_20 : decode cX9_clear 20 = .ok (.aload_n 0, 1) := by decide +kernel
theorem dX9_clear_21 : decode cX9_clear 21 = .ok (.iconst (-1), 1) := by decide +kernel
theorem dX9_clear_22 : decode cX9_clear 22 = .ok (.putfield 31, 3) := by decide +kernel
theorem dX9_clear_25 : decode cX9_clear 25 = .ok (.aload_n 0, 1) := by decide +kernel
theorem dX9_clear_26 : decode cX9_clear 26 = .ok (.iconst 0, 1) := by decide +kernel
theorem dX9_clear_27 : decode cX9_clear 27 = .ok (.putfield 40, 3) := by decide +kernel
theorem dX9_clear_30 : decode cX9_clear 30 = .ok (.return_, 1) := by decide +kernel
theorem dX9_emit_0 : decode cX9_emit 0 = .ok (.aload_n 0, 1) := by decide +kernel
theorem dX9_emit_1 : decode cX9_emit 1 = .ok (.getfield 18, 3) := by decide +kernel
theorem dX9_emit_4 : decode cX9_emit 4 = .ok (.sipush 300, 3) := by decide +kernel
theorem dX9_emit_7 : decode cX9_emit 7 = .ok (.if_icmp .lt 5, 3) := by decide +kernel
theorem dX9_emit_10 : decode cX9_emit 10 = .ok (.iconst (-1), 1) := by decide +kernel
theorem dX9_emit_11 : decode cX9_emit 11 = .ok (.ireturn, 1) := by decide +kernel
theorem dX9_emit_12 : decode cX9_emit 12 = .ok (.aload_n 0, 1) := by decide +kernel
theorem dX9_emit_13 : decode cX9_emit 13 = .ok (.getfield 9, 3) := by decide +kernel
theorem dX9_emit_16 : decode cX9_emit 16 = .ok (.aload_n 0, 1) := by decide +kernel
theorem dX9_emit_17 : decode cX9_emit 17 = .ok (.getfield 18, 3) := by decide +kernel
theorem dX9_emit_20 : decode cX9_emit 20 = .ok (.iload_n 1, 1) := by decide +kernel
theorem dX9_emit_21 : decode cX9_emit 21 = .ok (.iastore, 1) := by decide +kernel
theorem dX9_emit_22 : decode cX9_emit 22 = .ok (.aload_n 0, 1) := by decide +kernel
theorem dX9_emit_23 : decode cX9_emit 23 = .ok (.getfield 15, 3) := by decide +kernel
theorem dX9_emit_26 : decode cX9_emit 26 = .ok (.aload_n 0, 1) := by decide +kernel
theorem dX9_emit_27 : decode cX9_emit 27 = .ok (.getfield 18, 3) := by decide +kernel
theorem dX9_emit_30 : decode cX9_emit 30 = .ok (.iload_n 2, 1) := by decide +kernel
theorem dX9_emit_31 : decode cX9_emit 31 = .ok (.iastore, 1) := by decide +kernel
theorem dX9_emit_32 : decode cX9_emit 32 = .ok (.aload_n 0, 1) := by decide +kernel
theorem dX9_emit_33 : decode cX9_emit 33 = .ok (.dup, 1) := by decide +kernel
theorem dX9_emit_34 : decode cX9_emit 34 = .ok (.getfield 18, 3) := by decide +kernel
theorem dX9_emit_37 : decode cX9_emit 37 = .ok (.iconst 1, 1) := by decide +kernel
theorem dX9_emit_38 : decode cX9_emit 38 = .ok (.iadd, 1) := by decide +kernel
theorem dX9_emit_39 : decode cX9_emit 39 = .ok (.putfield 18, 3) := by decide +kernel
theorem dX9_emit_42 : decode cX9_emit 42 = .ok (.aload_n 0, 1) := by decide +kernel
theorem dX9_emit_43 : decode cX9_emit 43 = .ok (.getfield 18, 3) := by decide +kernel
theorem dX9_emit_46 : decode cX9_emit 46 = .ok (.iconst 1, 1) := by decide +kernel
theorem dX9_emit_47 : decode cX9_emit 47 = .ok (.isub, 1) := by decide +kernel
theorem dX9_emit_48 : decode cX9_emit 48 = .ok (.ireturn, 1) := by decide +kernel
theorem dX9_setOperand_0 : decode cX9_setOperand 0 = .ok (.iload_n 1, 1) := by decide +kernel
theorem dX9_setOperand_1 : decode cX9_setOperand 1 = .ok (.iconst 0, 1) := by decide +kernel
theorem dX9_setOperand_2 : decode cX9_setOperand 2 = .ok (.aload_n 0, 1) := by decide +kernel
theorem dX9_setOperand_3 : decode cX9_setOperand 3 = .ok (.getfield 18, 3) := by decide +kernel
theorem dX9_setOperand_6 : decode cX9_setOperand 6 = .ok (.iconst 1, 1) := by decide +kernel
theorem dX9_setOperand_7 : decode cX9_setOperand 7 = .ok (.isub, 1) := by decide +kernel
theorem dX9_setOperand_8 : decode cX9_setOperand 8 = .ok (.invokestatic 43, 3) := by decide +kernel
theorem dX9_setOperand_11 : decode cX9_setOperand 11 = .ok (.ifCond .eq 10, 3) := by decide +kernel
theorem dX9_setOperand_14 : decode cX9_setOperand 14 = .ok (.aload_n 0, 1) := by decide +kernel
theorem dX9_setOperand_15 : decode cX9_setOperand 15 = .ok (.getfield 15, 3) := by decide +kernel
theorem dX9_setOperand_18 : decode cX9_setOperand 18 = .ok (.iload_n 1, 1) := by decide +kernel
theorem dX9_setOperand_19 : decode cX9_setOperand 19 = .ok (.iload_n 2, 1) := by decide +kernel
theorem dX9_setOperand_20 : decode cX9_setOperand 20 = .ok (.iastore, 1) := by decide +kernel
theorem dX9_setOperand_21 : decode cX9_setOperand 21 = .ok (.return_, 1) := by decide +kernel
theorem dX9_open_0 : decode cX9_open 0 = .ok (.aload_n 0, 1) := by decide +kernel
theorem dX9_open_1 : decode cX9_open 1 = .ok (.getfield 40, 3) := by decide +kernel
theorem dX9_open_4 : decode cX9_open 4 = .ok (.bipush 24, 2) := by decide +kernel
theorem dX9_open_6 : decode cX9_open 6 = .ok (.if_icmp .ge 23, 3) := by decide +kernel
theorem dX9_open_9 : decode cX9_open 9 = .ok (.aload_n 0, 1) := by decide +kernel
theorem dX9_open_10 : decode cX9_open 10 = .ok (.getfield 34, 3) := by decide +kernel
theorem dX9_open_13 : decode cX9_open 13 = .ok (.aload_n 0, 1) := by decide +kernel
theorem dX9_open_14 : decode cX9_open 14 = .ok (.getfield 40, 3) := by decide +kernel
theorem dX9_open_17 : decode cX9_open 17 = .ok (.iload_n 1, 1) := by decide +kernel
theorem dX9_open_18 : decode cX9_open 18 = .ok (.iastore, 1) := by decide +kernel
theorem dX9_open_19 : decode cX9_open 19 = .ok (.aload_n 0, 1) := by decide +kernel
theorem dX9_open_20 : decode cX9_open 20 = .ok (.dup, 1) := by decide +kernel
theorem dX9_open_21 : decode cX9_open 21 = .ok (.getfield 40, 3) := by decide +kernel
theorem dX9_open_24 : decode cX9_open 24 = .ok (.iconst 1, 1) := by decide +kernel
theorem dX9_open_25 : decode cX9_open 25 = .ok (.iadd, 1) := by decide +kernel
theorem dX9_open_26 : decode cX9_open 26 = .ok (.putfield 40, 3) := by decide +kernel
theorem dX9_open_29 : decode cX9_open 29 = .ok (.return_, 1) := by decide +kernel
theorem dX9_setNumber_0 : decode cX9_setNumber 0 = .ok (.aload_n 0, 1) := by decide +kernel
theorem dX9_setNumber_1 : decode cX9_setNumber 1 = .ok (.getfield 40, 3) := by decide +kernel
theorem dX9_setNumber_4 : decode cX9_setNumber 4 = .ok (.ifCond .le 28, 3) := by decide +kernel
theorem dX9_setNumber_7 : decode cX9_setNumber 7 = .ok (.iload_n 1, 1) := by decide +kernel
theorem dX9_setNumber_8 : decode cX9_setNumber 8 = .ok (.iconst 0, 1) := by decide +kernel
theorem dX9_setNumber_9 : decode cX9_setNumber 9 = .ok (.iconst 3, 1) := by decide +kernel
theorem dX9_setNumber_10 : decode cX9_setNumber 10 = .ok (.invokestatic 43, 3) := by decide +kernel
theorem dX9_setNumber_13 : decode cX9_setNumber 13 = .ok (.ifCond .eq 19, 3) := by decide +kernel
theorem dX9_setNumber_16 : decode cX9_setNumber 16 = .ok (.aload_n 0, 1) := by decide +kernel
theorem dX9_setNumber_17 : decode cX9_setNumber 17 = .ok (.getfield 37, 3) := by decide +kernel
theorem dX9_setNumber_20 : decode cX9_setNumber 20 = .ok (.aload_n 0, 1) := by decide +kernel
theorem dX9_setNumber_21 : decode cX9_setNumber 21 = .ok (.getfield 40, 3) := by decide +kernel
theorem dX9_setNumber_24 : decode cX9_setNumber 24 = .ok (.iconst 1, 1) := by decide +kernel
theorem dX9_setNumber_25 : decode cX9_setNumber 25 = .ok (.isub, 1) := by decide +kernel
theorem dX9_setNumber_26 : decode cX9_setNumber 26 = .ok (.iconst 4, 1) := by decide +kernel
theorem dX9_setNumber_27 : decode cX9_setNumber 27 = .ok (.imul, 1) := by decide +kernel
theorem dX9_setNumber_28 : decode cX9_setNumber 28 = .ok (.iload_n 1, 1) := by decide +kernel
theorem dX9_setNumber_29 : decode cX9_setNumber 29 = .ok (.iadd, 1) := by decide +kernel
theorem dX9_setNumber_30 : decode cX9_setNumber 30 = .ok (.iload_n 2, 1) := by decide +kernel
theorem dX9_setNumber_31 : decode cX9_setNumber 31 = .ok (.iastore, 1) := by decide +kernel
theorem dX9_setNumber_32 : decode cX9_setNumber 32 = .ok (.return_, 1) := by decide +kernel
theorem dX9_kindOf_0 : decode cX9_kindOf 0 = .ok (.iload_n 1, 1) := by decide +kernel
theorem dX9_kindOf_1 : decode cX9_kindOf 1 = .ok (.iconst 0, 1) := by decide +kernel
theorem dX9_kindOf_2 : decode cX9_kindOf 2 = .ok (.aload_n 0, 1) := by decide +kernel
theorem dX9_kindOf_3 : decode cX9_kindOf 3 = .ok (.getfield 40, 3) := by decide +kernel
theorem dX9_kindOf_6 : decode cX9_kindOf 6 = .ok (.iconst 1, 1) := by decide +kernel
theorem dX9_kindOf_7 : decode cX9_kindOf 7 = .ok (.isub, 1) := by decide +kernel
theorem dX9_kindOf_8 : decode cX9_kindOf 8 = .ok (.invokestatic 43, 3) := by decide +kernel
theorem dX9_kindOf_11 : decode cX9_kindOf 11 = .ok (.ifCond .eq 12, 3) := by decide +kernel
theorem dX9_kindOf_14 : decode cX9_kindOf 14 = .ok (.aload_n 0, 1) := by decide +kernel
theorem dX9_kindOf_15 : decode cX9_kindOf 15 = .ok (.getfield 34, 3) := by decide +kernel
theorem dX9_kindOf_18 : decode cX9_kindOf 18 = .ok (.iload_n 1, 1) := by decide +kernel
theorem dX9_kindOf_19 : decode cX9_kindOf 19 = .ok (.iaload, 1) := by decide +kernel
theorem dX9_kindOf_20 : decode cX9_kindOf 20 = .ok (.goto 4, 3) := by decide +kernel
theorem dX9_kindOf_23 : decode cX9_kindOf 23 = .ok (.iconst (-1), 1) := by decide +kernel
theorem dX9_kindOf_24 : decode cX9_kindOf 24 = .ok (.ireturn, 1) := by decide +kernel
theorem dX9_numberOf_0 : decode cX9_numberOf 0 = .ok (.iload_n 1, 1) := by decide +kernel
theorem dX9_numberOf_1 : decode cX9_numberOf 1 = .ok (.iconst 0, 1) := by decide +kernel
theorem dX9_numberOf_2 : decode cX9_numberOf 2 = .ok (.aload_n 0, 1) := by decide +kernel
theorem dX9_numberOf_3 : decode cX9_numberOf 3 = .ok (.getfield 40, 3) := by decide +kernel
theorem dX9_numberOf_6 : decode cX9_numberOf 6 = .ok (.iconst 1, 1) := by decide +kernel
theorem dX9_numberOf_7 : decode cX9_numberOf 7 = .ok (.isub, 1) := by decide +kernel
theorem dX9_numberOf_8 : decode cX9_numberOf 8 = .ok (.invokestatic 43, 3) := by decide +kernel
theorem dX9_numberOf_11 : decode cX9_numberOf 11 = .ok (.ifCond .eq 16, 3) := by decide +kernel
theorem dX9_numberOf_14 : decode cX9_numberOf 14 = .ok (.iload_n 2, 1) := by decide +kernel
theorem dX9_numberOf_15 : decode cX9_numberOf 15 = .ok (.iconst 0, 1) := by decide +kernel
theorem dX9_numberOf_16 : decode cX9_numberOf 16 = .ok (.iconst 3, 1) := by decide +kernel
theorem dX9_numberOf_17 : decode cX9_numberOf 17 = .ok (.invokestatic 43, 3) := by decide +kernel
theorem dX9_numberOf_20 : decode cX9_numberOf 20 = .ok (.ifCond .eq 7, 3) := by decide +kernel
theorem dX9_numberOf_23 : decode cX9_numberOf 23 = .ok (.iconst 1, 1) := by decide +kernel
theorem dX9_numberOf_24 : decode cX9_numberOf 24 = .ok (.goto 4, 3) := by decide +kernel
theorem dX9_numberOf_27 : decode cX9_numberOf 27 = .ok (.iconst 0, 1) := by decide +kernel
theorem dX9_numberOf_28 : decode cX9_numberOf 28 = .ok (.istore_n 3, 1) := by decide +kernel
theorem dX9_numberOf_29 : decode cX9_numberOf 29 = .ok (.iload_n 3, 1) := by decide +kernel
theorem dX9_numberOf_30 : decode cX9_numberOf 30 = .ok (.ifCond .eq 16, 3) := by decide +kernel
theorem dX9_numberOf_33 : decode cX9_numberOf 33 = .ok (.aload_n 0, 1) := by decide +kernel
theorem dX9_numberOf_34 : decode cX9_numberOf 34 = .ok (.getfield 37, 3) := by decide +kernel
theorem dX9_numberOf_37 : decode cX9_numberOf 37 = .ok (.iload_n 1, 1) := by decide +kernel
theorem dX9_numberOf_38 : decode cX9_numberOf 38 = .ok (.iconst 4, 1) := by decide +kernel
theorem dX9_numberOf_39 : decode cX9_numberOf 39 = .ok (.imul, 1) := by decide +kernel
theorem dX9_numberOf_40 : decode cX9_numberOf 40 = .ok (.iload_n 2, 1) := by decide +kernel
theorem dX9_numberOf_41 : decode cX9_numberOf 41 = .ok (.iadd, 1) := by decide +kernel
theorem dX9_numberOf_42 : decode cX9_numberOf 42 = .ok (.iaload, 1) := by decide +kernel
theorem dX9_numberOf_43 : decode cX9_numberOf 43 = .ok (.goto 4, 3) := by decide +kernel
theorem dX9_numberOf_46 : decode cX9_numberOf 46 = .ok (.iconst (-1), 1) := by decide +kernel
theorem dX9_numberOf_47 : decode cX9_numberOf 47 = .ok (.ireturn, 1) := by decide +kernel
theorem dX9_hasLaw_0 : decode cX9_hasLaw 0 = .ok (.iload_n 1, 1) := by decide +kernel
theorem dX9_hasLaw_1 : decode cX9_hasLaw 1 = .ok (.bipush 9, 2) := by decide +kernel
theorem dX9_hasLaw_3 : decode cX9_hasLaw 3 = .ok (.if_icmp .ne 11, 3) := by decide +kernel
theorem dX9_hasLaw_6 : decode cX9_hasLaw 6 = .ok (.aload_n 0, 1) := by decide +kernel
theorem dX9_hasLaw_7 : decode cX9_hasLaw 7 = .ok (.getfield 22, 3) := by decide +kernel
theorem dX9_hasLaw_10 : decode cX9_hasLaw 10 = .ok (.iconst (-1), 1) := by decide +kernel
theorem dX9_hasLaw_11 : decode cX9_hasLaw 11 = .ok (.if_icmp .ne 17, 3) := by decide +kernel
theorem dX9_hasLaw_14 : decode cX9_hasLaw 14 = .ok (.iload_n 1, 1) := by decide +kernel
theorem dX9_hasLaw_15 : decode cX9_hasLaw 15 = .ok (.bipush 10, 2) := by decide +kernel
theorem dX9_hasLaw_17 : decode cX9_hasLaw 17 = .ok (.if_icmp .ne 15, 3) := by decide +kernel
theorem dX9_hasLaw_20 : decode cX9_hasLaw 20 = .ok (.aload_n 0, 1) := by decide +kernel
theorem dX9_hasLaw_21 : decode cX9_hasLaw 21 = .ok (.getfield 28, 3) := by decide +kernel
theorem dX9_hasLaw_24 : decode cX9_hasLaw 24 = .ok (.iconst (-1), 1) := by decide +kernel
theorem dX9_hasLaw_25 : decode cX9_hasLaw 25 = .ok (.if_icmp .eq 7, 3) := by decide +kernel
theorem dX9_hasLaw_28 : decode cX9_hasLaw 28 = .ok (.iconst 1, 1) := by decide +kernel
theorem dX9_hasLaw_29 : decode cX9_hasLaw 29 = .ok (.goto 4, 3) := by decide +kernel
theorem dX9_hasLaw_32 : decode cX9_hasLaw 32 = .ok (.iconst 0, 1) := by decide +kernel
theorem dX9_hasLaw_33 : decode cX9_hasLaw 33 = .ok (.ireturn, 1) := by decide +kernel
theorem dX9_setLaw_0 : decode cX9_setLaw 0 = .ok (.iload_n 1, 1) := by decide +kernel
theorem dX9_setLaw_1 : decode cX9_setLaw 1 = .ok (.bipush 9, 2) := by decide +kernel
theorem dX9_setLaw_3 : decode cX9_setLaw 3 = .ok (.if_icmp .ne 16, 3) := by decide +kernel
theorem dX9_setLaw_6 : decode cX9_setLaw 6 = .ok (.aload_n 0, 1) := by decide +kernel
theorem dX9_setLaw_7 : decode cX9_setLaw 7 = .ok (.iload_n 2, 1) := by decide +kernel
theorem dX9_setLaw_8 : decode cX9_setLaw 8 = .ok (.putfield 22, 3) := by decide +kernel
theorem dX9_setLaw_11 : decode cX9_setLaw 11 = .ok (.aload_n 0, 1) := by decide +kernel
theorem dX9_setLaw_12 : decode cX9_setLaw 12 = .ok (.iload_n 3, 1) := by decide +kernel
theorem dX9_setLaw_13 : decode cX9_setLaw 13 = .ok (.putfield 25, 3) := by decide +kernel
theorem dX9_setLaw_16 : decode cX9_setLaw 16 = .ok (.goto 13, 3) := by decide +kernel
theorem dX9_setLaw_19 : decode cX9_setLaw 19 = .ok (.aload_n 0, 1) := by decide +kernel
theorem dX9_setLaw_20 : decode cX9_setLaw 20 = .ok (.iload_n 2, 1) := by decide +kernel
theorem dX9_setLaw_21 : decode cX9_setLaw 21 = .ok (.putfield 28, 3) := by decide +kernel
theorem dX9_setLaw_24 : decode cX9_setLaw 24 = .ok (.aload_n 0, 1) := by decide +kernel
theorem dX9_setLaw_25 : decode cX9_setLaw 25 = .ok (.iload_n 3, 1) := by decide +kernel
theorem dX9_setLaw_26 : decode cX9_setLaw 26 = .ok (.putfield 31, 3) := by decide +kernel
theorem dX9_setLaw_29 : decode cX9_setLaw 29 = .ok (.return_, 1) := by decide +kernel
theorem dX10_init_0 : decode cX10_init 0 = .ok (.aload_n 0, 1) := by decide +kernel
theorem dX10_init_1 : decode cX10_init 1 = .ok (.invokespecial 3, 3) := by decide +kernel
theorem dX10_init_4 : decode cX10_init 4 = .ok (.aload_n 0, 1) := by decide +kernel
theorem dX10_init_5 : decode cX10_init 5 = .ok (.bipush 16, 2) := by decide +kernel
theorem dX10_init_7 : decode cX10_init 7 = .ok (.newarray .int, 2) := by decide +kernel
theorem dX10_init_9 : decode cX10_init 9 = .ok (.putfield 9, 3) := by decide +kernel
theorem dX10_init_12 : decode cX10_init 12 = .ok (.aload_n 0, 1) := by decide +kernel
theorem dX10_init_13 : decode cX10_init 13 = .ok (.bipush 16, 2) := by decide +kernel
theorem dX10_init_15 : decode cX10_init 15 = .ok (.newarray .int, 2) := by decide +kernel
theorem dX10_init_17 : decode cX10_init 17 = .ok (.putfield 15, 3) := by decide +kernel
theorem dX10_init_20 : decode cX10_init 20 = .ok (.aload_n 0, 1) := by decide +kernel
theorem dX10_init_21 : decode cX10_init 21 = .ok (.bipush 16, 2) := by decide +kernel
theorem dX10_init_23 : decode cX10_init 23 = .ok (.newarray .int, 2) := by decide +kernel
theorem dX10_init_25 : decode cX10_init 25 = .ok (.putfield 18, 3) := by decide +kernel
theorem dX10_init_28 : decode cX10_init 28 = .ok (.aload_n 0, 1) := by decide +kernel
theorem dX10_init_29 : decode cX10_init 29 = .ok (.bipush 16, 2) := by decide +kernel
theorem dX10_init_31 : decode cX10_init 31 = .ok (.newarray .int, 2) := by decide +kernel
theorem dX10_init_33 : decode cX10_init 33 = .ok (.putfield 21, 3) := by decide +kernel
theorem dX10_init_36 : decode cX10_init 36 = .ok (.aload_n 0, 1) := by decide +kernel
theorem dX10_init_37 : decode cX10_init 37 = .ok (.bipush 6, 2) := by decide +kernel
theorem dX10_init_39 : decode cX10_init 39 = .ok (.newarray .int, 2) := by decide +kernel
theorem dX10_init_41 : decode cX10_init 41 = .ok (.putfield 24, 3) := by decide +kernel
theorem dX10_init_44 : decode cX10_init 44 = .ok (.aload_n 0, 1) := by decide +kernel
theorem dX10_init_45 : decode cX10_init 45 = .ok (.bipush 8, 2) := by decide +kernel
theorem dX10_init_47 : decode cX10_init 47 = .ok (.newarray .int, 2) := by decide +kernel
theorem dX10_init_49 : decode cX10_init 49 = .ok (.putfield 27, 3) := by decide +kernel
theorem dX10_init_52 : decode cX10_init 52 = .ok (.aload_n 0, 1) := by decide +kernel
theorem dX10_init_53 : decode cX10_init 53 = .ok (.bipush 8, 2) := by decide +kernel
theorem dX10_init_55 : decode cX10_init 55 = .ok (.newarray .int, 2) := by decide +kernel
theorem dX10_init_57 : decode cX10_init 57 = .ok (.putfield 30, 3) := by decide +kernel
theorem dX10_init_60 : decode cX10_init 60 = .ok (.aload_n 0, 1) := by decide +kernel
theorem dX10_init_61 : decode cX10_init 61 = .ok (.bipush 8, 2) := by decide +kernel
theorem dX10_init_63 : decode cX10_init 63 = .ok (.newarray .int, 2) := by decide +kernel
theorem dX10_init_65 : decode cX10_init 65 = .ok (.putfield 33, 3) := by decide +kernel
theorem dX10_init_68 : decode cX10_init 68 = .ok (.aload_n 0, 1) := by decide +kernel
theorem dX10_init_69 : decode cX10_init 69 = .ok (.iconst 0, 1) := by decide +kernel
theorem dX10_init_70 : decode cX10_init 70 = .ok (.putfield 36, 3) := by decide +kernel
theorem dX10_init_73 : decode cX10_init 73 = .ok (.aload_n 0, 1) := by decide +kernel
theorem dX10_init_74 : decode cX10_init 74 = .ok (.iconst 0, 1) := by decide +kernel
theorem dX10_init_75 : decode cX10_init 75 = .ok (.putfield 40, 3) := by decide +kernel
theorem dX10_init_78 : decode cX10_init 78 = .ok (.aload_n 0, 1) := by decide +kernel
theorem dX10_init_79 : decode cX10_init 79 = .ok (.iconst 0, 1) := by decide +kernel
theorem dX10_init_80 : decode cX10_init 80 = .ok (.putfield 43, 3) := by decide +kernel
theorem dX10_init_83 : decode cX10_init 83 = .ok (.aload_n 0, 1) := by decide +kernel
theorem dX10_init_84 : decode cX10_init 84 = .ok (.iconst 0, 1) := by decide +kernel
theorem dX10_init_85 : decode cX10_init 85 = .ok (.putfield 46, 3) := by decide +kernel
theorem dX10_init_88 : decode cX10_init 88 = .ok (.aload_n 0, 1) := by decide +kernel
theorem dX10_init_89 : decode cX10_init 89 = .ok (.iconst (-1), 1) := by decide +kernel
theorem dX10_init_90 : decode cX10_init 90 = .ok (.putfield 49, 3) := by decide +kernel
theorem dX10_init_93 : decode cX10_init 93 = .ok (.return_, 1) := by decide +kernel
theorem dX10_hasRoad_0 : decode cX10_hasRoad 0 = .ok (.iload_n 1, 1) := by decide +kernel
theorem dX10_hasRoad_1 : decode cX10_hasRoad 1 = .ok (.ifCond .lt 15, 3) := by decide +kernel
theorem dX10_hasRoad_4 : decode cX10_hasRoad 4 = .ok (.iload_n 1, 1) := by decide +kernel
theorem dX10_hasRoad_5 : decode cX10_hasRoad 5 = .ok (.aload_n 0, 1) := by decide +kernel
theorem dX10_hasRoad_6 : decode cX10_hasRoad 6 = .ok (.getfield 36, 3) := by decide +kernel
theorem dX10_hasRoad_9 : decode cX10_hasRoad 9 = .ok (.if_icmp .ge 7, 3) := by decide +kernel
theorem dX10_hasRoad_12 : decode cX10_hasRoad 12 = .ok (.iconst 1, 1) := by decide +kernel
theorem dX10_hasRoad_13 : decode cX10_hasRoad 13 = .ok (.goto 4, 3) := by decide +kernel
theorem dX10_hasRoad_16 : decode cX10_hasRoad 16 = .ok (.iconst 0, 1) := by decide +kernel
theorem dX10_hasRoad_17 : decode cX10_hasRoad 17 = .ok (.ireturn, 1) := by decide +kernel
theorem dX10_hasGoer_0 : decode cX10_hasGoer 0 = .ok (.iload_n 1, 1) := by decide +kernel
theorem dX10_hasGoer_1 : decode cX10_hasGoer 1 = .ok (.ifCond .lt 15, 3) := by decide +kernel
theorem dX10_hasGoer_4 : decode cX10_hasGoer 4 = .ok (.iload_n 1, 1) := by decide +kernel
theorem dX10_hasGoer_5 : decode cX10_hasGoer 5 = .ok (.aload_n 0, 1) := by decide +kernel
theorem dX10_hasGoer_6 : decode cX10_hasGoer 6 = .ok (.getfield 40, 3) := by decide +kernel
theorem dX10_hasGoer_9 : decode cX10_hasGoer 9 = .ok (.if_icmp .ge 7, 3) := by decide +kernel
theorem dX10_hasGoer_12 : decode cX10_hasGoer 12 = .ok (.iconst 1, 1) := by decide +kernel
theorem dX10_hasGoer_13 : decode cX10_hasGoer 13 = .ok (.goto 4, 3) := by decide +kernel
theorem dX10_hasGoer_16 : decode cX10_hasGoer 16 = .ok (.iconst 0, 1) := by decide +kernel
theorem dX10_hasGoer_17 : decode cX10_hasGoer 17 = .ok (.ireturn, 1) := by decide +kernel
theorem dX10_touches_0 : decode cX10_touches 0 = .ok (.aload_n 0, 1) := by decide +kernel
theorem dX10_touches_1 : decode cX10_touches 1 = .ok (.getfield 9, 3) := by decide +kernel
theorem dX10_touches_4 : decode cX10_touches 4 = .ok (.iload_n 1, 1) := by decide +kernel
theorem dX10_touches_5 : decode cX10_touches 5 = .ok (.iaload, 1) := by decide +kernel
theorem dX10_touches_6 : decode cX10_touches 6 = .ok (.iload_n 2, 1) := by decide +kernel
theorem dX10_touches_7 : decode cX10_touches 7 = .ok (.if_icmp .eq 13, 3) := by decide +kernel
theorem dX10_touches_10 : decode cX10_touches 10 = .ok (.aload_n 0, 1) := by decide +kernel
theorem dX10_touches_11 : decode cX10_touches 11 = .ok (.getfield 15, 3) := by decide +kernel
theorem dX10_touches_14 : decode cX10_touches 14 = .ok (.iload_n 1, 1) := by decide +kernel
theorem dX10_touches_15 : decode cX10_touches 15 = .ok (.iaload, 1) := by decide +kernel
theorem dX10_touches_16 : decode cX10_touches 16 = .ok (.iload_n 2, 1) := by decide +kernel
theorem dX10_touches_17 : decode cX10_touches 17 = .ok (.if_icmp .ne 7, 3) := by decide +kernel
theorem dX10_touches_20 : decode cX10_touches 20 = .ok (.iconst 1, 1) := by decide +kernel
theorem dX10_touches_21 : decode cX10_touches 21 = .ok (.goto 4, 3) := by decide +kernel
theorem dX10_touches_24 : decode cX10_touches 24 = .ok (.iconst 0, 1) := by decide +kernel
theorem dX10_touches_25 : decode cX10_touches 25 = .ok (.ireturn, 1) := by decide +kernel
theorem dX10_across_0 : decode cX10_across 0 = .ok (.aload_n 0, 1) := by decide +kernel
theorem dX10_across_1 : decode cX10_across 1 = .ok (.getfield 9, 3) := by decide +kernel
theorem dX10_across_4 : decode cX10_across 4 = .ok (.iload_n 1, 1) := by decide +kernel
theorem dX10_across_5 : decode cX10_across 5 = .ok (.iaload, 1) := by decide +kernel
theorem dX10_across_6 : decode cX10_across 6 = .ok (.iload_n 2, 1) := by decide +kernel
theorem dX10_across_7 : decode cX10_across 7 = .ok (.if_icmp .ne 12, 3) := by decide +kernel
theorem dX10_across_10 : decode cX10_across 10 = .ok (.aload_n 0, 1) := by decide +kernel
theorem dX10_across_11 : decode cX10_across 11 = .ok (.getfield 15, 3) := by decide +kernel
theorem dX10_across_14 : decode cX10_across 14 = .ok (.iload_n 1, 1) := by decide +kernel
theorem dX10_across_15 : decode cX10_across 15 = .ok (.iaload, 1) := by decide +kernel
theorem dX10_across_16 : decode cX10_across 16 = .ok (.goto 9, 3) := by decide +kernel
theorem dX10_across_19 : decode cX10_across 19 = .ok (.aload_n 0, 1) := by decide +kernel
theorem dX10_across_20 : decode cX10_across 20 = .ok (.getfield 9, 3) := by decide +kernel
theorem dX10_across_23 : decode cX10_across 23 = .ok (.iload_n 1, 1) := by decide +kernel
theorem dX10_across_24 : decode cX10_across 24 = .ok (.iaload, 1) := by decide +kernel
theorem dX10_across_25 : decode cX10_across 25 = .ok (.ireturn, 1) := by decide +kernel
theorem dX10_keepSaid_0 : decode cX10_keepSaid 0 = .ok (.aload_n 0, 1) := by decide +kernel
theorem dX10_keepSaid_1 : decode cX10_keepSaid 1 = .ok (.getfield 46, 3) := by decide +kernel
theorem dX10_keepSaid_4 : decode cX10_keepSaid 4 = .ok (.bipush 8, 2) := by decide +kernel
theorem dX10_keepSaid_6 : decode cX10_keepSaid 6 = .ok (.if_icmp .ge 43, 3) := by decide +kernel
theorem dX10_keepSaid_9 : decode cX10_keepSaid 9 = .ok (.aload_n 0, 1) := by decide +kernel
theorem dX10_keepSaid_10 : decode cX10_keepSaid 10 = .ok (.getfield 27, 3) := by decide +kernel
theorem dX10_keepSaid_13 : decode cX10_keepSaid 13 = .ok (.aload_n 0, 1) := by decide +kernel
theorem dX10_keepSaid_14 : decode cX10_keepSaid 14 = .ok (.getfield 46, 3) := by decide +kernel
theorem dX10_keepSaid_17 : decode cX10_keepSaid 17 = .ok (.iload_n 1, 1) := by decide +kernel
theorem dX10_keepSaid_18 : decode cX10_keepSaid 18 = .ok (.iastore, 1) := by decide +kernel
theorem dX10_keepSaid_19 : decode cX10_keepSaid 19 = .ok (.aload_n 0, 1) := by decide +kernel
theorem dX10_keepSaid_20 : decode cX10_keepSaid 20 = .ok (.getfield 30, 3) := by decide +kernel
theorem dX10_keepSaid_23 : decode cX10_keepSaid 23 = .ok (.aload_n 0, 1) := by decide +kernel
theorem dX10_keepSaid_24 : decode cX10_keepSaid 24 = .ok (.getfield 46, 3) := by decide +kernel
theorem dX10_keepSaid_27 : decode cX10_keepSaid 27 = .ok (.iload_n 2, 1) := by decide +kernel
theorem dX10_keepSaid_28 : decode cX10_keepSaid 28 = .ok (.iastore, 1) := by decide +kernel
theorem dX10_keepSaid_29 : decode cX10_keepSaid 29 = .ok (.aload_n 0, 1) := by decide +kernel
theorem dX10_keepSaid_30 : decode cX10_keepSaid 30 = .ok (.getfield 33, 3) := by decide +kernel
theorem dX10_keepSaid_33 : decode cX10_keepSaid 33 = .ok (.aload_n 0, 1) := by decide +kernel
theorem dX10_keepSaid_34 : decode cX10_keepSaid 34 = .ok (.getfield 46, 3) := by decide +kernel
theorem dX10_keepSaid_37 : decode cX10_keepSaid 37 = .ok (.iload_n 3, 1) := by decide +kernel
theorem dX10_keepSaid_38 : decode cX10_keepSaid 38 = .ok (.iastore, 1) := by decide +kernel
theorem dX10_keepSaid_39 : decode cX10_keepSaid 39 = .ok (.aload_n 0, 1) := by decide +kernel
theorem dX10_keepSaid_40 : decode cX10_keepSaid 40 = .ok (.dup, 1) := by decide +kernel
theorem dX10_keepSaid_41 : decode cX10_keepSaid 41 = .ok (.getfield 46, 3) := by decide +kernel
theorem dX10_keepSaid_44 : decode cX10_keepSaid 44 = .ok (.iconst 1, 1) := by decide +kernel
theorem dX10_keepSaid_45 : decode cX10_keepSaid 45 = .ok (.iadd, 1) := by decide +kernel
theorem dX10_keepSaid_46 : decode cX10_keepSaid 46 = .ok (.putfield 46, 3) := by decide +kernel
theorem dX10_keepSaid_49 : decode cX10_keepSaid 49 = .ok (.return_, 1) := by decide +kernel
theorem dX10_copyFrom_0 : decode cX10_copyFrom 0 = .ok (.aload_n 1, 1) := by decide +kernel
theorem dX10_copyFrom_1 : decode cX10_copyFrom 1 = .ok (.getfield 9, 3) := by decide +kernel
theorem dX10_copyFrom_4 : decode cX10_copyFrom 4 = .ok (.iconst 0, 1) := by decide +kernel
theorem dX10_copyFrom_5 : decode cX10_copyFrom 5 = .ok (.aload_n 0, 1) := by decide +kernel
theorem dX10_copyFrom_6 : decode cX10_copyFrom 6 = .ok (.getfield 9, 3) := by decide +kernel
theorem dX10_copyFrom_9 : decode cX10_copyFrom 9 = .ok (.iconst 0, 1) := by decide +kernel
theorem dX10_copyFrom_10 : decode cX10_copyFrom 10 = .ok (.aload_n 0, 1) := by decide +kernel
theorem dX10_copyFrom_11 : decode cX10_copyFrom 11 = .ok (.getfield 9, 3) := by decide +kernel
theorem dX10_copyFrom_14 : decode cX10_copyFrom 14 = .ok (.arraylength, 1) := by decide +kernel
theorem dX10_copyFrom_15 : decode cX10_copyFrom 15 = .ok (.invokestatic 52, 3) := by decide +kernel
theorem dX10_copyFrom_18 : decode cX10_copyFrom 18 = .ok (.aload_n 1, 1) := by decide +kernel
theorem dX10_copyFrom_19 : decode cX10_copyFrom 19 = .ok (.getfield 15, 3) := by decide +kernel
theorem dX10_copyFrom_22 : decode cX10_copyFrom 22 = .ok (.iconst 0, 1) := by decide +kernel
theorem dX10_copyFrom_23 : decode cX10_copyFrom 23 = .ok (.aload_n 0, 1) := by decide +kernel
theorem dX10_copyFrom_24 : decode cX10_copyFrom 24 = .ok (.getfield 15, 3) := by decide +kernel
theorem dX10_copyFrom_27 : decode cX10_copyFrom 27 = .ok (.iconst 0, 1) := by decide +kernel
theorem dX10_copyFrom_28 : decode cX10_copyFrom 28 = .ok (.aload_n 0, 1) := by decide +kernel
theorem dX10_copyFrom_29 : decode cX10_copyFrom 29 = .ok (.getfield 15, 3) := by decide +kernel
theorem dX10_copyFrom_32 : decode cX10_copyFrom 32 = .ok (.arraylength, 1) := by decide +kernel
theorem dX10_copyFrom_33 : decode cX10_copyFrom 33 = .ok (.invokestatic 52, 3) := by decide +kernel
theorem dX10_copyFrom_36 : decode cX10_copyFrom 36 = .ok (.aload_n 1, 1) := by decide +kernel
theorem dX10_copyFrom_37 : decode cX10_copyFrom 37 = .ok (.getfield 18, 3) := by decide +kernel
theorem dX10_copyFrom_40 : decode cX10_copyFrom 40 = .ok (.iconst 0, 1) := by decide +kernel
theorem dX10_copyFrom_41 : decode cX10_copyFrom 41 = .ok (.aload_n 0, 1) := by decide +kernel
theorem dX10_copyFrom_42 : decode cX10_copyFrom 42 = .ok (.getfield 18, 3) := by decide +kernel
theorem dX10_copyFrom_45 : decode cX10_copyFrom 45 = .ok (.iconst 0, 1) := by decide +kernel
theorem dX10_copyFrom_46 : decode cX10_copyFrom 46 = .ok (.aload_n 0, 1) := by decide +kernel
theorem dX10_copyFrom_47 : decode cX10_copyFrom 47 = .ok (.getfield 18, 3) := by decide +kernel
theorem dX10_copyFrom_50 : decode cX10_copyFrom 50 = .ok (.arraylength, 1) := by decide +kernel
theorem dX10_copyFrom_51 : decode cX10_copyFrom 51 = .ok (.invokestatic 52, 3) := by decide +kernel
theorem dX10_copyFrom_54 : decode cX10_copyFrom 54 = .ok (.aload_n 1, 1) := by decide +kernel
theorem dX10_copyFrom_55 : decode cX10_copyFrom 55 = .ok (.getfield 21, 3) := by decide +kernel
theorem dX10_copyFrom_58 : decode cX10_copyFrom 58 = .ok (.iconst 0, 1) := by decide +kernel
theorem dX10_copyFrom_59 : decode cX10_copyFrom 59 = .ok (.aload_n 0, 1) := by decide +kernel
theorem dX10_copyFrom_60 : decode cX10_copyFrom 60 = .ok (.getfield 21, 3) := by decide +kernel
theorem dX10_copyFrom_63 : decode cX10_copyFrom 63 = .ok (.iconst 0, 1) := by decide +kernel
theorem dX10_copyFrom_64 : decode cX10_copyFrom 64 = .ok (.aload_n 0, 1) := by decide +kernel
theorem dX10_copyFrom_65 : decode cX10_copyFrom 65 = .ok (.getfield 21, 3) := by decide +kernel
theorem dX10_copyFrom_68 : decode cX10_copyFrom 68 = .ok (.arraylength, 1) := by decide +kernel
theorem dX10_copyFrom_69 : decode cX10_copyFrom 69 = .ok (.invokestatic 52, 3) := by decide +kernel
theorem dX10_copyFrom_72 : decode cX10_copyFrom 72 = .ok (.aload_n 1, 1) := by decide +kernel
theorem dX10_copyFrom_73 : decode cX10_copyFrom 73 = .ok (.getfield 24, 3) := by decide +kernel
theorem dX10_copyFrom_76 : decode cX10_copyFrom 76 = .ok (.iconst 0, 1) := by decide +kernel
theorem dX10_copyFrom_77 : decode cX10_copyFrom 77 = .ok (.aload_n 0, 1) := by decide +kernel
theorem dX10_copyFrom_78 : decode cX10_copyFrom 78 = .ok (.getfield 24, 3) := by decide +kernel
theorem dX10_copyFrom_81 : decode cX10_copyFrom 81 = .ok (.iconst 0, 1) := by decide +kernel
theorem dX10_copyFrom_82 : decode cX10_copyFrom 82 = .ok (.aload_n 0, 1) := by decide +kernel
theorem dX10_copyFrom_83 : decode cX10_copyFrom 83 = .ok (.getfield 24, 3) := by decide +kernel
theorem dX10_copyFrom_86 : decode cX10_copyFrom 86 = .ok (.arraylength, 1) := by decide +kernel
theorem dX10_copyFrom_87 : decode cX10_copyFrom 87 = .ok (.invokestatic 52, 3) := by decide +kernel
theorem dX10_copyFrom_90 : decode cX10_copyFrom 90 = .ok (.aload_n 1, 1) := by decide +kernel
theorem dX10_copyFrom_91 : decode cX10_copyFrom 91 = .ok (.getfield 27, 3) := by decide +kernel
theorem dX10_copyFrom_94 : decode cX10_copyFrom 94 = .ok (.iconst 0, 1) := by decide +kernel
theorem dX10_copyFrom_95 : decode cX10_copyFrom 95 = .ok (.aload_n 0, 1) := by decide +kernel
theorem dX10_copyFrom_96 : decode cX10_copyFrom 96 = .ok (.getfield 27, 3) := by decide +kernel
theorem dX10_copyFrom_99 : decode cX10_copyFrom 99 = .ok (.iconst 0, 1) := by decide +kernel
theorem dX10_copyFrom_100 : decode cX10_copyFrom 100 = .ok (.aload_n 0, 1) := by decide +kernel
theorem dX10_copyFrom_101 : decode cX10_copyFrom 101 = .ok (.getfield 27, 3) := by decide +kernel
theorem dX10_copyFrom_104 : decode cX10_copyFrom 104 = .ok (.arraylength, 1) := by decide +kernel
theorem dX10_copyFrom_105 : decode cX10_copyFrom 105 = .ok (.invokestatic 52, 3) := by decide +kernel
theorem dX10_copyFrom_108 : decode cX10_copyFrom 108 = .ok (.aload_n 1, 1) := by decide +kernel
theorem dX10_copyFrom_109 : decode cX10_copyFrom 109 = .ok (.getfield 30, 3) := by decide +kernel
theorem dX10_copyFrom_112 : decode cX10_copyFrom 112 = .ok (.iconst 0, 1) := by decide +kernel
theorem dX10_copyFrom_113 : decode cX10_copyFrom 113 = .ok (.aload_n 0, 1) := by decide +kernel
theorem dX10_copyFrom_114 : decode cX10_copyFrom 114 = .ok (.getfield 30, 3) := by decide +kernel
theorem dX10_copyFrom_117 : decode cX10_copyFrom 117 = .ok (.iconst 0, 1) := by decide +kernel
theorem dX10_copyFrom_118 : decode cX10_copyFrom 118 = .ok (.aload_n 0, 1) := by decide +kernel
theorem dX10_copyFrom_119 : decode cX10_copyFrom 119 = .ok (.getfield 30, 3) := by decide +kernel
theorem dX10_copyFrom_122 : decode cX10_copyFrom 122 = .ok (.arraylength, 1) := by decide +kernel
theorem dX10_copyFrom_123 : decode cX10_copyFrom 123 = .ok (.invokestatic 52, 3) := by decide +kernel
theorem dX10_copyFrom_126 : decode cX10_copyFrom 126 = .ok (.aload_n 1, 1) := by decide +kernel
theorem dX10_copyFrom_127 : decode cX10_copyFrom 127 = .ok (.getfield 33, 3) := by decide +kernel
theorem dX10_copyFrom_130 : decode cX10_copyFrom 130 = .ok (.iconst 0, 1) := by decide +kernel
theorem dX10_copyFrom_131 : decode cX10_copyFrom 131 = .ok (.aload_n 0, 1) := by decide +kernel
theorem dX10_copyFrom_132 : decode cX10_copyFrom 132 = .ok (.getfield 33, 3) := by decide +kernel
theorem dX10_copyFrom_135 : decode cX10_copyFrom 135 = .ok (.iconst 0, 1) := by decide +kernel
theorem dX10_copyFrom_136 : decode cX10_copyFrom 136 = .ok (.aload_n 0, 1) := by decide +kernel
theorem dX10_copyFrom_137 : decode cX10_copyFrom 137 = .ok (.getfield 33, 3) := by decide +kernel
theorem dX10_copyFrom_140 : decode cX10_copyFrom 140 = .ok (.arraylength, 1) := by decide +kernel
theorem dX10_copyFrom_141 : decode cX10_copyFrom 141 = .ok (.invokestatic 52, 3) := by decide +kernel
theorem dX10_copyFrom_144 : decode cX10_copyFrom 144 = .ok (.aload_n 0, 1) := by decide +kernel
theorem dX10_copyFrom_145 : decode cX10_copyFrom 145 = .ok (.aload_n 1, 1) := by decide +kernel
theorem dX10_copyFrom_146 : decode cX10_copyFrom 146 = .ok (.getfield 36, 3) := by decide +kernel
theorem dX10_copyFrom_149 : decode cX10_copyFrom 149 = .ok (.putfield 36, 3) := by decide +kernel
theorem dX10_copyFrom_152 : decode cX10_copyFrom 152 = .ok (.aload_n 0, 1) := by decide +kernel
theorem dX10_copyFrom_153 : decode cX10_copyFrom 153 = .ok (.aload_n 1, 1) := by decide +kernel
theorem dX10_copyFrom_154 : decode cX10_copyFrom 154 = .ok (.getfield 40, 3) := by decide +kernel
theorem dX10_copyFrom_157 : decode cX10_copyFrom 157 = .ok (.putfield 40, 3) := by decide +kernel
theorem dX10_copyFrom_160 : decode cX10_copyFrom 160 = .ok (.aload_n 0, 1) := by decide +kernel
theorem dX10_copyFrom_161 : decode cX10_copyFrom 161 = .ok (.aload_n 1, 1) := by decide +kernel
theorem dX10_copyFrom_162 : decode cX10_copyFrom 162 = .ok (.getfield 43, 3) := by decide +kernel
theorem dX10_copyFrom_165 : decode cX10_copyFrom 165 = .ok (.putfield 43, 3) := by decide +kernel
theorem dX10_copyFrom_168 : decode cX10_copyFrom 168 = .ok (.aload_n 0, 1) := by decide +kernel
theorem dX10_copyFrom_169 : decode cX10_copyFrom 169 = .ok (.aload_n 1, 1) := by decide +kernel
theorem dX10_copyFrom_170 : decode cX10_copyFrom 170 = .ok (.getfield 46, 3) := by decide +kernel
theorem dX10_copyFrom_173 : decode cX10_copyFrom 173 = .ok (.putfield 46, 3) := by decide +kernel
theorem dX10_copyFrom_176 : decode cX10_copyFrom 176 = .ok (.aload_n 0, 1) := by decide +kernel
theorem dX10_copyFrom_177 : decode cX10_copyFrom 177 = .ok (.aload_n 1, 1) := by decide +kernel
theorem dX10_copyFrom_178 : decode cX10_copyFrom 178 = .ok (.getfield 49, 3) := by decide +kernel
theorem dX10_copyFrom_181 : decode cX10_copyFrom 181 = .ok (.putfield 49, 3) := by decide +kernel
theorem dX10_copyFrom_184 : decode cX10_copyFrom 184 = .ok (.return_, 1) := by decide +kernel
