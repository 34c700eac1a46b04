theorem dX12_year_62 : decode cX12_year 62 = .ok (.iload_n 2, 1) := by decide +kernel
theorem dX12_year_63 : decode cX12_year 63 = .ok (.if_icmp .ge 13, 3) := by decide +kernel
theorem dX12_year_66 : decode cX12_year 66 = .ok (.aload_n 0, 1) := by decide +kernel
theorem dX12_year_67 : decode cX12_year 67 = .ok (.invokevirtual 307, 3) := by decide +kernel
theorem dX12_year_70 : decode cX12_year 70 = .ok (.iinc 3 1, 3) := by decide +kernel
theorem dX12_year_73 : decode cX12_year 73 = .ok (.goto (-12), 3) := by decide +kernel
theorem dX12_year_76 : decode cX12_year 76 = .ok (.aload_n 0, 1) := by decide +kernel
theorem dX12_year_77 : decode cX12_year 77 = .ok (.invokevirtual 263, 3) := by decide +kernel
theorem dX12_year_80 : decode cX12_year 80 = .ok (.aload_n 0, 1) := by decide +kernel
theorem dX12_year_81 : decode cX12_year 81 = .ok (.iconst 0, 1) := by decide +kernel
theorem dX12_year_82 : decode cX12_year 82 = .ok (.aload_n 0, 1) := by decide +kernel
theorem dX12_year_83 : decode cX12_year 83 = .ok (.getfield 13, 3) := by decide +kernel
theorem dX12_year_86 : decode cX12_year 86 = .ok (.iconst 4, 1) := by decide +kernel
theorem dX12_year_87 : decode cX12_year 87 = .ok (.iaload, 1) := by decide +kernel
theorem dX12_year_88 : decode cX12_year 88 = .ok (.invokevirtual 294, 3) := by decide +kernel
theorem dX12_year_91 : decode cX12_year 91 = .ok (.ireturn, 1) := by decide +kernel
theorem dX12_everyone_0 : decode cX12_everyone 0 = .ok (.aload_n 0, 1) := by decide +kernel
theorem dX12_everyone_1 : decode cX12_everyone 1 = .ok (.iconst 0, 1) := by decide +kernel
theorem dX12_everyone_2 : decode cX12_everyone 2 = .ok (.putfield 1, 3) := by decide +kernel
theorem dX12_everyone_5 : decode cX12_everyone 5 = .ok (.aload_n 0, 1) := by decide +kernel
theorem dX12_everyone_6 : decode cX12_everyone 6 = .ok (.iload_n 1, 1) := by decide +kernel
theorem dX12_everyone_7 : decode cX12_everyone 7 = .ok (.i2l, 1) := by decide +kernel
theorem dX12_everyone_8 : decode cX12_everyone 8 = .ok (.invokevirtual 241, 3) := by decide +kernel
theorem dX12_everyone_11 : decode cX12_everyone 11 = .ok (.ifCond .ne 6, 3) := by decide +kernel
theorem dX12_everyone_14 : decode cX12_everyone 14 = .ok (.bipush (-2), 2) := by decide +kernel
theorem dX12_everyone_16 : decode cX12_everyone 16 = .ok (.ireturn, 1) := by decide +kernel
theorem dX12_everyone_17 : decode cX12_everyone 17 = .ok (.aload_n 0, 1) := by decide +kernel
theorem dX12_everyone_18 : decode cX12_everyone 18 = .ok (.getfield 13, 3) := by decide +kernel
theorem dX12_everyone_21 : decode cX12_everyone 21 = .ok (.iconst 1, 1) := by decide +kernel
theorem dX12_everyone_22 : decode cX12_everyone 22 = .ok (.iaload, 1) := by decide +kernel
theorem dX12_everyone_23 : decode cX12_everyone 23 = .ok (.ifCond .ne 6, 3) := by decide +kernel
theorem dX12_everyone_26 : decode cX12_everyone 26 = .ok (.bipush (-5), 2) := by decide +kernel
theorem dX12_everyone_28 : decode cX12_everyone 28 = .ok (.ireturn, 1) := by decide +kernel
theorem dX12_everyone_29 : decode cX12_everyone 29 = .ok (.iconst 0, 1) := by decide +kernel
theorem dX12_everyone_30 : decode cX12_everyone 30 = .ok (.istore_n 2, 1) := by decide +kernel
theorem dX12_everyone_31 : decode cX12_everyone 31 = .ok (.iload_n 2, 1) := by decide +kernel
theorem dX12_everyone_32 : decode cX12_everyone 32 = .ok (.aload_n 0, 1) := by decide +kernel
theorem dX12_everyone_33 : decode cX12_everyone 33 = .ok (.getfield 13, 3) := by decide +kernel
theorem dX12_everyone_36 : decode cX12_everyone 36 = .ok (.iconst 3, 1) := by decide +kernel
theorem dX12_everyone_37 : decode cX12_everyone 37 = .ok (.iaload, 1) := by decide +kernel
theorem dX12_everyone_38 : decode cX12_everyone 38 = .ok (.if_icmp .ge 20, 3) := by decide +kernel
theorem dX12_everyone_41 : decode cX12_everyone 41 = .ok (.aload_n 0, 1) := by decide +kernel
theorem dX12_everyone_42 : decode cX12_everyone 42 = .ok (.iload_n 2, 1) := by decide +kernel
theorem dX12_everyone_43 : decode cX12_everyone 43 = .ok (.iload_n 1, 1) := by decide +kernel
theorem dX12_everyone_44 : decode cX12_everyone 44 = .ok (.invokevirtual 257, 3) := by decide +kernel
theorem dX12_everyone_47 : decode cX12_everyone 47 = .ok (.ifCond .ne 5, 3) := by decide +kernel
theorem dX12_everyone_50 : decode cX12_everyone 50 = .ok (.iconst 0, 1) := by decide +kernel
theorem dX12_everyone_51 : decode cX12_everyone 51 = .ok (.ireturn, 1) := by decide +kernel
theorem dX12_everyone_52 : decode cX12_everyone 52 = .ok (.iinc 2 1, 3) := by decide +kernel
theorem dX12_everyone_55 : decode cX12_everyone 55 = .ok (.goto (-24), 3) := by decide +kernel
theorem dX12_everyone_58 : decode cX12_everyone 58 = .ok (.iconst 1, 1) := by decide +kernel
theorem dX12_everyone_59 : decode cX12_everyone 59 = .ok (.ireturn, 1) := by decide +kernel
theorem dX12_knownBy_0 : decode cX12_knownBy 0 = .ok (.iconst 0, 1) := by decide +kernel
theorem dX12_knownBy_1 : decode cX12_knownBy 1 = .ok (.istore_n 2, 1) := by decide +kernel
theorem dX12_knownBy_2 : decode cX12_knownBy 2 = .ok (.iconst 0, 1) := by decide +kernel
theorem dX12_knownBy_3 : decode cX12_knownBy 3 = .ok (.istore_n 3, 1) := by decide +kernel
theorem dX12_knownBy_4 : decode cX12_knownBy 4 = .ok (.iload_n 3, 1) := by decide +kernel
theorem dX12_knownBy_5 : decode cX12_knownBy 5 = .ok (.aload_n 0, 1) := by decide +kernel
theorem dX12_knownBy_6 : decode cX12_knownBy 6 = .ok (.getfield 13, 3) := by decide +kernel
theorem dX12_knownBy_9 : decode cX12_knownBy 9 = .ok (.iconst 1, 1) := by decide +kernel
theorem dX12_knownBy_10 : decode cX12_knownBy 10 = .ok (.iaload, 1) := by decide +kernel
theorem dX12_knownBy_11 : decode cX12_knownBy 11 = .ok (.if_icmp .ge 85, 3) := by decide +kernel
theorem dX12_knownBy_14 : decode cX12_knownBy 14 = .ok (.iload_n 1, 1) := by decide +kernel
theorem dX12_knownBy_15 : decode cX12_knownBy 15 = .ok (.i2l, 1) := by decide +kernel
theorem dX12_knownBy_16 : decode cX12_knownBy 16 = .ok (.iload_n 3, 1) := by decide +kernel
theorem dX12_knownBy_17 : decode cX12_knownBy 17 = .ok (.invokestatic 222, 3) := by decide +kernel
theorem dX12_knownBy_20 : decode cX12_knownBy 20 = .ok (.istore 4, 2) := by decide +kernel
theorem dX12_knownBy_22 : decode cX12_knownBy 22 = .ok (.iconst 0, 1) := by decide +kernel
theorem dX12_knownBy_23 : decode cX12_knownBy 23 = .ok (.istore 5, 2) := by decide +kernel
theorem dX12_knownBy_25 : decode cX12_knownBy 25 = .ok (.iload 5, 2) := by decide +kernel
theorem dX12_knownBy_27 : decode cX12_knownBy 27 = .ok (.aload_n 0, 1) := by decide +kernel
theorem dX12_knownBy_28 : decode cX12_knownBy 28 = .ok (.getfield 13, 3) := by decide +kernel
theorem dX12_knownBy_31 : decode cX12_knownBy 31 = .ok (.iconst 3, 1) := by decide +kernel
theorem dX12_knownBy_32 : decode cX12_knownBy 32 = .ok (.iaload, 1) := by decide +kernel
theorem dX12_knownBy_33 : decode cX12_knownBy 33 = .ok (.if_icmp .ge 42, 3) := by decide +kernel
theorem dX12_knownBy_36 : decode cX12_knownBy 36 = .ok (.iload 4, 2) := by decide +kernel
theorem dX12_knownBy_38 : decode cX12_knownBy 38 = .ok (.ifCond .eq 37, 3) := by decide +kernel
theorem dX12_knownBy_41 : decode cX12_knownBy 41 = .ok (.aload_n 0, 1) := by decide +kernel
theorem dX12_knownBy_42 : decode cX12_knownBy 42 = .ok (.aload_n 0, 1) := by decide +kernel
theorem dX12_knownBy_43 : decode cX12_knownBy 43 = .ok (.getfield 13, 3) := by decide +kernel
theorem dX12_knownBy_46 : decode cX12_knownBy 46 = .ok (.iconst 5, 1) := by decide +kernel
theorem dX12_knownBy_47 : decode cX12_knownBy 47 = .ok (.iload 5, 2) := by decide +kernel
theorem dX12_knownBy_49 : decode cX12_knownBy 49 = .ok (.iadd, 1) := by decide +kernel
theorem dX12_knownBy_50 : decode cX12_knownBy 50 = .ok (.iaload, 1) := by decide +kernel
theorem dX12_knownBy_51 : decode cX12_knownBy 51 = .ok (.iload_n 3, 1) := by decide +kernel
theorem dX12_knownBy_52 : decode cX12_knownBy 52 = .ok (.invokevirtual 232, 3) := by decide +kernel
theorem dX12_knownBy_55 : decode cX12_knownBy 55 = .ok (.iload_n 1, 1) := by decide +kernel
theorem dX12_knownBy_56 : decode cX12_knownBy 56 = .ok (.iconst (-1), 1) := by decide +kernel
theorem dX12_knownBy_57 : decode cX12_knownBy 57 = .ok (.ixor, 1) := by decide +kernel
theorem dX12_knownBy_58 : decode cX12_knownBy 58 = .ok (.iand, 1) := by decide +kernel
theorem dX12_knownBy_59 : decode cX12_knownBy 59 = .ok (.ifCond .ne 7, 3) := by decide +kernel
theorem dX12_knownBy_62 : decode cX12_knownBy 62 = .ok (.iconst 1, 1) := by decide +kernel
theorem dX12_knownBy_63 : decode cX12_knownBy 63 = .ok (.goto 4, 3) := by decide +kernel
theorem dX12_knownBy_66 : decode cX12_knownBy 66 = .ok (.iconst 0, 1) := by decide +kernel
theorem dX12_knownBy_67 : decode cX12_knownBy 67 = .ok (.istore 4, 2) := by decide +kernel
theorem dX12_knownBy_69 : decode cX12_knownBy 69 = .ok (.iinc 5 1, 3) := by decide +kernel
theorem dX12_knownBy_72 : decode cX12_knownBy 72 = .ok (.goto (-47), 3) := by decide +kernel
theorem dX12_knownBy_75 : decode cX12_knownBy 75 = .ok (.iload_n 2, 1) := by decide +kernel
theorem dX12_knownBy_76 : decode cX12_knownBy 76 = .ok (.iload 4, 2) := by decide +kernel
theorem dX12_knownBy_78 : decode cX12_knownBy 78 = .ok (.ifCond .eq 9, 3) := by decide +kernel
theorem dX12_knownBy_81 : decode cX12_knownBy 81 = .ok (.iconst 1, 1) := by decide +kernel
theorem dX12_knownBy_82 : decode cX12_knownBy 82 = .ok (.iload_n 3, 1) := by decide +kernel
theorem dX12_knownBy_83 : decode cX12_knownBy 83 = .ok (.ishl, 1) := by decide +kernel
theorem dX12_knownBy_84 : decode cX12_knownBy 84 = .ok (.goto 4, 3) := by decide +kernel
theorem dX12_knownBy_87 : decode cX12_knownBy 87 = .ok (.iconst 0, 1) := by decide +kernel
theorem dX12_knownBy_88 : decode cX12_knownBy 88 = .ok (.ior, 1) := by decide +kernel
theorem dX12_knownBy_89 : decode cX12_knownBy 89 = .ok (.istore_n 2, 1) := by decide +kernel
theorem dX12_knownBy_90 : decode cX12_knownBy 90 = .ok (.iinc 3 1, 3) := by decide +kernel
theorem dX12_knownBy_93 : decode cX12_knownBy 93 = .ok (.goto (-89), 3) := by decide +kernel
theorem dX12_knownBy_96 : decode cX12_knownBy 96 = .ok (.iload_n 2, 1) := by decide +kernel
theorem dX12_knownBy_97 : decode cX12_knownBy 97 = .ok (.ireturn, 1) := by decide +kernel
theorem dX12_depthOf_0 : decode cX12_depthOf 0 = .ok (.aload_n 0, 1) := by decide +kernel
theorem dX12_depthOf_1 : decode cX12_depthOf 1 = .ok (.getfield 13, 3) := by decide +kernel
theorem dX12_depthOf_4 : decode cX12_depthOf 4 = .ok (.bipush 105, 2) := by decide +kernel
theorem dX12_depthOf_6 : decode cX12_depthOf 6 = .ok (.iload_n 1, 1) := by decide +kernel
theorem dX12_depthOf_7 : decode cX12_depthOf 7 = .ok (.iadd, 1) := by decide +kernel
theorem dX12_depthOf_8 : decode cX12_depthOf 8 = .ok (.iaload, 1) := by decide +kernel
theorem dX12_depthOf_9 : decode cX12_depthOf 9 = .ok (.i2l, 1) := by decide +kernel
theorem dX12_depthOf_10 : decode cX12_depthOf 10 = .ok (.aload_n 0, 1) := by decide +kernel
theorem dX12_depthOf_11 : decode cX12_depthOf 11 = .ok (.getfield 13, 3) := by decide +kernel
theorem dX12_depthOf_14 : decode cX12_depthOf 14 = .ok (.iconst 4, 1) := by decide +kernel
theorem dX12_depthOf_15 : decode cX12_depthOf 15 = .ok (.iaload, 1) := by decide +kernel
theorem dX12_depthOf_16 : decode cX12_depthOf 16 = .ok (.invokestatic 222, 3) := by decide +kernel
theorem dX12_depthOf_19 : decode cX12_depthOf 19 = .ok (.ifCond .eq 15, 3) := by decide +kernel
theorem dX12_depthOf_22 : decode cX12_depthOf 22 = .ok (.aload_n 0, 1) := by decide +kernel
theorem dX12_depthOf_23 : decode cX12_depthOf 23 = .ok (.getfield 13, 3) := by decide +kernel
theorem dX12_depthOf_26 : decode cX12_depthOf 26 = .ok (.bipush 105, 2) := by decide +kernel
theorem dX12_depthOf_28 : decode cX12_depthOf 28 = .ok (.iload_n 1, 1) := by decide +kernel
theorem dX12_depthOf_29 : decode cX12_depthOf 29 = .ok (.iadd, 1) := by decide +kernel
theorem dX12_depthOf_30 : decode cX12_depthOf 30 = .ok (.iaload, 1) := by decide +kernel
theorem dX12_depthOf_31 : decode cX12_depthOf 31 = .ok (.goto 19, 3) := by decide +kernel
theorem dX12_depthOf_34 : decode cX12_depthOf 34 = .ok (.aload_n 0, 1) := by decide +kernel
theorem dX12_depthOf_35 : decode cX12_depthOf 35 = .ok (.invokevirtual 226, 3) := by decide +kernel
theorem dX12_depthOf_38 : decode cX12_depthOf 38 = .ok (.aload_n 0, 1) := by decide +kernel
theorem dX12_depthOf_39 : decode cX12_depthOf 39 = .ok (.getfield 13, 3) := by decide +kernel
theorem dX12_depthOf_42 : decode cX12_depthOf 42 = .ok (.bipush 105, 2) := by decide +kernel
theorem dX12_depthOf_44 : decode cX12_depthOf 44 = .ok (.iload_n 1, 1) := by decide +kernel
theorem dX12_depthOf_45 : decode cX12_depthOf 45 = .ok (.iadd, 1) := by decide +kernel
theorem dX12_depthOf_46 : decode cX12_depthOf 46 = .ok (.iaload, 1) := by decide +kernel
theorem dX12_depthOf_47 : decode cX12_depthOf 47 = .ok (.iconst (-1), 1) := by decide +kernel
theorem dX12_depthOf_48 : decode cX12_depthOf 48 = .ok (.ixor, 1) := by decide +kernel
theorem dX12_depthOf_49 : decode cX12_depthOf 49 = .ok (.iand, 1) := by decide +kernel
theorem dX12_depthOf_50 : decode cX12_depthOf 50 = .ok (.istore_n 2, 1) := by decide +kernel
theorem dX12_depthOf_51 : decode cX12_depthOf 51 = .ok (.iconst 0, 1) := by decide +kernel
theorem dX12_depthOf_52 : decode cX12_depthOf 52 = .ok (.istore_n 3, 1) := by decide +kernel
theorem dX12_depthOf_53 : decode cX12_depthOf 53 = .ok (.aload_n 0, 1) := by decide +kernel
theorem dX12_depthOf_54 : decode cX12_depthOf 54 = .ok (.iload_n 2, 1) := by decide +kernel
theorem dX12_depthOf_55 : decode cX12_depthOf 55 = .ok (.invokevirtual 310, 3) := by decide +kernel
theorem dX12_depthOf_58 : decode cX12_depthOf 58 = .ok (.istore 4, 2) := by decide +kernel
theorem dX12_depthOf_60 : decode cX12_depthOf 60 = .ok (.iload 4, 2) := by decide +kernel
theorem dX12_depthOf_62 : decode cX12_depthOf 62 = .ok (.i2l, 1) := by decide +kernel
theorem dX12_depthOf_63 : decode cX12_depthOf 63 = .ok (.aload_n 0, 1) := by decide +kernel
theorem dX12_depthOf_64 : decode cX12_depthOf 64 = .ok (.getfield 13, 3) := by decide +kernel
theorem dX12_depthOf_67 : decode cX12_depthOf 67 = .ok (.iconst 4, 1) := by decide +kernel
theorem dX12_depthOf_68 : decode cX12_depthOf 68 = .ok (.iaload, 1) := by decide +kernel
theorem dX12_depthOf_69 : decode cX12_depthOf 69 = .ok (.invokestatic 222, 3) := by decide +kernel
theorem dX12_depthOf_72 : decode cX12_depthOf 72 = .ok (.ifCond .ne 5, 3) := by decide +kernel
theorem dX12_depthOf_75 : decode cX12_depthOf 75 = .ok (.iload_n 3, 1) := by decide +kernel
theorem dX12_depthOf_76 : decode cX12_depthOf 76 = .ok (.ireturn, 1) := by decide +kernel
theorem dX12_depthOf_77 : decode cX12_depthOf 77 = .ok (.iload 4, 2) := by decide +kernel
theorem dX12_depthOf_79 : decode cX12_depthOf 79 = .ok (.iload_n 2, 1) := by decide +kernel
theorem dX12_depthOf_80 : decode cX12_depthOf 80 = .ok (.if_icmp .ne 6, 3) := by decide +kernel
theorem dX12_depthOf_83 : decode cX12_depthOf 83 = .ok (.bipush 100, 2) := by decide +kernel
theorem dX12_depthOf_85 : decode cX12_depthOf 85 = .ok (.ireturn, 1) := by decide +kernel
theorem dX12_depthOf_86 : decode cX12_depthOf 86 = .ok (.iload 4, 2) := by decide +kernel
theorem dX12_depthOf_88 : decode cX12_depthOf 88 = .ok (.istore_n 2, 1) := by decide +kernel
theorem dX12_depthOf_89 : decode cX12_depthOf 89 = .ok (.iinc 3 1, 3) := by decide +kernel
theorem dX12_depthOf_92 : decode cX12_depthOf 92 = .ok (.goto (-39), 3) := by decide +kernel
theorem dX12_depth_0 : decode cX12_depth 0 = .ok (.aload_n 0, 1) := by decide +kernel
theorem dX12_depth_1 : decode cX12_depth 1 = .ok (.iconst 0, 1) := by decide +kernel
theorem dX12_depth_2 : decode cX12_depth 2 = .ok (.putfield 1, 3) := by decide +kernel
theorem dX12_depth_5 : decode cX12_depth 5 = .ok (.aload_n 0, 1) := by decide +kernel
theorem dX12_depth_6 : decode cX12_depth 6 = .ok (.iload_n 1, 1) := by decide +kernel
theorem dX12_depth_7 : decode cX12_depth 7 = .ok (.i2l, 1) := by decide +kernel
theorem dX12_depth_8 : decode cX12_depth 8 = .ok (.invokevirtual 241, 3) := by decide +kernel
theorem dX12_depth_11 : decode cX12_depth 11 = .ok (.ifCond .ne 6, 3) := by decide +kernel
theorem dX12_depth_14 : decode cX12_depth 14 = .ok (.bipush (-2), 2) := by decide +kernel
theorem dX12_depth_16 : decode cX12_depth 16 = .ok (.ireturn, 1) := by decide +kernel
theorem dX12_depth_17 : decode cX12_depth 17 = .ok (.aload_n 0, 1) := by decide +kernel
theorem dX12_depth_18 : decode cX12_depth 18 = .ok (.getfield 13, 3) := by decide +kernel
theorem dX12_depth_21 : decode cX12_depth 21 = .ok (.iconst 1, 1) := by decide +kernel
theorem dX12_depth_22 : decode cX12_depth 22 = .ok (.iaload, 1) := by decide +kernel
theorem dX12_depth_23 : decode cX12_depth 23 = .ok (.ifCond .ne 8, 3) := by decide +kernel
theorem dX12_depth_26 : decode cX12_depth 26 = .ok (.bipush (-5), 2) := by decide +kernel
theorem dX12_depth_28 : decode cX12_depth 28 = .ok (.goto 8, 3) := by decide +kernel
theorem dX12_depth_31 : decode cX12_depth 31 = .ok (.aload_n 0, 1) := by decide +kernel
theorem dX12_depth_32 : decode cX12_depth 32 = .ok (.iload_n 1, 1) := by decide +kernel
theorem dX12_depth_33 : decode cX12_depth 33 = .ok (.invokevirtual 313, 3) := by decide +kernel
theorem dX12_depth_36 : decode cX12_depth 36 = .ok (.ireturn, 1) := by decide +kernel
theorem dX12_common_0 : decode cX12_common 0 = .ok (.aload_n 0, 1) := by decide +kernel
theorem dX12_common_1 : decode cX12_common 1 = .ok (.iconst 0, 1) := by decide +kernel
theorem dX12_common_2 : decode cX12_common 2 = .ok (.putfield 1, 3) := by decide +kernel
theorem dX12_common_5 : decode cX12_common 5 = .ok (.aload_n 0, 1) := by decide +kernel
theorem dX12_common_6 : decode cX12_common 6 = .ok (.getfield 13, 3) := by decide +kernel
theorem dX12_common_9 : decode cX12_common 9 = .ok (.iconst 1, 1) := by decide +kernel
theorem dX12_common_10 : decode cX12_common 10 = .ok (.iaload, 1) := by decide +kernel
theorem dX12_common_11 : decode cX12_common 11 = .ok (.ifCond .ne 6, 3) := by decide +kernel
theorem dX12_common_14 : decode cX12_common 14 = .ok (.bipush (-5), 2) := by decide +kernel
theorem dX12_common_16 : decode cX12_common 16 = .ok (.ireturn, 1) := by decide +kernel
theorem dX12_common_17 : decode cX12_common 17 = .ok (.iconst 0, 1) := by decide +kernel
theorem dX12_common_18 : decode cX12_common 18 = .ok (.istore_n 1, 1) := by decide +kernel
theorem dX12_common_19 : decode cX12_common 19 = .ok (.iconst 0, 1) := by decide +kernel
theorem dX12_common_20 : decode cX12_common 20 = .ok (.istore_n 2, 1) := by decide +kernel
theorem dX12_common_21 : decode cX12_common 21 = .ok (.iload_n 2, 1) := by decide +kernel
theorem dX12_common_22 : decode cX12_common 22 = .ok (.aload_n 0, 1) := by decide +kernel
theorem dX12_common_23 : decode cX12_common 23 = .ok (.getfield 13, 3) := by decide +kernel
theorem dX12_common_26 : decode cX12_common 26 = .ok (.iconst 2, 1) := by decide +kernel
theorem dX12_common_27 : decode cX12_common 27 = .ok (.iaload, 1) := by decide +kernel
theorem dX12_common_28 : decode cX12_common 28 = .ok (.if_icmp .ge 29, 3) := by decide +kernel
theorem dX12_common_31 : decode cX12_common 31 = .ok (.iload_n 1, 1) := by decide +kernel
theorem dX12_common_32 : decode cX12_common 32 = .ok (.aload_n 0, 1) := by decide +kernel
theorem dX12_common_33 : decode cX12_common 33 = .ok (.iload_n 2, 1) := by decide +kernel
theorem dX12_common_34 : decode cX12_common 34 = .ok (.invokevirtual 313, 3) := by decide +kernel
theorem dX12_common_37 : decode cX12_common 37 = .ok (.bipush 100, 2) := by decide +kernel
theorem dX12_common_39 : decode cX12_common 39 = .ok (.if_icmp .ne 9, 3) := by decide +kernel
theorem dX12_common_42 : decode cX12_common 42 = .ok (.iconst 1, 1) := by decide +kernel
theorem dX12_common_43 : decode cX12_common 43 = .ok (.iload_n 2, 1) := by decide +kernel
theorem dX12_common_44 : decode cX12_common 44 = .ok (.ishl, 1) := by decide +kernel
theorem dX12_common_45 : decode cX12_common 45 = .ok (.goto 4, 3) := by decide +kernel
theorem dX12_common_48 : decode cX12_common 48 = .ok (.iconst 0, 1) := by decide +kernel
theorem dX12_common_49 : decode cX12_common 49 = .ok (.ior, 1) := by decide +kernel
theorem dX12_common_50 : decode cX12_common 50 = .ok (.istore_n 1, 1) := by decide +kernel
theorem dX12_common_51 : decode cX12_common 51 = .ok (.iinc 2 1, 3) := by decide +kernel
theorem dX12_common_54 : decode cX12_common 54 = .ok (.goto (-33), 3) := by decide +kernel
theorem dX12_common_57 : decode cX12_common 57 = .ok (.iload_n 1, 1) := by decide +kernel
theorem dX12_common_58 : decode cX12_common 58 = .ok (.ireturn, 1) := by decide +kernel
theorem dX12_reach_0 : decode cX12_reach 0 = .ok (.aload_n 0, 1) := by decide +kernel
theorem dX12_reach_1 : decode cX12_reach 1 = .ok (.iconst 0, 1) := by decide +kernel
theorem dX12_reach_2 : decode cX12_reach 2 = .ok (.putfield 1, 3) := by decide +kernel
theorem dX12_reach_5 : decode cX12_reach 5 = .ok (.iload_n 1, 1) := by decide +kernel
theorem dX12_reach_6 : decode cX12_reach 6 = .ok (.i2l, 1) := by decide +kernel
theorem dX12_reach_7 : decode cX12_reach 7 = .ok (.lconst 1, 1) := by decide +kernel
theorem dX12_reach_8 : decode cX12_reach 8 = .ok (.ldc2_w 316, 3) := by decide +kernel
theorem dX12_reach_11 : decode cX12_reach 11 = .ok (.invokestatic 145, 3) := by decide +kernel
theorem dX12_reach_14 : decode cX12_reach 14 = .ok (.ifCond .ne 6, 3) := by decide +kernel
theorem dX12_reach_17 : decode cX12_reach 17 = .ok (.bipush (-3), 2) := by decide +kernel
theorem dX12_reach_19 : decode cX12_reach 19 = .ok (.ireturn, 1) := by decide +kernel
theorem dX12_reach_20 : decode cX12_reach 20 = .ok (.aload_n 0, 1) := by decide +kernel
theorem dX12_reach_21 : decode cX12_reach 21 = .ok (.getfield 13, 3) := by decide +kernel
theorem dX12_reach_24 : decode cX12_reach 24 = .ok (.iconst 1, 1) := by decide +kernel
theorem dX12_reach_25 : decode cX12_reach 25 = .ok (.iaload, 1) := by decide +kernel
theorem dX12_reach_26 : decode cX12_reach 26 = .ok (.ifCond .ne 6, 3) := by decide +kernel
theorem dX12_reach_29 : decode cX12_reach 29 = .ok (.bipush (-5), 2) := by decide +kernel
theorem dX12_reach_31 : decode cX12_reach 31 = .ok (.ireturn, 1) := by decide +kernel
theorem dX12_reach_32 : decode cX12_reach 32 = .ok (.iconst 1, 1) := by decide +kernel
theorem dX12_reach_33 : decode cX12_reach 33 = .ok (.aload_n 0, 1) := by decide +kernel
theorem dX12_reach_34 : decode cX12_reach 34 = .ok (.getfield 13, 3) := by decide +kernel
theorem dX12_reach_37 : decode cX12_reach 37 = .ok (.iconst 4, 1) := by decide +kernel
theorem dX12_reach_38 : decode cX12_reach 38 = .ok (.iaload, 1) := by decide +kernel
theorem dX12_reach_39 : decode cX12_reach 39 = .ok (.ishl, 1) := by decide +kernel
theorem dX12_reach_40 : decode cX12_reach 40 = .ok (.istore_n 2, 1) := by decide +kernel
theorem dX12_reach_41 : decode cX12_reach 41 = .ok (.iconst 0, 1) := by decide +kernel
theorem dX12_reach_42 : decode cX12_reach 42 = .ok (.istore_n 3, 1) := by decide +kernel
theorem dX12_reach_43 : decode cX12_reach 43 = .ok (.iload_n 3, 1) := by decide +kernel
theorem dX12_reach_44 : decode cX12_reach 44 = .ok (.iload_n 1, 1) := by decide +kernel
theorem dX12_reach_45 : decode cX12_reach 45 = .ok (.if_icmp .ge 98, 3) := by decide +kernel
theorem dX12_reach_48 : decode cX12_reach 48 = .ok (.aload_n 0, 1) := by decide +kernel
theorem dX12_reach_49 : decode cX12_reach 49 = .ok (.getfield 13, 3) := by decide +kernel
theorem dX12_reach_52 : decode cX12_reach 52 = .ok (.iconst 3, 1) := by decide +kernel
theorem dX12_reach_53 : decode cX12_reach 53 = .ok (.iaload, 1) := by decide +kernel
theorem dX12_reach_54 : decode cX12_reach 54 = .ok (.ifCond .le 89, 3) := by decide +kernel
theorem dX12_reach_57 : decode cX12_reach 57 = .ok (.iconst 0, 1) := by decide +kernel
theorem dX12_reach_58 : decode cX12_reach 58 = .ok (.istore 4, 2) := by decide +kernel
theorem dX12_reach_60 : decode cX12_reach 60 = .ok (.iconst 0, 1) := by decide +kernel
theorem dX12_reach_61 : decode cX12_reach 61 = .ok (.istore 5, 2) := by decide +kernel
theorem dX12_reach_63 : decode cX12_reach 63 = .ok (.iload 5, 2) := by decide +kernel
theorem dX12_reach_65 : decode cX12_reach 65 = .ok (.aload_n 0, 1) := by decide +kernel
theorem dX12_reach_66 : decode cX12_reach 66 = .ok (.getfield 13, 3) := by decide +kernel
theorem dX12_reach_69 : decode cX12_reach 69 = .ok (.iconst 1, 1) := by decide +kernel
theorem dX12_reach_70 : decode cX12_reach 70 = .ok (.iaload, 1) := by decide +kernel
theorem dX12_reach_71 : decode cX12_reach 71 = .ok (.if_icmp .ge 63, 3) := by decide +kernel
theorem dX12_reach_74 : decode cX12_reach 74 = .ok (.iconst 0, 1) := by decide +kernel
theorem dX12_reach_75 : decode cX12_reach 75 = .ok (.istore 6, 2) := by decide +kernel
theorem dX12_reach_77 : decode cX12_reach 77 = .ok (.iload 6, 2) := by decide +kernel
theorem dX12_reach_79 : decode cX12_reach 79 = .ok (.aload_n 0, 1) := by decide +kernel
theorem dX12_reach_80 : decode cX12_reach 80 = .ok (.getfield 13, 3) := by decide +kernel
theorem dX12_reach_83 : decode cX12_reach 83 = .ok (.iconst 3, 1) := by decide +kernel
theorem dX12_reach_84 : decode cX12_reach 84 = .ok (.iaload, 1) := by decide +kernel
theorem dX12_reach_85 : decode cX12_reach 85 = .ok (.if_icmp .ge 43, 3) := by decide +kernel
theorem dX12_reach_88 : decode cX12_reach 88 = .ok (.iload 4, 2) := by decide +kernel
theorem dX12_reach_90 : decode cX12_reach 90 = .ok (.iload_n 2, 1) := by decide +kernel
theorem dX12_reach_91 : decode cX12_reach 91 = .ok (.i2l, 1) := by decide +kernel
theorem dX12_reach_92 : decode cX12_reach 92 = .ok (.iload 5, 2) := by decide +kernel
theorem dX12_reach_94 : decode cX12_reach 94 = .ok (.invokestatic 222, 3) := by decide +kernel
theorem dX12_reach_97 : decode cX12_reach 97 = .ok (.ifCond .eq 21, 3) := by decide +kernel
theorem dX12_reach_100 : decode cX12_reach 100 = .ok (.aload_n 0, 1) := by decide +kernel
theorem dX12_reach_101 : decode cX12_reach 101 = .ok (.aload_n 0, 1) := by decide +kernel
theorem dX12_reach_102 : decode cX12_reach 102 = .ok (.getfield 13, 3) := by decide +kernel
theorem dX12_reach_105 : decode cX12_reach 105 = .ok (.iconst 5, 1) := by decide +kernel
theorem dX12_reach_106 : decode cX12_reach 106 = .ok (.iload 6, 2) := by decide +kernel
theorem dX12_reach_108 : decode cX12_reach 108 = .ok (.iadd, 1) := by decide +kernel
theorem dX12_reach_109 : decode cX12_reach 109 = .ok (.iaload, 1) := by decide +kernel
theorem dX12_reach_110 : decode cX12_reach 110 = .ok (.iload 5, 2) := by decide +kernel
theorem dX12_reach_112 : decode cX12_reach 112 = .ok (.invokevirtual 232, 3) := by decide +kernel
theorem dX12_reach_115 : decode cX12_reach 115 = .ok (.goto 4, 3) := by decide +kernel
theorem dX12_reach_118 : decode cX12_reach 118 = .ok (.iconst 0, 1) := by decide +kernel
theorem dX12_reach_119 : decode cX12_reach 119 = .ok (.ior, 1) := by decide +kernel
theorem dX12_reach_120 : decode cX12_reach 120 = .ok (.istore 4, 2) := by decide +kernel
theorem dX12_reach_122 : decode cX12_reach 122 = .ok (.iinc 6 1, 3) := by decide +kernel
theorem dX12_reach_125 : decode cX12_reach 125 = .ok (.goto (-48), 3) := by decide +kernel
theorem dX12_reach_128 : decode cX12_reach 128 = .ok (.iinc 5 1, 3) := by decide +kernel
theorem dX12_reach_131 : decode cX12_reach 131 = .ok (.goto (-68), 3) := by decide +kernel
theorem dX12_reach_134 : decode cX12_reach 134 = .ok (.iload 4, 2) := by decide +kernel
theorem dX12_reach_136 : decode cX12_reach 136 = .ok (.istore_n 2, 1) := by decide +kernel
theorem dX12_reach_137 : decode cX12_reach 137 = .ok (.iinc 3 1, 3) := by decide +kernel
theorem dX12_reach_140 : decode cX12_reach 140 = .ok (.goto (-97), 3) := by decide +kernel
theorem dX12_reach_143 : decode cX12_reach 143 = .ok (.iload_n 2, 1) := by decide +kernel
theorem dX12_reach_144 : decode cX12_reach 144 = .ok (.ireturn, 1) := by decide +kernel
theorem dX12_togetherOf_0 : decode cX12_togetherOf 0 = .ok (.iconst 0, 1) := by decide +kernel
theorem dX12_togetherOf_1 : decode cX12_togetherOf 1 = .ok (.istore_n 2, 1) := by decide +kernel
theorem dX12_togetherOf_2 : decode cX12_togetherOf 2 = .ok (.iconst 0, 1) := by decide +kernel
theorem dX12_togetherOf_3 : decode cX12_togetherOf 3 = .ok (.istore_n 3, 1) := by decide +kernel
theorem dX12_togetherOf_4 : decode cX12_togetherOf 4 = .ok (.iload_n 3, 1) := by decide +kernel
theorem dX12_togetherOf_5 : decode cX12_togetherOf 5 = .ok (.aload_n 0, 1) := by decide +kernel
theorem dX12_togetherOf_6 : decode cX12_togetherOf 6 = .ok (.getfield 13, 3) := by decide +kernel
theorem dX12_togetherOf_9 : decode cX12_togetherOf 9 = .ok (.iconst 3, 1) := by decide +kernel
theorem dX12_togetherOf_10 : decode cX12_togetherOf 10 = .ok (.iaload, 1) := by decide +kernel
theorem dX12_togetherOf_11 : decode cX12_togetherOf 11 = .ok (.if_icmp .ge 33, 3) := by decide +kernel
theorem dX12_togetherOf_14 : decode cX12_togetherOf 14 = .ok (.iload_n 2, 1) := by decide +kernel
theorem dX12_togetherOf_15 : decode cX12_togetherOf 15 = .ok (.iload_n 1, 1) := by decide +kernel
theorem dX12_togetherOf_16 : decode cX12_togetherOf 16 = .ok (.i2l, 1) := by decide +kernel
theorem dX12_togetherOf_17 : decode cX12_togetherOf 17 = .ok (.iload_n 3, 1) := by decide +kernel
theorem dX12_togetherOf_18 : decode cX12_togetherOf 18 = .ok (.invokestatic 222, 3) := by decide +kernel
theorem dX12_togetherOf_21 : decode cX12_togetherOf 21 = .ok (.ifCond .eq 14, 3) := by decide +kernel
theorem dX12_togetherOf_24 : decode cX12_togetherOf 24 = .ok (.aload_n 0, 1) := by decide +kernel
theorem dX12_togetherOf_25 : decode cX12_togetherOf 25 = .ok (.getfield 13, 3) := by decide +kernel
theorem dX12_togetherOf_28 : decode cX12_togetherOf 28 = .ok (.iconst 5, 1) := by decide +kernel
theorem dX12_togetherOf_29 : decode cX12_togetherOf 29 = .ok (.iload_n 3, 1) := by decide +kernel
theorem dX12_togetherOf_30 : decode cX12_togetherOf 30 = .ok (.iadd, 1) := by decide +kernel
theorem dX12_togetherOf_31 : decode cX12_togetherOf 31 = .ok (.iaload, 1) := by decide +kernel
theorem dX12_togetherOf_32 : decode cX12_togetherOf 32 = .ok (.goto 4, 3) := by decide +kernel
theorem dX12_togetherOf_35 : decode cX12_togetherOf 35 = .ok (.iconst 0, 1) := by decide +kernel
theorem dX12_togetherOf_36 : decode cX12_togetherOf 36 = .ok (.ior, 1) := by decide +kernel
theorem dX12_togetherOf_37 : decode cX12_togetherOf 37 = .ok (.istore_n 2, 1) := by decide +kernel
theorem dX12_togetherOf_38 : decode cX12_togetherOf 38 = .ok (.iinc 3 1, 3) := by decide +kernel
theorem dX12_togetherOf_41 : decode cX12_togetherOf 41 = .ok (.goto (-37), 3) := by decide +kernel
theorem dX12_togetherOf_44 : decode cX12_togetherOf 44 = .ok (.aload_n 0, 1) := by decide +kernel
theorem dX12_togetherOf_45 : decode cX12_togetherOf 45 = .ok (.iload_n 2, 1) := by decide +kernel
theorem dX12_togetherOf_46 : decode cX12_togetherOf 46 = .ok (.aload_n 0, 1) := by decide +kernel
theorem dX12_togetherOf_47 : decode cX12_togetherOf 47 = .ok (.getfield 13, 3) := by decide +kernel
theorem dX12_togetherOf_50 : decode cX12_togetherOf 50 = .ok (.iconst 4, 1) := by decide +kernel
theorem dX12_togetherOf_51 : decode cX12_togetherOf 51 = .ok (.iaload, 1) := by decide +kernel
theorem dX12_togetherOf_52 : decode cX12_togetherOf 52 = .ok (.invokevirtual 232, 3) := by decide +kernel
theorem dX12_togetherOf_55 : decode cX12_togetherOf 55 = .ok (.ireturn, 1) := by decide +kernel
theorem dX12_together_0 : decode cX12_together 0 = .ok (.aload_n 0, 1) := by decide +kernel
theorem dX12_together_1 : decode cX12_together 1 = .ok (.iconst 0, 1) := by decide +kernel
theorem dX12_together_2 : decode cX12_together 2 = .ok (.putfield 1, 3) := by decide +kernel
theorem dX12_together_5 : decode cX12_together 5 = .ok (.iload_n 1, 1) := by decide +kernel
theorem dX12_together_6 : decode cX12_together 6 = .ok (.i2l, 1) := by decide +kernel
theorem dX12_together_7 : decode cX12_together 7 = .ok (.lconst 0, 1) := by decide +kernel
theorem dX12_together_8 : decode cX12_together 8 = .ok (.iconst 1, 1) := by decide +kernel
theorem dX12_together_9 : decode cX12_together 9 = .ok (.aload_n 0, 1) := by decide +kernel
theorem dX12_together_10 : decode cX12_together 10 = .ok (.getfield 13, 3) := by decide +kernel
theorem dX12_together_13 : decode cX12_together 13 = .ok (.iconst 3, 1) := by decide +kernel
theorem dX12_together_14 : decode cX12_together 14 = .ok (.iaload, 1) := by decide +kernel
theorem dX12_together_15 : decode cX12_together 15 = .ok (.ishl, 1) := by decide +kernel
theorem dX12_together_16 : decode cX12_together 16 = .ok (.iconst 1, 1) := by decide +kernel
theorem dX12_together_17 : decode cX12_together 17 = .ok (.isub, 1) := by decide +kernel
theorem dX12_together_18 : decode cX12_together 18 = .ok (.i2l, 1) := by decide +kernel
theorem dX12_together_19 : decode cX12_together 19 = .ok (.invokestatic 145, 3) := by decide +kernel
theorem dX12_together_22 : decode cX12_together 22 = .ok (.ifCond .ne 6, 3) := by decide +kernel
theorem dX12_together_25 : decode cX12_together 25 = .ok (.bipush (-3), 2) := by decide +kernel
theorem dX12_together_27 : decode cX12_together 27 = .ok (.ireturn, 1) := by decide +kernel
theorem dX12_together_28 : decode cX12_together 28 = .ok (.aload_n 0, 1) := by decide +kernel
theorem dX12_together_29 : decode cX12_together 29 = .ok (.getfield 13, 3) := by decide +kernel
theorem dX12_together_32 : decode cX12_together 32 = .ok (.iconst 1, 1) := by decide +kernel
theorem dX12_together_33 : decode cX12_together 33 = .ok (.iaload, 1) := by decide +kernel
theorem dX12_together_34 : decode cX12_together 34 = .ok (.ifCond .ne 8, 3) := by decide +kernel
theorem dX12_together_37 : decode cX12_together 37 = .ok (.bipush (-5), 2) := by decide +kernel
theorem dX12_together_39 : decode cX12_together 39 = .ok (.goto 8, 3) := by decide +kernel
theorem dX12_together_42 : decode cX12_together 42 = .ok (.aload_n 0, 1) := by decide +kernel
theorem dX12_together_43 : decode cX12_together 43 = .ok (.iload_n 1, 1) := by decide +kernel
theorem dX12_together_44 : decode cX12_together 44 = .ok (.invokevirtual 318, 3) := by decide +kernel
theorem dX12_together_47 : decode cX12_together 47 = .ok (.ireturn, 1) := by decide +kernel
theorem dX12_witnesses_0 : decode cX12_witnesses 0 = .ok (.aload_n 0, 1) := by decide +kernel
theorem dX12_witnesses_1 : decode cX12_witnesses 1 = .ok (.iconst 0, 1) := by decide +kernel
theorem dX12_witnesses_2 : decode cX12_witnesses 2 = .ok (.putfield 1, 3) := by decide +kernel
theorem dX12_witnesses_5 : decode cX12_witnesses 5 = .ok (.aload_n 0, 1) := by decide +kernel
theorem dX12_witnesses_6 : decode cX12_witnesses 6 = .ok (.getfield 13, 3) := by decide +kernel
theorem dX12_witnesses_9 : decode cX12_witnesses 9 = .ok (.iconst 1, 1) := by decide +kernel
theorem dX12_witnesses_10 : decode cX12_witnesses 10 = .ok (.iaload, 1) := by decide +kernel
theorem dX12_witnesses_11 : decode cX12_witnesses 11 = .ok (.ifCond .ne 6, 3) := by decide +kernel
theorem dX12_witnesses_14 : decode cX12_witnesses 14 = .ok (.bipush (-5), 2) := by decide +kernel
theorem dX12_witnesses_16 : decode cX12_witnesses 16 = .ok (.ireturn, 1) := by decide +kernel
theorem dX12_witnesses_17 : decode cX12_witnesses 17 = .ok (.iconst (-1), 1) := by decide +kernel
theorem dX12_witnesses_18 : decode cX12_witnesses 18 = .ok (.istore_n 1, 1) := by decide +kernel
theorem dX12_witnesses_19 : decode cX12_witnesses 19 = .ok (.iconst 0, 1) := by decide +kernel
theorem dX12_witnesses_20 : decode cX12_witnesses 20 = .ok (.istore_n 2, 1) := by decide +kernel
theorem dX12_witnesses_21 : decode cX12_witnesses 21 = .ok (.iload_n 2, 1) := by decide +kernel
theorem dX12_witnesses_22 : decode cX12_witnesses 22 = .ok (.iconst 1, 1) := by decide +kernel
theorem dX12_witnesses_23 : decode cX12_witnesses 23 = .ok (.aload_n 0, 1) := by decide +kernel
theorem dX12_witnesses_24 : decode cX12_witnesses 24 = .ok (.getfield 13, 3) := by decide +kernel
theorem dX12_witnesses_27 : decode cX12_witnesses 27 = .ok (.iconst 3, 1) := by decide +kernel
theorem dX12_witnesses_28 : decode cX12_witnesses 28 = .ok (.iaload, 1) := by decide +kernel
theorem dX12_witnesses_29 : decode cX12_witnesses 29 = .ok (.ishl, 1) := by decide +kernel
theorem dX12_witnesses_30 : decode cX12_witnesses 30 = .ok (.if_icmp .ge 42, 3) := by decide +kernel
theorem dX12_witnesses_33 : decode cX12_witnesses 33 = .ok (.iload_n 1, 1) := by decide +kernel
theorem dX12_witnesses_34 : decode cX12_witnesses 34 = .ok (.iconst (-1), 1) := by decide +kernel
theorem dX12_witnesses_35 : decode cX12_witnesses 35 = .ok (.if_icmp .eq 14, 3) := by decide +kernel
theorem dX12_witnesses_38 : decode cX12_witnesses 38 = .ok (.iload_n 2, 1) := by decide +kernel
theorem dX12_witnesses_39 : decode cX12_witnesses 39 = .ok (.invokestatic 266, 3) := by decide +kernel
theorem dX12_witnesses_42 : decode cX12_witnesses 42 = .ok (.iload_n 1, 1) := by decide +kernel
theorem dX12_witnesses_43 : decode cX12_witnesses 43 = .ok (.invokestatic 266, 3) := by decide +kernel
theorem dX12_witnesses_46 : decode cX12_witnesses 46 = .ok (.if_icmp .ge 20, 3) := by decide +kernel
theorem dX12_witnesses_49 : decode cX12_witnesses 49 = .ok (.aload_n 0, 1) := by decide +kernel
theorem dX12_witnesses_50 : decode cX12_witnesses 50 = .ok (.iload_n 2, 1) := by decide +kernel
theorem dX12_witnesses_51 : decode cX12_witnesses 51 = .ok (.invokevirtual 318, 3) := by decide +kernel
theorem dX12_witnesses_54 : decode cX12_witnesses 54 = .ok (.aload_n 0, 1) := by decide +kernel
theorem dX12_witnesses_55 : decode cX12_witnesses 55 = .ok (.invokevirtual 254, 3) := by decide +kernel
theorem dX12_witnesses_58 : decode cX12_witnesses 58 = .ok (.invokestatic 229, 3) := by decide +kernel
theorem dX12_witnesses_61 : decode cX12_witnesses 61 = .ok (.ifCond .eq 5, 3) := by decide +kernel
theorem dX12_witnesses_64 : decode cX12_witnesses 64 = .ok (.iload_n 2, 1) := by decide +kernel
theorem dX12_witnesses_65 : decode cX12_witnesses 65 = .ok (.istore_n 1, 1) := by decide +kernel
theorem dX12_witnesses_66 : decode cX12_witnesses 66 = .ok (.iinc 2 1, 3) := by decide +kernel
theorem dX12_witnesses_69 : decode cX12_witnesses 69 = .ok (.goto (-48), 3) := by decide +kernel
theorem dX12_witnesses_72 : decode cX12_witnesses 72 = .ok (.iload_n 1, 1) := by decide +kernel
theorem dX12_witnesses_73 : decode cX12_witnesses 73 = .ok (.ireturn, 1) := by decide +kernel
theorem dX12_parting_0 : decode cX12_parting 0 = .ok (.aload_n 0, 1) := by decide +kernel
theorem dX12_parting_1 : decode cX12_parting 1 = .ok (.iconst 0, 1) := by decide +kernel
theorem dX12_parting_2 : decode cX12_parting 2 = .ok (.putfield 1, 3) := by decide +kernel
theorem dX12_parting_5 : decode cX12_parting 5 = .ok (.aload_n 0, 1) := by decide +kernel
theorem dX12_parting_6 : decode cX12_parting 6 = .ok (.iload_n 1, 1) := by decide +kernel
theorem dX12_parting_7 : decode cX12_parting 7 = .ok (.i2l, 1) := by decide +kernel
theorem dX12_parting_8 : decode cX12_parting 8 = .ok (.invokevirtual 245, 3) := by decide +kernel
theorem dX12_parting_11 : decode cX12_parting 11 = .ok (.ifCond .eq 34, 3) := by decide +kernel
theorem dX12_parting_14 : decode cX12_parting 14 = .ok (.aload_n 0, 1) := by decide +kernel
theorem dX12_parting_15 : decode cX12_parting 15 = .ok (.iload_n 2, 1) := by decide +kernel
theorem dX12_parting_16 : decode cX12_parting 16 = .ok (.i2l, 1) := by decide +kernel
theorem dX12_parting_17 : decode cX12_parting 17 = .ok (.invokevirtual 245, 3) := by decide +kernel
theorem dX12_parting_20 : decode cX12_parting 20 = .ok (.ifCond .eq 25, 3) := by decide +kernel
theorem dX12_parting_23 : decode cX12_parting 23 = .ok (.aload_n 0, 1) := by decide +kernel
theorem dX12_parting_24 : decode cX12_parting 24 = .ok (.aload_n 0, 1) := by decide +kernel
theorem dX12_parting_25 : decode cX12_parting 25 = .ok (.iload_n 1, 1) := by decide +kernel
theorem dX12_parting_26 : decode cX12_parting 26 = .ok (.invokevirtual 248, 3) := by decide +kernel
theorem dX12_parting_29 : decode cX12_parting 29 = .ok (.invokevirtual 251, 3) := by decide +kernel
theorem dX12_parting_32 : decode cX12_parting 32 = .ok (.aload_n 0, 1) := by decide +kernel
theorem dX12_parting_33 : decode cX12_parting 33 = .ok (.aload_n 0, 1) := by decide +kernel
theorem dX12_parting_34 : decode cX12_parting 34 = .ok (.iload_n 2, 1) := by decide +kernel
theorem dX12_parting_35 : decode cX12_parting 35 = .ok (.invokevirtual 248, 3) := by decide +kernel
theorem dX12_parting_38 : decode cX12_parting 38 = .ok (.invokevirtual 251, 3) := by decide +kernel
theorem dX12_parting_41 : decode cX12_parting 41 = .ok (.ixor, 1) := by decide +kernel
theorem dX12_parting_42 : decode cX12_parting 42 = .ok (.goto 5, 3) := by decide +kernel
theorem dX12_parting_45 : decode cX12_parting 45 = .ok (.bipush (-2), 2) := by decide +kernel
theorem dX12_parting_47 : decode cX12_parting 47 = .ok (.ireturn, 1) := by decide +kernel
theorem dX12_weightOf_0 : decode cX12_weightOf 0 = .ok (.iconst 0, 1) := by decide +kernel
theorem dX12_weightOf_1 : decode cX12_weightOf 1 = .ok (.istore_n 2, 1) := by decide +kernel
theorem dX12_weightOf_2 : decode cX12_weightOf 2 = .ok (.iconst 0, 1) := by decide +kernel
theorem dX12_weightOf_3 : decode cX12_weightOf 3 = .ok (.istore_n 3, 1) := by decide +kernel
theorem dX12_weightOf_4 : decode cX12_weightOf 4 = .ok (.iload_n 3, 1) := by decide +kernel
theorem dX12_weightOf_5 : decode cX12_weightOf 5 = .ok (.aload_n 0, 1) := by decide +kernel
theorem dX12_weightOf_6 : decode cX12_weightOf 6 = .ok (.getfield 13, 3) := by decide +kernel
theorem dX12_weightOf_9 : decode cX12_weightOf 9 = .ok (.iconst 1, 1) := by decide +kernel
theorem dX12_weightOf_10 : decode cX12_weightOf 10 = .ok (.iaload, 1) := by decide +kernel
theorem dX12_weightOf_11 : decode cX12_weightOf 11 = .ok (.if_icmp .ge 34, 3) := by decide +kernel
theorem dX12_weightOf_14 : decode cX12_weightOf 14 = .ok (.iload_n 2, 1) := by decide +kernel
theorem dX12_weightOf_15 : decode cX12_weightOf 15 = .ok (.iload_n 1, 1) := by decide +kernel
theorem dX12_weightOf_16 : decode cX12_weightOf 16 = .ok (.i2l, 1) := by decide +kernel
theorem dX12_weightOf_17 : decode cX12_weightOf 17 = .ok (.iload_n 3, 1) := by decide +kernel
theorem dX12_weightOf_18 : decode cX12_weightOf 18 = .ok (.invokestatic 222, 3) := by decide +kernel
theorem dX12_weightOf_21 : decode cX12_weightOf 21 = .ok (.ifCond .eq 15, 3) := by decide +kernel
theorem dX12_weightOf_24 : decode cX12_weightOf 24 = .ok (.aload_n 0, 1) := by decide +kernel
theorem dX12_weightOf_25 : decode cX12_weightOf 25 = .ok (.getfield 13, 3) := by decide +kernel
theorem dX12_weightOf_28 : decode cX12_weightOf 28 = .ok (.bipush 59, 2) := by decide +kernel
theorem dX12_weightOf_30 : decode cX12_weightOf 30 = .ok (.iload_n 3, 1) := by decide +kernel
theorem dX12_weightOf_31 : decode cX12_weightOf 31 = .ok (.iadd, 1) := by decide +kernel
theorem dX12_weightOf_32 : decode cX12_weightOf 32 = .ok (.iaload, 1) := by decide +kernel
theorem dX12_weightOf_33 : decode cX12_weightOf 33 = .ok (.goto 4, 3) := by decide +kernel
theorem dX12_weightOf_36 : decode cX12_weightOf 36 = .ok (.iconst 0, 1) := by decide +kernel
theorem dX12_weightOf_37 : decode cX12_weightOf 37 = .ok (.iadd, 1) := by decide +kernel
theorem dX12_weightOf_38 : decode cX12_weightOf 38 = .ok (.istore_n 2, 1) := by decide +kernel
theorem dX12_weightOf_39 : decode cX12_weightOf 39 = .ok (.iinc 3 1, 3) := by decide +kernel
theorem dX12_weightOf_42 : decode cX12_weightOf 42 = .ok (.goto (-38), 3) := by decide +kernel
theorem dX12_weightOf_45 : decode cX12_weightOf 45 = .ok (.iload_n 2, 1) := by decide +kernel
theorem dX12_weightOf_46 : decode cX12_weightOf 46 = .ok (.ireturn, 1) := by decide +kernel
theorem dX12_measureOf_0 : decode cX12_measureOf 0 = .ok (.iload_n 2, 1) := by decide +kernel
theorem dX12_measureOf_1 : decode cX12_measureOf 1 = .ok (.aload_n 0, 1) := by decide +kernel
theorem dX12_measureOf_2 : decode cX12_measureOf 2 = .ok (.invokevirtual 254, 3) := by decide +kernel
theorem dX12_measureOf_5 : decode cX12_measureOf 5 = .ok (.iand, 1) := by decide +kernel
theorem dX12_measureOf_6 : decode cX12_measureOf 6 = .ok (.invokestatic 266, 3) := by decide +kernel
theorem dX12_measureOf_9 : decode cX12_measureOf 9 = .ok (.istore_n 3, 1) := by decide +kernel
theorem dX12_measureOf_10 : decode cX12_measureOf 10 = .ok (.iload_n 2, 1) := by decide +kernel
theorem dX12_measureOf_11 : decode cX12_measureOf 11 = .ok (.invokestatic 266, 3) := by decide +kernel
theorem dX12_measureOf_14 : decode cX12_measureOf 14 = .ok (.iload_n 3, 1) := by decide +kernel
theorem dX12_measureOf_15 : decode cX12_measureOf 15 = .ok (.isub, 1) := by decide +kernel
theorem dX12_measureOf_16 : decode cX12_measureOf 16 = .ok (.istore 4, 2) := by decide +kernel
theorem dX12_measureOf_18 : decode cX12_measureOf 18 = .ok (.iload_n 1, 1) := by decide +kernel
theorem dX12_measureOf_19 : decode cX12_measureOf 19 = .ok (.ifCond .ne 10, 3) := by decide +kernel
theorem dX12_measureOf_22 : decode cX12_measureOf 22 = .ok (.iload_n 3, 1) := by decide +kernel
theorem dX12_measureOf_23 : decode cX12_measureOf 23 = .ok (.iload 4, 2) := by decide +kernel
theorem dX12_measureOf_25 : decode cX12_measureOf 25 = .ok (.iadd, 1) := by decide +kernel
theorem dX12_measureOf_26 : decode cX12_measureOf 26 = .ok (.goto 51, 3) := by decide +kernel
theorem dX12_measureOf_29 : decode cX12_measureOf 29 = .ok (.iload_n 1, 1) := by decide +kernel
theorem dX12_measureOf_30 : decode cX12_measureOf 30 = .ok (.iconst 1, 1) := by decide +kernel
theorem dX12_measureOf_31 : decode cX12_measureOf 31 = .ok (.if_icmp .ne 18, 3) := by decide +kernel
theorem dX12_measureOf_34 : decode cX12_measureOf 34 = .ok (.iload_n 3, 1) := by decide +kernel
theorem dX12_measureOf_35 : decode cX12_measureOf 35 = .ok (.iload 4, 2) := by decide +kernel
theorem dX12_measureOf_37 : decode cX12_measureOf 37 = .ok (.if_icmp .ge 7, 3) := by decide +kernel
theorem dX12_measureOf_40 : decode cX12_measureOf 40 = .ok (.iload_n 3, 1) := by decide +kernel
theorem dX12_measureOf_41 : decode cX12_measureOf 41 = .ok (.goto 36, 3) := by decide +kernel
theorem dX12_measureOf_44 : decode cX12_measureOf 44 = .ok (.iload 4, 2) := by decide +kernel
theorem dX12_measureOf_46 : decode cX12_measureOf 46 = .ok (.goto 31, 3) := by decide +kernel
theorem dX12_measureOf_49 : decode cX12_measureOf 49 = .ok (.iload_n 1, 1) := by decide +kernel
theorem dX12_measureOf_50 : decode cX12_measureOf 50 = .ok (.iconst 2, 1) := by decide +kernel
theorem dX12_measureOf_51 : decode cX12_measureOf 51 = .ok (.if_icmp .ne 11, 3) := by decide +kernel
theorem dX12_measureOf_54 : decode cX12_measureOf 54 = .ok (.aload_n 0, 1) := by decide +kernel
theorem dX12_measureOf_55 : decode cX12_measureOf 55 = .ok (.iload_n 2, 1) := by decide +kernel
theorem dX12_measureOf_56 : decode cX12_measureOf 56 = .ok (.invokevirtual 321, 3) := by decide +kernel
theorem dX12_measureOf_59 : decode cX12_measureOf 59 = .ok (.goto 18, 3) := by decide +kernel
theorem dX12_measureOf_62 : decode cX12_measureOf 62 = .ok (.aload_n 0, 1) := by decide +kernel
theorem dX12_measureOf_63 : decode cX12_measureOf 63 = .ok (.getfield 13, 3) := by decide +kernel
theorem dX12_measureOf_66 : decode cX12_measureOf 66 = .ok (.iconst 2, 1) := by decide +kernel
theorem dX12_measureOf_67 : decode cX12_measureOf 67 = .ok (.iaload, 1) := by decide +kernel
theorem dX12_measureOf_68 : decode cX12_measureOf 68 = .ok (.aload_n 0, 1) := by decide +kernel
theorem dX12_measureOf_69 : decode cX12_measureOf 69 = .ok (.iload_n 2, 1) := by decide +kernel
theorem dX12_measureOf_70 : decode cX12_measureOf 70 = .ok (.invokevirtual 251, 3) := by decide +kernel
theorem dX12_measureOf_73 : decode cX12_measureOf 73 = .ok (.invokestatic 266, 3) := by decide +kernel
theorem dX12_measureOf_76 : decode cX12_measureOf 76 = .ok (.isub, 1) := by decide +kernel
theorem dX12_measureOf_77 : decode cX12_measureOf 77 = .ok (.ireturn, 1) := by decide +kernel
theorem dX12_leastOf_0 : decode cX12_leastOf 0 = .ok (.iconst (-1), 1) := by decide +kernel
theorem dX12_leastOf_1 : decode cX12_leastOf 1 = .ok (.istore_n 3, 1) := by decide +kernel
theorem dX12_leastOf_2 : decode cX12_leastOf 2 = .ok (.iconst 0, 1) := by decide +kernel
theorem dX12_leastOf_3 : decode cX12_leastOf 3 = .ok (.istore 4, 2) := by decide +kernel
theorem dX12_leastOf_5 : decode cX12_leastOf 5 = .ok (.iconst 0, 1) := by decide +kernel
theorem dX12_leastOf_6 : decode cX12_leastOf 6 = .ok (.istore 5, 2) := by decide +kernel
theorem dX12_leastOf_8 : decode cX12_leastOf 8 = .ok (.iload 5, 2) := by decide +kernel
theorem dX12_leastOf_10 : decode cX12_leastOf 10 = .ok (.aload_n 0, 1) := by decide +kernel
theorem dX12_leastOf_11 : decode cX12_leastOf 11 = .ok (.getfield 13, 3) := by decide +kernel
theorem dX12_leastOf_14 : decode cX12_leastOf 14 = .ok (.iconst 3, 1) := by decide +kernel
theorem dX12_leastOf_15 : decode cX12_leastOf 15 = .ok (.iaload, 1) := by decide +kernel
theorem dX12_leastOf_16 : decode cX12_leastOf 16 = .ok (.if_icmp .ge 52, 3) := by decide +kernel
theorem dX12_leastOf_19 : decode cX12_leastOf 19 = .ok (.aload_n 0, 1) := by decide +kernel
theorem dX12_leastOf_20 : decode cX12_leastOf 20 = .ok (.iload_n 1, 1) := by decide +kernel
theorem dX12_leastOf_21 : decode cX12_leastOf 21 = .ok (.aload_n 0, 1) := by decide +kernel
theorem dX12_leastOf_22 : decode cX12_leastOf 22 = .ok (.aload_n 0, 1) := by decide +kernel
theorem dX12_leastOf_23 : decode cX12_leastOf 23 = .ok (.getfield 13, 3) := by decide +kernel
theorem dX12_leastOf_26 : decode cX12_leastOf 26 = .ok (.iconst 5, 1) := by decide +kernel
theorem dX12_leastOf_27 : decode cX12_leastOf 27 = .ok (.iload 5, 2) := by decide +kernel
theorem dX12_leastOf_29 : decode cX12_leastOf 29 = .ok (.iadd, 1) := by decide +kernel
theorem dX12_leastOf_30 : decode cX12_leastOf 30 = .ok (.iaload, 1) := by decide +kernel
theorem dX12_leastOf_31 : decode cX12_leastOf 31 = .ok (.iload_n 2, 1) := by decide +kernel
theorem dX12_leastOf_32 : decode cX12_leastOf 32 = .ok (.invokevirtual 232, 3) := by decide +kernel
theorem dX12_leastOf_35 : decode cX12_leastOf 35 = .ok (.invokevirtual 324, 3) := by decide +kernel
theorem dX12_leastOf_38 : decode cX12_leastOf 38 = .ok (.istore 6, 2) := by decide +kernel
theorem dX12_leastOf_40 : decode cX12_leastOf 40 = .ok (.iload_n 3, 1) := by decide +kernel
theorem dX12_leastOf_41 : decode cX12_leastOf 41 = .ok (.iconst (-1), 1) := by decide +kernel
theorem dX12_leastOf_42 : decode cX12_leastOf 42 = .ok (.if_icmp .eq 13, 3) := by decide +kernel
theorem dX12_leastOf_45 : decode cX12_leastOf 45 = .ok (.iload 6, 2) := by decide +kernel
theorem dX12_leastOf_47 : decode cX12_leastOf 47 = .ok (.iload 4, 2) := by decide +kernel
theorem dX12_leastOf_49 : decode cX12_leastOf 49 = .ok (.if_icmp .gt 6, 3) := by decide +kernel
theorem dX12_leastOf_52 : decode cX12_leastOf 52 = .ok (.goto 10, 3) := by decide +kernel
theorem dX12_leastOf_55 : decode cX12_leastOf 55 = .ok (.iload 5, 2) := by decide +kernel
theorem dX12_leastOf_57 : decode cX12_leastOf 57 = .ok (.istore_n 3, 1) := by decide +kernel
theorem dX12_leastOf_58 : decode cX12_leastOf 58 = .ok (.iload 6, 2) := by decide +kernel
theorem dX12_leastOf_60 : decode cX12_leastOf 60 = .ok (.istore 4, 2) := by decide +kernel
theorem dX12_leastOf_62 : decode cX12_leastOf 62 = .ok (.iinc 5 1, 3) := by decide +kernel
theorem dX12_leastOf_65 : decode cX12_leastOf 65 = .ok (.goto (-57), 3) := by decide +kernel
theorem dX12_leastOf_68 : decode cX12_leastOf 68 = .ok (.iload_n 3, 1) := by decide +kernel
theorem dX12_leastOf_69 : decode cX12_leastOf 69 = .ok (.ireturn, 1) := by decide +kernel
theorem dX12_measureNow_0 : decode cX12_measureNow 0 = .ok (.aload_n 0, 1) := by decide +kernel
theorem dX12_measureNow_1 : decode cX12_measureNow 1 = .ok (.iload_n 2, 1) := by decide +kernel
theorem dX12_measureNow_2 : decode cX12_measureNow 2 = .ok (.aload_n 0, 1) := by decide +kernel
theorem dX12_measureNow_3 : decode cX12_measureNow 3 = .ok (.iload_n 1, 1) := by decide +kernel
theorem dX12_measureNow_4 : decode cX12_measureNow 4 = .ok (.invokevirtual 248, 3) := by decide +kernel
theorem dX12_measureNow_7 : decode cX12_measureNow 7 = .ok (.invokevirtual 324, 3) := by decide +kernel
theorem dX12_measureNow_10 : decode cX12_measureNow 10 = .ok (.ireturn, 1) := by decide +kernel
theorem dX12_measure_0 : decode cX12_measure 0 = .ok (.aload_n 0, 1) := by decide +kernel
theorem dX12_measure_1 : decode cX12_measure 1 = .ok (.iconst 0, 1) := by decide +kernel
theorem dX12_measure_2 : decode cX12_measure 2 = .ok (.putfield 1, 3) := by decide +kernel
theorem dX12_measure_5 : decode cX12_measure 5 = .ok (.aload_n 0, 1) := by decide +kernel
theorem dX12_measure_6 : decode cX12_measure 6 = .ok (.iload_n 1, 1) := by decide +kernel
theorem dX12_measure_7 : decode cX12_measure 7 = .ok (.i2l, 1) := by decide +kernel
theorem dX12_measure_8 : decode cX12_measure 8 = .ok (.invokevirtual 245, 3) := by decide +kernel
theorem dX12_measure_11 : decode cX12_measure 11 = .ok (.ifCond .eq 24, 3) := by decide +kernel
theorem dX12_measure_14 : decode cX12_measure 14 = .ok (.iload_n 2, 1) := by decide +kernel
theorem dX12_measure_15 : decode cX12_measure 15 = .ok (.i2l, 1) := by decide +kernel
theorem dX12_measure_16 : decode cX12_measure 16 = .ok (.lconst 0, 1) := by decide +kernel
theorem dX12_measure_17 : decode cX12_measure 17 = .ok (.ldc2_w 289, 3) := by decide +kernel
theorem dX12_measure_20 : decode cX12_measure 20 = .ok (.invokestatic 145, 3) := by decide +kernel
theorem dX12_measure_23 : decode cX12_measure 23 = .ok (.ifCond .eq 12, 3) := by decide +kernel
theorem dX12_measure_26 : decode cX12_measure 26 = .ok (.aload_n 0, 1) := by decide +kernel
theorem dX12_measure_27 : decode cX12_measure 27 = .ok (.iload_n 1, 1) := by decide +kernel
theorem dX12_measure_28 : decode cX12_measure 28 = .ok (.iload_n 2, 1) := by decide +kernel
theorem dX12_measure_29 : decode cX12_measure 29 = .ok (.invokevirtual 327, 3) := by decide +kernel
theorem dX12_measure_32 : decode cX12_measure 32 = .ok (.goto 5, 3) := by decide +kernel
theorem dX12_measure_35 : decode cX12_measure 35 = .ok (.bipush (-2), 2) := by decide +kernel
theorem dX12_measure_37 : decode cX12_measure 37 = .ok (.ireturn, 1) := by decide +kernel
theorem dX12_least_0 : decode cX12_least 0 = .ok (.aload_n 0, 1) := by decide +kernel
theorem dX12_least_1 : decode cX12_least 1 = .ok (.iconst 0, 1) := by decide +kernel
theorem dX12_least_2 : decode cX12_least 2 = .ok (.putfield 1, 3) := by decide +kernel
theorem dX12_least_5 : decode cX12_least 5 = .ok (.iload_n 1, 1) := by decide +kernel
theorem dX12_least_6 : decode cX12_least 6 = .ok (.i2l, 1) := by decide +kernel
theorem dX12_least_7 : decode cX12_least 7 = .ok (.lconst 0, 1) := by decide +kernel
theorem dX12_least_8 : decode cX12_least 8 = .ok (.ldc2_w 289, 3) := by decide +kernel
theorem dX12_least_11 : decode cX12_least 11 = .ok (.invokestatic 145, 3) := by decide +kernel
theorem dX12_least_14 : decode cX12_least 14 = .ok (.ifCond .eq 17, 3) := by decide +kernel
theorem dX12_least_17 : decode cX12_least 17 = .ok (.aload_n 0, 1) := by decide +kernel
theorem dX12_least_18 : decode cX12_least 18 = .ok (.iload_n 1, 1) := by decide +kernel
theorem dX12_least_19 : decode cX12_least 19 = .ok (.aload_n 0, 1) := by decide +kernel
theorem dX12_least_20 : decode cX12_least 20 = .ok (.getfield 13, 3) := by decide +kernel
theorem dX12_least_23 : decode cX12_least 23 = .ok (.iconst 4, 1) := by decide +kernel
theorem dX12_least_24 : decode cX12_least 24 = .ok (.iaload, 1) := by decide +kernel
theorem dX12_least_25 : decode cX12_least 25 = .ok (.invokevirtual 294, 3) := by decide +kernel
theorem dX12_least_28 : decode cX12_least 28 = .ok (.goto 5, 3) := by decide +kernel
theorem dX12_least_31 : decode cX12_least 31 = .ok (.bipush (-2), 2) := by decide +kernel
theorem dX12_least_33 : decode cX12_least 33 = .ok (.ireturn, 1) := by decide +kernel
theorem dX12_seats_0 : decode cX12_seats 0 = .ok (.aload_n 0, 1) := by decide +kernel
theorem dX12_seats_1 : decode cX12_seats 1 = .ok (.iconst 0, 1) := by decide +kernel
theorem dX12_seats_2 : decode cX12_seats 2 = .ok (.putfield 1, 3) := by decide +kernel
theorem dX12_seats_5 : decode cX12_seats 5 = .ok (.aload_n 0, 1) := by decide +kernel
theorem dX12_seats_6 : decode cX12_seats 6 = .ok (.iload_n 1, 1) := by decide +kernel
theorem dX12_seats_7 : decode cX12_seats 7 = .ok (.i2l, 1) := by decide +kernel
theorem dX12_seats_8 : decode cX12_seats 8 = .ok (.invokevirtual 245, 3) := by decide +kernel
theorem dX12_seats_11 : decode cX12_seats 11 = .ok (.ifCond .eq 15, 3) := by decide +kernel
theorem dX12_seats_14 : decode cX12_seats 14 = .ok (.iload_n 2, 1) := by decide +kernel
theorem dX12_seats_15 : decode cX12_seats 15 = .ok (.i2l, 1) := by decide +kernel
theorem dX12_seats_16 : decode cX12_seats 16 = .ok (.lconst 0, 1) := by decide +kernel
theorem dX12_seats_17 : decode cX12_seats 17 = .ok (.ldc2_w 289, 3) := by decide +kernel
theorem dX12_seats_20 : decode cX12_seats 20 = .ok (.invokestatic 145, 3) := by decide +kernel
theorem dX12_seats_23 : decode cX12_seats 23 = .ok (.ifCond .ne 6, 3) := by decide +kernel
theorem dX12_seats_26 : decode cX12_seats 26 = .ok (.bipush (-2), 2) := by decide +kernel
theorem dX12_seats_28 : decode cX12_seats 28 = .ok (.ireturn, 1) := by decide +kernel
theorem dX12_seats_29 : decode cX12_seats 29 = .ok (.iconst 0, 1) := by decide +kernel
theorem dX12_seats_30 : decode cX12_seats 30 = .ok (.istore_n 3, 1) := by decide +kernel
theorem dX12_seats_31 : decode cX12_seats 31 = .ok (.iconst 0, 1) := by decide +kernel
theorem dX12_seats_32 : decode cX12_seats 32 = .ok (.istore 4, 2) := by decide +kernel
theorem dX12_seats_34 : decode cX12_seats 34 = .ok (.iload 4, 2) := by decide +kernel
theorem dX12_seats_36 : decode cX12_seats 36 = .ok (.aload_n 0, 1) := by decide +kernel
theorem dX12_seats_37 : decode cX12_seats 37 = .ok (.getfield 13, 3) := by decide +kernel
theorem dX12_seats_40 : decode cX12_seats 40 = .ok (.iconst 1, 1) := by decide +kernel
theorem dX12_seats_41 : decode cX12_seats 41 = .ok (.iaload, 1) := by decide +kernel
theorem dX12_seats_42 : decode cX12_seats 42 = .ok (.if_icmp .ge 28, 3) := by decide +kernel
theorem dX12_seats_45 : decode cX12_seats 45 = .ok (.iload_n 3, 1) := by decide +kernel
theorem dX12_seats_46 : decode cX12_seats 46 = .ok (.aload_n 0, 1) := by decide +kernel
theorem dX12_seats_47 : decode cX12_seats 47 = .ok (.iload_n 2, 1) := by decide +kernel
theorem dX12_seats_48 : decode cX12_seats 48 = .ok (.iload 4, 2) := by decide +kernel
theorem dX12_seats_50 : decode cX12_seats 50 = .ok (.invokevirtual 294, 3) := by decide +kernel
theorem dX12_seats_53 : decode cX12_seats 53 = .ok (.iload_n 1, 1) := by decide +kernel
theorem dX12_seats_54 : decode cX12_seats 54 = .ok (.if_icmp .ne 7, 3) := by decide +kernel
theorem dX12_seats_57 : decode cX12_seats 57 = .ok (.iconst 1, 1) := by decide +kernel
theorem dX12_seats_58 : decode cX12_seats 58 = .ok (.goto 4, 3) := by decide +kernel
theorem dX12_seats_61 : decode cX12_seats 61 = .ok (.iconst 0, 1) := by decide +kernel
theorem dX12_seats_62 : decode cX12_seats 62 = .ok (.iadd, 1) := by decide +kernel
theorem dX12_seats_63 : decode cX12_seats 63 = .ok (.istore_n 3, 1) := by decide +kernel
theorem dX12_seats_64 : decode cX12_seats 64 = .ok (.iinc 4 1, 3) := by decide +kernel
theorem dX12_seats_67 : decode cX12_seats 67 = .ok (.goto (-33), 3) := by decide +kernel
theorem dX12_seats_70 : decode cX12_seats 70 = .ok (.iload_n 3, 1) := by decide +kernel
theorem dX12_seats_71 : decode cX12_seats 71 = .ok (.ireturn, 1) := by decide +kernel
theorem dX12_differ_0 : decode cX12_differ 0 = .ok (.aload_n 0, 1) := by decide +kernel
theorem dX12_differ_1 : decode cX12_differ 1 = .ok (.iconst 0, 1) := by decide +kernel
theorem dX12_differ_2 : decode cX12_differ 2 = .ok (.putfield 1, 3) := by decide +kernel
theorem dX12_differ_5 : decode cX12_differ 5 = .ok (.iload_n 1, 1) := by decide +kernel
theorem dX12_differ_6 : decode cX12_differ 6 = .ok (.i2l, 1) := by decide +kernel
theorem dX12_differ_7 : decode cX12_differ 7 = .ok (.lconst 0, 1) := by decide +kernel
theorem dX12_differ_8 : decode cX12_differ 8 = .ok (.ldc2_w 289, 3) := by decide +kernel
theorem dX12_differ_11 : decode cX12_differ 11 = .ok (.invokestatic 145, 3) := by decide +kernel
theorem dX12_differ_14 : decode cX12_differ 14 = .ok (.ifCond .eq 15, 3) := by decide +kernel
theorem dX12_differ_17 : decode cX12_differ 17 = .ok (.iload_n 2, 1) := by decide +kernel
theorem dX12_differ_18 : decode cX12_differ 18 = .ok (.i2l, 1) := by decide +kernel
theorem dX12_differ_19 : decode cX12_differ 19 = .ok (.lconst 0, 1) := by decide +kernel
theorem dX12_differ_20 : decode cX12_differ 20 = .ok (.ldc2_w 289, 3) := by decide +kernel
theorem dX12_differ_23 : decode cX12_differ 23 = .ok (.invokestatic 145, 3) := by decide +kernel
theorem dX12_differ_26 : decode cX12_differ 26 = .ok (.ifCond .ne 6, 3) := by decide +kernel
theorem dX12_differ_29 : decode cX12_differ 29 = .ok (.bipush (-2), 2) := by decide +kernel
theorem dX12_differ_31 : decode cX12_differ 31 = .ok (.ireturn, 1) := by decide +kernel
theorem dX12_differ_32 : decode cX12_differ 32 = .ok (.iconst 0, 1) := by decide +kernel
theorem dX12_differ_33 : decode cX12_differ 33 = .ok (.istore_n 3, 1) := by decide +kernel
theorem dX12_differ_34 : decode cX12_differ 34 = .ok (.iconst 0, 1) := by decide +kernel
theorem dX12_differ_35 : decode cX12_differ 35 = .ok (.istore 4, 2) := by decide +kernel
theorem dX12_differ_37 : decode cX12_differ 37 = .ok (.iload 4, 2) := by decide +kernel
theorem dX12_differ_39 : decode cX12_differ 39 = .ok (.aload_n 0, 1) := by decide +kernel
theorem dX12_differ_40 : decode cX12_differ 40 = .ok (.getfield 13, 3) := by decide +kernel
theorem dX12_differ_43 : decode cX12_differ 43 = .ok (.iconst 3, 1) := by decide +kernel
theorem dX12_differ_44 : decode cX12_differ 44 = .ok (.iaload, 1) := by decide +kernel
theorem dX12_differ_45 : decode cX12_differ 45 = .ok (.if_icmp .ge 71, 3) := by decide +kernel
theorem dX12_differ_48 : decode cX12_differ 48 = .ok (.iconst 0, 1) := by decide +kernel
theorem dX12_differ_49 : decode cX12_differ 49 = .ok (.istore 5, 2) := by decide +kernel
theorem dX12_differ_51 : decode cX12_differ 51 = .ok (.iload 5, 2) := by decide +kernel
theorem dX12_differ_53 : decode cX12_differ 53 = .ok (.aload_n 0, 1) := by decide +kernel
theorem dX12_differ_54 : decode cX12_differ 54 = .ok (.getfield 13, 3) := by decide +kernel
theorem dX12_differ_57 : decode cX12_differ 57 = .ok (.iconst 3, 1) := by decide +kernel
theorem dX12_differ_58 : decode cX12_differ 58 = .ok (.iaload, 1) := by decide +kernel
theorem dX12_differ_59 : decode cX12_differ 59 = .ok (.if_icmp .ge 51, 3) := by decide +kernel
theorem dX12_differ_62 : decode cX12_differ 62 = .ok (.iload_n 3, 1) := by decide +kernel
theorem dX12_differ_63 : decode cX12_differ 63 = .ok (.aload_n 0, 1) := by decide +kernel
theorem dX12_differ_64 : decode cX12_differ 64 = .ok (.iload 4, 2) := by decide +kernel
theorem dX12_differ_66 : decode cX12_differ 66 = .ok (.iload_n 1, 1) := by decide +kernel
theorem dX12_differ_67 : decode cX12_differ 67 = .ok (.invokevirtual 327, 3) := by decide +kernel
theorem dX12_differ_70 : decode cX12_differ 70 = .ok (.aload_n 0, 1) := by decide +kernel
theorem dX12_differ_71 : decode cX12_differ 71 = .ok (.iload 5, 2) := by decide +kernel
theorem dX12_differ_73 : decode cX12_differ 73 = .ok (.iload_n 1, 1) := by decide +kernel
theorem dX12_differ_74 : decode cX12_differ 74 = .ok (.invokevirtual 327, 3) := by decide +kernel
theorem dX12_differ_77 : decode cX12_differ 77 = .ok (.if_icmp .le 24, 3) := by decide +kernel
theorem dX12_differ_80 : decode cX12_differ 80 = .ok (.aload_n 0, 1) := by decide +kernel
theorem dX12_differ_81 : decode cX12_differ 81 = .ok (.iload 4, 2) := by decide +kernel
theorem dX12_differ_83 : decode cX12_differ 83 = .ok (.iload_n 2, 1) := by decide +kernel
theorem dX12_differ_84 : decode cX12_differ 84 = .ok (.invokevirtual 327, 3) := by decide +kernel
theorem dX12_differ_87 : decode cX12_differ 87 = .ok (.aload_n 0, 1) := by decide +kernel
theorem dX12_differ_88 : decode cX12_differ 88 = .ok (.iload 5, 2) := by decide +kernel
theorem dX12_differ_90 : decode cX12_differ 90 = .ok (.iload_n 2, 1) := by decide +kernel
theorem dX12_differ_91 : decode cX12_differ 91 = .ok (.invokevirtual 327, 3) := by decide +kernel
theorem dX12_differ_94 : decode cX12_differ 94 = .ok (.if_icmp .ge 7, 3) := by decide +kernel
theorem dX12_differ_97 : decode cX12_differ 97 = .ok (.iconst 1, 1) := by decide +kernel
theorem dX12_differ_98 : decode cX12_differ 98 = .ok (.goto 4, 3) := by decide +kernel
theorem dX12_differ_101 : decode cX12_differ 101 = .ok (.iconst 0, 1) := by decide +kernel
theorem dX12_differ_102 : decode cX12_differ 102 = .ok (.iadd, 1) := by decide +kernel
theorem dX12_differ_103 : decode cX12_differ 103 = .ok (.istore_n 3, 1) := by decide +kernel
theorem dX12_differ_104 : decode cX12_differ 104 = .ok (.iinc 5 1, 3) := by decide +kernel
theorem dX12_differ_107 : decode cX12_differ 107 = .ok (.goto (-56), 3) := by decide +kernel
theorem dX12_differ_110 : decode cX12_differ 110 = .ok (.iinc 4 1, 3) := by decide +kernel
theorem dX12_differ_113 : decode cX12_differ 113 = .ok (.goto (-76), 3) := by decide +kernel
theorem dX12_differ_116 : decode cX12_differ 116 = .ok (.iload_n 3, 1) := by decide +kernel
theorem dX12_differ_117 : decode cX12_differ 117 = .ok (.ireturn, 1) := by decide +kernel
theorem dX12_laysTold_0 : decode cX12_laysTold 0 = .ok (.iconst 0, 1) := by decide +kernel
theorem dX12_laysTold_1 : decode cX12_laysTold 1 = .ok (.istore_n 1, 1) := by decide +kernel
theorem dX12_laysTold_2 : decode cX12_laysTold 2 = .ok (.iload_n 1, 1) := by decide +kernel
theorem dX12_laysTold_3 : decode cX12_laysTold 3 = .ok (.iconst 1, 1) := by decide +kernel
theorem dX12_laysTold_4 : decode cX12_laysTold 4 = .ok (.aload_n 0, 1) := by decide +kernel
theorem dX12_laysTold_5 : decode cX12_laysTold 5 = .ok (.getfield 13, 3) := by decide +kernel
theorem dX12_laysTold_8 : decode cX12_laysTold 8 = .ok (.iconst 2, 1) := by decide +kernel
theorem dX12_laysTold_9 : decode cX12_laysTold 9 = .ok (.iaload, 1) := by decide +kernel
theorem dX12_laysTold_10 : decode cX12_laysTold 10 = .ok (.ishl, 1) := by decide +kernel
theorem dX12_laysTold_11 : decode cX12_laysTold 11 = .ok (.if_icmp .ge 42, 3) := by decide +kernel
theorem dX12_laysTold_14 : decode cX12_laysTold 14 = .ok (.aload_n 0, 1) := by decide +kernel
theorem dX12_laysTold_15 : decode cX12_laysTold 15 = .ok (.iload_n 1, 1) := by decide +kernel
theorem dX12_laysTold_16 : decode cX12_laysTold 16 = .ok (.aload_n 0, 1) := by decide +kernel
theorem dX12_laysTold_17 : decode cX12_laysTold 17 = .ok (.getfield 13, 3) := by decide +kernel
theorem dX12_laysTold_20 : decode cX12_laysTold 20 = .ok (.iconst 4, 1) := by decide +kernel
theorem dX12_laysTold_21 : decode cX12_laysTold 21 = .ok (.iaload, 1) := by decide +kernel
theorem dX12_laysTold_22 : decode cX12_laysTold 22 = .ok (.invokevirtual 232, 3) := by decide +kernel
theorem dX12_laysTold_25 : decode cX12_laysTold 25 = .ok (.istore_n 2, 1) := by decide +kernel
theorem dX12_laysTold_26 : decode cX12_laysTold 26 = .ok (.aload_n 0, 1) := by decide +kernel
theorem dX12_laysTold_27 : decode cX12_laysTold 27 = .ok (.getfield 48, 3) := by decide +kernel
theorem dX12_laysTold_30 : decode cX12_laysTold 30 = .ok (.iload_n 1, 1) := by decide +kernel
theorem dX12_laysTold_31 : decode cX12_laysTold 31 = .ok (.aload_n 0, 1) := by decide +kernel
theorem dX12_laysTold_32 : decode cX12_laysTold 32 = .ok (.iload_n 2, 1) := by decide +kernel
theorem dX12_laysTold_33 : decode cX12_laysTold 33 = .ok (.invokevirtual 251, 3) := by decide +kernel
theorem dX12_laysTold_36 : decode cX12_laysTold 36 = .ok (.iastore, 1) := by decide +kernel
theorem dX12_laysTold_37 : decode cX12_laysTold 37 = .ok (.aload_n 0, 1) := by decide +kernel
theorem dX12_laysTold_38 : decode cX12_laysTold 38 = .ok (.getfield 51, 3) := by decide +kernel
theorem dX12_laysTold_41 : decode cX12_laysTold 41 = .ok (.iload_n 1, 1) := by decide +kernel
theorem dX12_laysTold_42 : decode cX12_laysTold 42 = .ok (.iload_n 2, 1) := by decide +kernel
theorem dX12_laysTold_43 : decode cX12_laysTold 43 = .ok (.invokestatic 266, 3) := by decide +kernel
theorem dX12_laysTold_46 : decode cX12_laysTold 46 = .ok (.iastore, 1) := by decide +kernel
theorem dX12_laysTold_47 : decode cX12_laysTold 47 = .ok (.iinc 1 1, 3) := by decide +kernel
theorem dX12_laysTold_50 : decode cX12_laysTold 50 = .ok (.goto (-48), 3) := by decide +kernel
theorem dX12_laysTold_53 : decode cX12_laysTold 53 = .ok (.iconst 0, 1) := by decide +kernel
theorem dX12_laysTold_54 : decode cX12_laysTold 54 = .ok (.istore_n 1, 1) := by decide +kernel
theorem dX12_laysTold_55 : decode cX12_laysTold 55 = .ok (.iload_n 1, 1) := by decide +kernel
theorem dX12_laysTold_56 : decode cX12_laysTold 56 = .ok (.aload_n 0, 1) := by decide +kernel
theorem dX12_laysTold_57 : decode cX12_laysTold 57 = .ok (.getfield 13, 3) := by decide +kernel
theorem dX12_laysTold_60 : decode cX12_laysTold 60 = .ok (.iconst 3, 1) := by decide +kernel
theorem dX12_laysTold_61 : decode cX12_laysTold 61 = .ok (.iaload, 1) := by decide +kernel
theorem dX12_laysTold_62 : decode cX12_laysTold 62 = .ok (.if_icmp .ge 35, 3) := by decide +kernel
theorem dX12_laysTold_65 : decode cX12_laysTold 65 = .ok (.iconst 0, 1) := by decide +kernel
theorem dX12_laysTold_66 : decode cX12_laysTold 66 = .ok (.istore_n 2, 1) := by decide +kernel
theorem dX12_laysTold_67 : decode cX12_laysTold 67 = .ok (.iload_n 2, 1) := by decide +kernel
theorem dX12_laysTold_68 : decode cX12_laysTold 68 = .ok (.iconst 1, 1) := by decide +kernel
theorem dX12_laysTold_69 : decode cX12_laysTold 69 = .ok (.aload_n 0, 1) := by decide +kernel
theorem dX12_laysTold_70 : decode cX12_laysTold 70 = .ok (.getfield 13, 3) := by decide +kernel
theorem dX12_laysTold_73 : decode cX12_laysTold 73 = .ok (.iconst 2, 1) := by decide +kernel
theorem dX12_laysTold_74 : decode cX12_laysTold 74 = .ok (.iaload, 1) := by decide +kernel
theorem dX12_laysTold_75 : decode cX12_laysTold 75 = .ok (.ishl, 1) := by decide +kernel
theorem dX12_laysTold_76 : decode cX12_laysTold 76 = .ok (.if_icmp .ge 15, 3) := by decide +kernel
theorem dX12_laysTold_79 : decode cX12_laysTold 79 = .ok (.aload_n 0, 1) := by decide +kernel
theorem dX12_laysTold_80 : decode cX12_laysTold 80 = .ok (.iload_n 1, 1) := by decide +kernel
theorem dX12_laysTold_81 : decode cX12_laysTold 81 = .ok (.iload_n 2, 1) := by decide +kernel
theorem dX12_laysTold_82 : decode cX12_laysTold 82 = .ok (.invokevirtual 330, 3) := by decide +kernel
theorem dX12_laysTold_85 : decode cX12_laysTold 85 = .ok (.iinc 2 1, 3) := by decide +kernel
theorem dX12_laysTold_88 : decode cX12_laysTold 88 = .ok (.goto (-21), 3) := by decide +kernel
theorem dX12_laysTold_91 : decode cX12_laysTold 91 = .ok (.iinc 1 1, 3) := by decide +kernel
theorem dX12_laysTold_94 : decode cX12_laysTold 94 = .ok (.goto (-39), 3) := by decide +kernel
theorem dX12_laysTold_97 : decode cX12_laysTold 97 = .ok (.return_, 1) := by decide +kernel
theorem dX12_couldBe_0 : decode cX12_couldBe 0 = .ok (.bipush 99, 2) := by decide +kernel
theorem dX12_couldBe_2 : decode cX12_couldBe 2 = .ok (.istore_n 3, 1) := by decide +kernel
theorem dX12_couldBe_3 : decode cX12_couldBe 3 = .ok (.iconst 0, 1) := by decide +kernel
theorem dX12_couldBe_4 : decode cX12_couldBe 4 = .ok (.istore 4, 2) := by decide +kernel
theorem dX12_couldBe_6 : decode cX12_couldBe 6 = .ok (.aload_n 0, 1) := by decide +kernel
theorem dX12_couldBe_7 : decode cX12_couldBe 7 = .ok (.getfield 48, 3) := by decide +kernel
theorem dX12_couldBe_10 : decode cX12_couldBe 10 = .ok (.aload_n 0, 1) := by decide +kernel
theorem dX12_couldBe_11 : decode cX12_couldBe 11 = .ok (.getfield 13, 3) := by decide +kernel
theorem dX12_couldBe_14 : decode cX12_couldBe 14 = .ok (.iconst 5, 1) := by decide +kernel
theorem dX12_couldBe_15 : decode cX12_couldBe 15 = .ok (.iload_n 1, 1) := by decide +kernel
theorem dX12_couldBe_16 : decode cX12_couldBe 16 = .ok (.iadd, 1) := by decide +kernel
theorem dX12_couldBe_17 : decode cX12_couldBe 17 = .ok (.iaload, 1) := by decide +kernel
theorem dX12_couldBe_18 : decode cX12_couldBe 18 = .ok (.iaload, 1) := by decide +kernel
theorem dX12_couldBe_19 : decode cX12_couldBe 19 = .ok (.istore 5, 2) := by decide +kernel
theorem dX12_couldBe_21 : decode cX12_couldBe 21 = .ok (.iconst 0, 1) := by decide +kernel
theorem dX12_couldBe_22 : decode cX12_couldBe 22 = .ok (.istore 6, 2) := by decide +kernel
theorem dX12_couldBe_24 : decode cX12_couldBe 24 = .ok (.iload 6, 2) := by decide +kernel
theorem dX12_couldBe_26 : decode cX12_couldBe 26 = .ok (.iconst 1, 1) := by decide +kernel
theorem dX12_couldBe_27 : decode cX12_couldBe 27 = .ok (.aload_n 0, 1) := by decide +kernel
theorem dX12_couldBe_28 : decode cX12_couldBe 28 = .ok (.getfield 13, 3) := by decide +kernel
theorem dX12_couldBe_31 : decode cX12_couldBe 31 = .ok (.iconst 2, 1) := by decide +kernel
theorem dX12_couldBe_32 : decode cX12_couldBe 32 = .ok (.iaload, 1) := by decide +kernel
theorem dX12_couldBe_33 : decode cX12_couldBe 33 = .ok (.ishl, 1) := by decide +kernel
theorem dX12_couldBe_34 : decode cX12_couldBe 34 = .ok (.if_icmp .ge 76, 3) := by decide +kernel
theorem dX12_couldBe_37 : decode cX12_couldBe 37 = .ok (.aload_n 0, 1) := by decide +kernel
theorem dX12_couldBe_38 : decode cX12_couldBe 38 = .ok (.getfield 48, 3) := by decide +kernel
theorem dX12_couldBe_41 : decode cX12_couldBe 41 = .ok (.iload 6, 2) := by decide +kernel
theorem dX12_couldBe_43 : decode cX12_couldBe 43 = .ok (.iaload, 1) := by decide +kernel
theorem dX12_couldBe_44 : decode cX12_couldBe 44 = .ok (.iload 5, 2) := by decide +kernel
theorem dX12_couldBe_46 : decode cX12_couldBe 46 = .ok (.ixor, 1) := by decide +kernel
theorem dX12_couldBe_47 : decode cX12_couldBe 47 = .ok (.iload_n 2, 1) := by decide +kernel
theorem dX12_couldBe_48 : decode cX12_couldBe 48 = .ok (.iand, 1) := by decide +kernel
theorem dX12_couldBe_49 : decode cX12_couldBe 49 = .ok (.ifCond .eq 6, 3) := by decide +kernel
theorem dX12_couldBe_52 : decode cX12_couldBe 52 = .ok (.goto 52, 3) := by decide +kernel
theorem dX12_couldBe_55 : decode cX12_couldBe 55 = .ok (.aload_n 0, 1) := by decide +kernel
theorem dX12_couldBe_56 : decode cX12_couldBe 56 = .ok (.getfield 51, 3) := by decide +kernel
theorem dX12_couldBe_59 : decode cX12_couldBe 59 = .ok (.iload 6, 2) := by decide +kernel
theorem dX12_couldBe_61 : decode cX12_couldBe 61 = .ok (.iaload, 1) := by decide +kernel
theorem dX12_couldBe_62 : decode cX12_couldBe 62 = .ok (.iload_n 3, 1) := by decide +kernel
theorem dX12_couldBe_63 : decode cX12_couldBe 63 = .ok (.if_icmp .ge 13, 3) := by decide +kernel
theorem dX12_couldBe_66 : decode cX12_couldBe 66 = .ok (.aload_n 0, 1) := by decide +kernel
theorem dX12_couldBe_67 : decode cX12_couldBe 67 = .ok (.getfield 51, 3) := by decide +kernel
theorem dX12_couldBe_70 : decode cX12_couldBe 70 = .ok (.iload 6, 2) := by decide +kernel
theorem dX12_couldBe_72 : decode cX12_couldBe 72 = .ok (.iaload, 1) := by decide +kernel
theorem dX12_couldBe_73 : decode cX12_couldBe 73 = .ok (.goto 4, 3) := by decide +kernel
theorem dX12_couldBe_76 : decode cX12_couldBe 76 = .ok (.iload_n 3, 1) := by decide +kernel
theorem dX12_couldBe_77 : decode cX12_couldBe 77 = .ok (.istore_n 3, 1) := by decide +kernel
theorem dX12_couldBe_78 : decode cX12_couldBe 78 = .ok (.aload_n 0, 1) := by decide +kernel
theorem dX12_couldBe_79 : decode cX12_couldBe 79 = .ok (.getfield 51, 3) := by decide +kernel
theorem dX12_couldBe_82 : decode cX12_couldBe 82 = .ok (.iload 6, 2) := by decide +kernel
theorem dX12_couldBe_84 : decode cX12_couldBe 84 = .ok (.iaload, 1) := by decide +kernel
theorem dX12_couldBe_85 : decode cX12_couldBe 85 = .ok (.iload 4, 2) := by decide +kernel
theorem dX12_couldBe_87 : decode cX12_couldBe 87 = .ok (.if_icmp .le 13, 3) := by decide +kernel
theorem dX12_couldBe_90 : decode cX12_couldBe 90 = .ok (.aload_n 0, 1) := by decide +kernel
theorem dX12_couldBe_91 : decode cX12_couldBe 91 = .ok (.getfield 51, 3) := by decide +kernel
theorem dX12_couldBe_94 : decode cX12_couldBe 94 = .ok (.iload 6, 2) := by decide +kernel
theorem dX12_couldBe_96 : decode cX12_couldBe 96 = .ok (.iaload, 1) := by decide +kernel
theorem dX12_couldBe_97 : decode cX12_couldBe 97 = .ok (.goto 5, 3) := by decide +kernel
theorem dX12_couldBe_100 : decode cX12_couldBe 100 = .ok (.iload 4, 2) := by decide +kernel
theorem dX12_couldBe_102 : decode cX12_couldBe 102 = .ok (.istore 4, 2) := by decide +kernel
theorem dX12_couldBe_104 : decode cX12_couldBe 104 = .ok (.iinc 6 1, 3) := by decide +kernel
theorem dX12_couldBe_107 : decode cX12_couldBe 107 = .ok (.goto (-83), 3) := by decide +kernel
theorem dX12_couldBe_110 : decode cX12_couldBe 110 = .ok (.aload_n 0, 1) := by decide +kernel
theorem dX12_couldBe_111 : decode cX12_couldBe 111 = .ok (.getfield 54, 3) := by decide +kernel
theorem dX12_couldBe_114 : decode cX12_couldBe 114 = .ok (.sipush 256, 3) := by decide +kernel
theorem dX12_couldBe_117 : decode cX12_couldBe 117 = .ok (.iload_n 1, 1) := by decide +kernel
theorem dX12_couldBe_118 : decode cX12_couldBe 118 = .ok (.imul, 1) := by decide +kernel
theorem dX12_couldBe_119 : decode cX12_couldBe 119 = .ok (.iload_n 2, 1) := by decide +kernel
theorem dX12_couldBe_120 : decode cX12_couldBe 120 = .ok (.iadd, 1) := by decide +kernel
theorem dX12_couldBe_121 : decode cX12_couldBe 121 = .ok (.iload_n 3, 1) := by decide +kernel
theorem dX12_couldBe_122 : decode cX12_couldBe 122 = .ok (.iastore, 1) := by decide +kernel
theorem dX12_couldBe_123 : decode cX12_couldBe 123 = .ok (.aload_n 0, 1) := by decide +kernel
theorem dX12_couldBe_124 : decode cX12_couldBe 124 = .ok (.getfield 57, 3) := by decide +kernel
theorem dX12_couldBe_127 : decode cX12_couldBe 127 = .ok (.sipush 256, 3) := by decide +kernel
theorem dX12_couldBe_130 : decode cX12_couldBe 130 = .ok (.iload_n 1, 1) := by decide +kernel
theorem dX12_couldBe_131 : decode cX12_couldBe 131 = .ok (.imul, 1) := by decide +kernel
theorem dX12_couldBe_132 : decode cX12_couldBe 132 = .ok (.iload_n 2, 1) := by decide +kernel
theorem dX12_couldBe_133 : decode cX12_couldBe 133 = .ok (.iadd, 1) := by decide +kernel
theorem dX12_couldBe_134 : decode cX12_couldBe 134 = .ok (.iload 4, 2) := by decide +kernel
theorem dX12_couldBe_136 : decode cX12_couldBe 136 = .ok (.iastore, 1) := by decide +kernel
theorem dX12_couldBe_137 : decode cX12_couldBe 137 = .ok (.return_, 1) := by decide +kernel
theorem dX12_askedMany_0 : decode cX12_askedMany 0 = .ok (.iconst 0, 1) := by decide +kernel
theorem dX12_askedMany_1 : decode cX12_askedMany 1 = .ok (.istore_n 2, 1) := by decide +kernel
theorem dX12_askedMany_2 : decode cX12_askedMany 2 = .ok (.iconst 0, 1) := by decide +kernel
theorem dX12_askedMany_3 : decode cX12_askedMany 3 = .ok (.istore_n 3, 1) := by decide +kernel
theorem dX12_askedMany_4 : decode cX12_askedMany 4 = .ok (.iload_n 3, 1) := by decide +kernel
theorem dX12_askedMany_5 : decode cX12_askedMany 5 = .ok (.aload_n 0, 1) := by decide +kernel
theorem dX12_askedMany_6 : decode cX12_askedMany 6 = .ok (.getfield 13, 3) := by decide +kernel
theorem dX12_askedMany_9 : decode cX12_askedMany 9 = .ok (.iconst 3, 1) := by decide +kernel
theorem dX12_askedMany_10 : decode cX12_askedMany 10 = .ok (.iaload, 1) := by decide +kernel
theorem dX12_askedMany_11 : decode cX12_askedMany 11 = .ok (.if_icmp .ge 18, 3) := by decide +kernel
theorem dX12_askedMany_14 : decode cX12_askedMany 14 = .ok (.iload_n 2, 1) := by decide +kernel
theorem dX12_askedMany_15 : decode cX12_askedMany 15 = .ok (.aload_n 1, 1) := by decide +kernel
theorem dX12_askedMany_16 : decode cX12_askedMany 16 = .ok (.iload_n 3, 1) := by decide +kernel
theorem dX12_askedMany_17 : decode cX12_askedMany 17 = .ok (.iaload, 1) := by decide +kernel
theorem dX12_askedMany_18 : decode cX12_askedMany 18 = .ok (.invokestatic 266, 3) := by decide +kernel
theorem dX12_askedMany_21 : decode cX12_askedMany 21 = .ok (.iadd, 1) := by decide +kernel
theorem dX12_askedMany_22 : decode cX12_askedMany 22 = .ok (.istore_n 2, 1) := by decide +kernel
theorem dX12_askedMany_23 : decode cX12_askedMany 23 = .ok (.iinc 3 1, 3) := by decide +kernel
theorem dX12_askedMany_26 : decode cX12_askedMany 26 = .ok (.goto (-22), 3) := by decide +kernel
theorem dX12_askedMany_29 : decode cX12_askedMany 29 = .ok (.iload_n 2, 1) := by decide +kernel
theorem dX12_askedMany_30 : decode cX12_askedMany 30 = .ok (.ireturn, 1) := by decide +kernel
theorem dX12_isBetter_0 : decode cX12_isBetter 0 = .ok (.aload_n 0, 1) := by decide +kernel
theorem dX12_isBetter_1 : decode cX12_isBetter 1 = .ok (.aload_n 0, 1) := by decide +kernel
theorem dX12_isBetter_2 : decode cX12_isBetter 2 = .ok (.getfield 60, 3) := by decide +kernel
theorem dX12_isBetter_5 : decode cX12_isBetter 5 = .ok (.invokevirtual 334, 3) := by decide +kernel
theorem dX12_isBetter_8 : decode cX12_isBetter 8 = .ok (.aload_n 0, 1) := by decide +kernel
theorem dX12_isBetter_9 : decode cX12_isBetter 9 = .ok (.aload_n 0, 1) := by decide +kernel
theorem dX12_isBetter_10 : decode cX12_isBetter 10 = .ok (.getfield 63, 3) := by decide +kernel
theorem dX12_isBetter_13 : decode cX12_isBetter 13 = .ok (.invokevirtual 334, 3) := by decide +kernel
theorem dX12_isBetter_16 : decode cX12_isBetter 16 = .ok (.isub, 1) := by decide +kernel
theorem dX12_isBetter_17 : decode cX12_isBetter 17 = .ok (.istore_n 1, 1) := by decide +kernel
theorem dX12_isBetter_18 : decode cX12_isBetter 18 = .ok (.iconst 0, 1) := by decide +kernel
theorem dX12_isBetter_19 : decode cX12_isBetter 19 = .ok (.istore_n 2, 1) := by decide +kernel
theorem dX12_isBetter_20 : decode cX12_isBetter 20 = .ok (.iload_n 2, 1) := by decide +kernel
theorem dX12_isBetter_21 : decode cX12_isBetter 21 = .ok (.aload_n 0, 1) := by decide +kernel
theorem dX12_isBetter_22 : decode cX12_isBetter 22 = .ok (.getfield 13, 3) := by decide +kernel
theorem dX12_isBetter_25 : decode cX12_isBetter 25 = .ok (.iconst 3, 1) := by decide +kernel
theorem dX12_isBetter_26 : decode cX12_isBetter 26 = .ok (.iaload, 1) := by decide +kernel
theorem dX12_isBetter_27 : decode cX12_isBetter 27 = .ok (.if_icmp .ge 27, 3) := by decide +kernel
theorem dX12_isBetter_30 : decode cX12_isBetter 30 = .ok (.iload_n 1, 1) := by decide +kernel
theorem dX12_isBetter_31 : decode cX12_isBetter 31 = .ok (.ifCond .ne 23, 3) := by decide +kernel
theorem dX12_isBetter_34 : decode cX12_isBetter 34 = .ok (.aload_n 0, 1) := by decide +kernel
theorem dX12_isBetter_35 : decode cX12_isBetter 35 = .ok (.getfield 60, 3) := by decide +kernel
theorem dX12_isBetter_38 : decode cX12_isBetter 38 = .ok (.iload_n 2, 1) := by decide +kernel
theorem dX12_isBetter_39 : decode cX12_isBetter 39 = .ok (.iaload, 1) := by decide +kernel
theorem dX12_isBetter_40 : decode cX12_isBetter 40 = .ok (.aload_n 0, 1) := by decide +kernel
theorem dX12_isBetter_41 : decode cX12_isBetter 41 = .ok (.getfield 63, 3) := by decide +kernel
theorem dX12_isBetter_44 : decode cX12_isBetter 44 = .ok (.iload_n 2, 1) := by decide +kernel
theorem dX12_isBetter_45 : decode cX12_isBetter 45 = .ok (.iaload, 1) := by decide +kernel
theorem dX12_isBetter_46 : decode cX12_isBetter 46 = .ok (.isub, 1) := by decide +kernel
theorem dX12_isBetter_47 : decode cX12_isBetter 47 = .ok (.istore_n 1, 1) := by decide +kernel
theorem dX12_isBetter_48 : decode cX12_isBetter 48 = .ok (.iinc 2 1, 3) := by decide +kernel
theorem dX12_isBetter_51 : decode cX12_isBetter 51 = .ok (.goto (-31), 3) := by decide +kernel
theorem dX12_isBetter_54 : decode cX12_isBetter 54 = .ok (.iload_n 1, 1) := by decide +kernel
theorem dX12_isBetter_55 : decode cX12_isBetter 55 = .ok (.ifCond .ge 7, 3) := by decide +kernel
theorem dX12_isBetter_58 : decode cX12_isBetter 58 = .ok (.iconst 1, 1) := by decide +kernel
theorem dX12_isBetter_59 : decode cX12_isBetter 59 = .ok (.goto 4, 3) := by decide +kernel
theorem dX12_isBetter_62 : decode cX12_isBetter 62 = .ok (.iconst 0, 1) := by decide +kernel
theorem dX12_isBetter_63 : decode cX12_isBetter 63 = .ok (.ireturn, 1) := by decide +kernel
theorem dX12_askedFor_0 : decode cX12_askedFor 0 = .ok (.iconst (-1), 1) := by decide +kernel
theorem dX12_askedFor_1 : decode cX12_askedFor 1 = .ok (.istore_n 3, 1) := by decide +kernel
theorem dX12_askedFor_2 : decode cX12_askedFor 2 = .ok (.iconst 0, 1) := by decide +kernel
theorem dX12_askedFor_3 : decode cX12_askedFor 3 = .ok (.istore 4, 2) := by decide +kernel
theorem dX12_askedFor_5 : decode cX12_askedFor 5 = .ok (.iload 4, 2) := by decide +kernel
theorem dX12_askedFor_7 : decode cX12_askedFor 7 = .ok (.iconst 1, 1) := by decide +kernel
theorem dX12_askedFor_8 : decode cX12_askedFor 8 = .ok (.aload_n 0, 1) := by decide +kernel
theorem dX12_askedFor_9 : decode cX12_askedFor 9 = .ok (.getfield 13, 3) := by decide +kernel
theorem dX12_askedFor_12 : decode cX12_askedFor 12 = .ok (.iconst 2, 1) := by decide +kernel
theorem dX12_askedFor_13 : decode cX12_askedFor 13 = .ok (.iaload, 1) := by decide +kernel
theorem dX12_askedFor_14 : decode cX12_askedFor 14 = .ok (.ishl, 1) := by decide +kernel
theorem dX12_askedFor_15 : decode cX12_askedFor 15 = .ok (.if_icmp .ge 46, 3) := by decide +kernel
theorem dX12_askedFor_18 : decode cX12_askedFor 18 = .ok (.iload_n 3, 1) := by decide +kernel
theorem dX12_askedFor_19 : decode cX12_askedFor 19 = .ok (.iconst (-1), 1) := by decide +kernel
theorem dX12_askedFor_20 : decode cX12_askedFor 20 = .ok (.if_icmp .eq 15, 3) := by decide +kernel
theorem dX12_askedFor_23 : decode cX12_askedFor 23 = .ok (.iload 4, 2) := by decide +kernel
theorem dX12_askedFor_25 : decode cX12_askedFor 25 = .ok (.invokestatic 266, 3) := by decide +kernel
theorem dX12_askedFor_28 : decode cX12_askedFor 28 = .ok (.iload_n 3, 1) := by decide +kernel
theorem dX12_askedFor_29 : decode cX12_askedFor 29 = .ok (.invokestatic 266, 3) := by decide +kernel
theorem dX12_askedFor_32 : decode cX12_askedFor 32 = .ok (.if_icmp .ge 23, 3) := by decide +kernel
theorem dX12_askedFor_35 : decode cX12_askedFor 35 = .ok (.aload_n 0, 1) := by decide +kernel
theorem dX12_askedFor_36 : decode cX12_askedFor 36 = .ok (.getfield 57, 3) := by decide +kernel
theorem dX12_askedFor_39 : decode cX12_askedFor 39 = .ok (.sipush 256, 3) := by decide +kernel
theorem dX12_askedFor_42 : decode cX12_askedFor 42 = .ok (.iload_n 1, 1) := by decide +kernel
theorem dX12_askedFor_43 : decode cX12_askedFor 43 = .ok (.imul, 1) := by decide +kernel
theorem dX12_askedFor_44 : decode cX12_askedFor 44 = .ok (.iload 4, 2) := by decide +kernel
theorem dX12_askedFor_46 : decode cX12_askedFor 46 = .ok (.iadd, 1) := by decide +kernel
theorem dX12_askedFor_47 : decode cX12_askedFor 47 = .ok (.iaload, 1) := by decide +kernel
theorem dX12_askedFor_48 : decode cX12_askedFor 48 = .ok (.iload_n 2, 1) := by decide +kernel
theorem dX12_askedFor_49 : decode cX12_askedFor 49 = .ok (.if_icmp .gt 6, 3) := by decide +kernel
theorem dX12_askedFor_52 : decode cX12_askedFor 52 = .ok (.iload 4, 2) := by decide +kernel
theorem dX12_askedFor_54 : decode cX12_askedFor 54 = .ok (.istore_n 3, 1) := by decide +kernel
theorem dX12_askedFor_55 : decode cX12_askedFor 55 = .ok (.iinc 4 1, 3) := by decide +kernel
theorem dX12_askedFor_58 : decode cX12_askedFor 58 = .ok (.goto (-53), 3) := by decide +kernel
theorem dX12_askedFor_61 : decode cX12_askedFor 61 = .ok (.iload_n 3, 1) := by decide +kernel
theorem dX12_askedFor_62 : decode cX12_askedFor 62 = .ok (.ireturn, 1) := by decide +kernel
theorem dX12_laysShown_0 : decode cX12_laysShown 0 = .ok (.aload_n 0, 1) := by decide +kernel
theorem dX12_laysShown_1 : decode cX12_laysShown 1 = .ok (.invokevirtual 338, 3) := by decide +kernel
theorem dX12_laysShown_4 : decode cX12_laysShown 4 = .ok (.iconst 0, 1) := by decide +kernel
theorem dX12_laysShown_5 : decode cX12_laysShown 5 = .ok (.istore_n 2, 1) := by decide +kernel
theorem dX12_laysShown_6 : decode cX12_laysShown 6 = .ok (.iconst 0, 1) := by decide +kernel
theorem dX12_laysShown_7 : decode cX12_laysShown 7 = .ok (.istore_n 3, 1) := by decide +kernel
theorem dX12_laysShown_8 : decode cX12_laysShown 8 = .ok (.iload_n 3, 1) := by decide +kernel
theorem dX12_laysShown_9 : decode cX12_laysShown 9 = .ok (.iconst 1, 1) := by decide +kernel
theorem dX12_laysShown_10 : decode cX12_laysShown 10 = .ok (.aload_n 0, 1) := by decide +kernel
theorem dX12_laysShown_11 : decode cX12_laysShown 11 = .ok (.getfield 13, 3) := by decide +kernel
theorem dX12_laysShown_14 : decode cX12_laysShown 14 = .ok (.iconst 2, 1) := by decide +kernel
theorem dX12_laysShown_15 : decode cX12_laysShown 15 = .ok (.iaload, 1) := by decide +kernel
theorem dX12_laysShown_16 : decode cX12_laysShown 16 = .ok (.ishl, 1) := by decide +kernel
theorem dX12_laysShown_17 : decode cX12_laysShown 17 = .ok (.if_icmp .ge 149, 3) := by decide +kernel
theorem dX12_laysShown_20 : decode cX12_laysShown 20 = .ok (.aload_n 0, 1) := by decide +kernel
theorem dX12_laysShown_21 : decode cX12_laysShown 21 = .ok (.getfield 54, 3) := by decide +kernel
theorem dX12_laysShown_24 : decode cX12_laysShown 24 = .ok (.sipush 256, 3) := by decide +kernel
theorem dX12_laysShown_27 : decode cX12_laysShown 27 = .ok (.iload_n 1, 1) := by decide +kernel
theorem dX12_laysShown_28 : decode cX12_laysShown 28 = .ok (.imul, 1) := by decide +kernel
theorem dX12_laysShown_29 : decode cX12_laysShown 29 = .ok (.iload_n 3, 1) := by decide +kernel
theorem dX12_laysShown_30 : decode cX12_laysShown 30 = .ok (.iadd, 1) := by decide +kernel
theorem dX12_laysShown_31 : decode cX12_laysShown 31 = .ok (.iaload, 1) := by decide +kernel
theorem dX12_laysShown_32 : decode cX12_laysShown 32 = .ok (.istore 4, 2) := by decide +kernel
theorem dX12_laysShown_34 : decode cX12_laysShown 34 = .ok (.iconst 1, 1) := by decide +kernel
theorem dX12_laysShown_35 : decode cX12_laysShown 35 = .ok (.istore 5, 2) := by decide +kernel
theorem dX12_laysShown_37 : decode cX12_laysShown 37 = .ok (.iconst 0, 1) := by decide +kernel
theorem dX12_laysShown_38 : decode cX12_laysShown 38 = .ok (.istore 6, 2) := by decide +kernel
theorem dX12_laysShown_40 : decode cX12_laysShown 40 = .ok (.iload 6, 2) := by decide +kernel
theorem dX12_laysShown_42 : decode cX12_laysShown 42 = .ok (.aload_n 0, 1) := by decide +kernel
theorem dX12_laysShown_43 : decode cX12_laysShown 43 = .ok (.getfield 13, 3) := by decide +kernel
theorem dX12_laysShown_46 : decode cX12_laysShown 46 = .ok (.iconst 3, 1) := by decide +kernel
theorem dX12_laysShown_47 : decode cX12_laysShown 47 = .ok (.iaload, 1) := by decide +kernel
theorem dX12_laysShown_48 : decode cX12_laysShown 48 = .ok (.if_icmp .ge 57, 3) := by decide +kernel
theorem dX12_laysShown_51 : decode cX12_laysShown 51 = .ok (.iload 5, 2) := by decide +kernel
theorem dX12_laysShown_53 : decode cX12_laysShown 53 = .ok (.ifCond .eq 52, 3) := by decide +kernel
theorem dX12_laysShown_56 : decode cX12_laysShown 56 = .ok (.aload_n 0, 1) := by decide +kernel
theorem dX12_laysShown_57 : decode cX12_laysShown 57 = .ok (.getfield 60, 3) := by decide +kernel
theorem dX12_laysShown_60 : decode cX12_laysShown 60 = .ok (.iload 6, 2) := by decide +kernel
theorem dX12_laysShown_62 : decode cX12_laysShown 62 = .ok (.iload 6, 2) := by decide +kernel
theorem dX12_laysShown_64 : decode cX12_laysShown 64 = .ok (.iload_n 1, 1) := by decide +kernel
theorem dX12_laysShown_65 : decode cX12_laysShown 65 = .ok (.if_icmp .ne 7, 3) := by decide +kernel
theorem dX12_laysShown_68 : decode cX12_laysShown 68 = .ok (.iload_n 3, 1) := by decide +kernel
theorem dX12_laysShown_69 : decode cX12_laysShown 69 = .ok (.goto 11, 3) := by decide +kernel
theorem dX12_laysShown_72 : decode cX12_laysShown 72 = .ok (.aload_n 0, 1) := by decide +kernel
theorem dX12_laysShown_73 : decode cX12_laysShown 73 = .ok (.iload 6, 2) := by decide +kernel
theorem dX12_laysShown_75 : decode cX12_laysShown 75 = .ok (.iload 4, 2) := by decide +kernel
theorem dX12_laysShown_77 : decode cX12_laysShown 77 = .ok (.invokevirtual 341, 3) := by decide +kernel
theorem dX12_laysShown_80 : decode cX12_laysShown 80 = .ok (.iastore, 1) := by decide +kernel
theorem dX12_laysShown_81 : decode cX12_laysShown 81 = .ok (.aload_n 0, 1) := by decide +kernel
theorem dX12_laysShown_82 : decode cX12_laysShown 82 = .ok (.getfield 60, 3) := by decide +kernel
theorem dX12_laysShown_85 : decode cX12_laysShown 85 = .ok (.iload 6, 2) := by decide +kernel
theorem dX12_laysShown_87 : decode cX12_laysShown 87 = .ok (.iaload, 1) := by decide +kernel
theorem dX12_laysShown_88 : decode cX12_laysShown 88 = .ok (.iconst (-1), 1) := by decide +kernel
theorem dX12_laysShown_89 : decode cX12_laysShown 89 = .ok (.if_icmp .eq 7, 3) := by decide +kernel
theorem dX12_laysShown_92 : decode cX12_laysShown 92 = .ok (.iconst 1, 1) := by decide +kernel
theorem dX12_laysShown_93 : decode cX12_laysShown 93 = .ok (.goto 4, 3) := by decide +kernel
theorem dX12_laysShown_96 : decode cX12_laysShown 96 = .ok (.iconst 0, 1) := by decide +kernel
theorem dX12_laysShown_97 : decode cX12_laysShown 97 = .ok (.istore 5, 2) := by decide +kernel
theorem dX12_laysShown_99 : decode cX12_laysShown 99 = .ok (.iinc 6 1, 3) := by decide +kernel
theorem dX12_laysShown_102 : decode cX12_laysShown 102 = .ok (.goto (-62), 3) := by decide +kernel
theorem dX12_laysShown_105 : decode cX12_laysShown 105 = .ok (.iload 5, 2) := by decide +kernel
theorem dX12_laysShown_107 : decode cX12_laysShown 107 = .ok (.ifCond .eq 53, 3) := by decide +kernel
theorem dX12_laysShown_110 : decode cX12_laysShown 110 = .ok (.iload_n 2, 1) := by decide +kernel
theorem dX12_laysShown_111 : decode cX12_laysShown 111 = .ok (.ifCond .eq 13, 3) := by decide +kernel
theorem dX12_laysShown_114 : decode cX12_laysShown 114 = .ok (.aload_n 0, 1) := by decide +kernel
theorem dX12_laysShown_115 : decode cX12_laysShown 115 = .ok (.invokevirtual 344, 3) := by decide +kernel
theorem dX12_laysShown_118 : decode cX12_laysShown 118 = .ok (.ifCond .ne 6, 3) := by decide +kernel
theorem dX12_laysShown_121 : decode cX12_laysShown 121 = .ok (.goto 39, 3) := by decide +kernel
theorem dX12_laysShown_124 : decode cX12_laysShown 124 = .ok (.iconst 0, 1) := by decide +kernel
theorem dX12_laysShown_125 : decode cX12_laysShown 125 = .ok (.istore 6, 2) := by decide +kernel
theorem dX12_laysShown_127 : decode cX12_laysShown 127 = .ok (.iload 6, 2) := by decide +kernel
theorem dX12_laysShown_129 : decode cX12_laysShown 129 = .ok (.aload_n 0, 1) := by decide +kernel
theorem dX12_laysShown_130 : decode cX12_laysShown 130 = .ok (.getfield 13, 3) := by decide +kernel
theorem dX12_laysShown_133 : decode cX12_laysShown 133 = .ok (.iconst 3, 1) := by decide +kernel
theorem dX12_laysShown_134 : decode cX12_laysShown 134 = .ok (.iaload, 1) := by decide +kernel
theorem dX12_laysShown_135 : decode cX12_laysShown 135 = .ok (.if_icmp .ge 23, 3) := by decide +kernel
theorem dX12_laysShown_138 : decode cX12_laysShown 138 = .ok (.aload_n 0, 1) := by decide +kernel
theorem dX12_laysShown_139 : decode cX12_laysShown 139 = .ok (.getfield 63, 3) := by decide +kernel
theorem dX12_laysShown_142 : decode cX12_laysShown 142 = .ok (.iload 6, 2) := by decide +kernel
theorem dX12_laysShown_144 : decode cX12_laysShown 144 = .ok (.aload_n 0, 1) := by decide +kernel
theorem dX12_laysShown_145 : decode cX12_laysShown 145 = .ok (.getfield 60, 3) := by decide +kernel
theorem dX12_laysShown_148 : decode cX12_laysShown 148 = .ok (.iload 6, 2) := by decide +kernel
theorem dX12_laysShown_150 : decode cX12_laysShown 150 = .ok (.iaload, 1) := by decide +kernel
theorem dX12_laysShown_151 : decode cX12_laysShown 151 = .ok (.iastore, 1) := by decide +kernel
theorem dX12_laysShown_152 : decode cX12_laysShown 152 = .ok (.iinc 6 1, 3) := by decide +kernel
theorem dX12_laysShown_155 : decode cX12_laysShown 155 = .ok (.goto (-28), 3) := by decide +kernel
theorem dX12_laysShown_158 : decode cX12_laysShown 158 = .ok (.iconst 1, 1) := by decide +kernel
theorem dX12_laysShown_159 : decode cX12_laysShown 159 = .ok (.istore_n 2, 1) := by decide +kernel
theorem dX12_laysShown_160 : decode cX12_laysShown 160 = .ok (.iinc 3 1, 3) := by decide +kernel
theorem dX12_laysShown_163 : decode cX12_laysShown 163 = .ok (.goto (-155), 3) := by decide +kernel
theorem dX12_laysShown_166 : decode cX12_laysShown 166 = .ok (.iload_n 2, 1) := by decide +kernel
theorem dX12_laysShown_167 : decode cX12_laysShown 167 = .ok (.ireturn, 1) := by decide +kernel
theorem dX12_shown_0 : decode cX12_shown 0 = .ok (.aload_n 0, 1) := by decide +kernel
theorem dX12_shown_1 : decode cX12_shown 1 = .ok (.iconst 0, 1) := by decide +kernel
theorem dX12_shown_2 : decode cX12_shown 2 = .ok (.putfield 1, 3) := by decide +kernel
theorem dX12_shown_5 : decode cX12_shown 5 = .ok (.aload_n 0, 1) := by decide +kernel
theorem dX12_shown_6 : decode cX12_shown 6 = .ok (.iload_n 1, 1) := by decide +kernel
theorem dX12_shown_7 : decode cX12_shown 7 = .ok (.i2l, 1) := by decide +kernel
theorem dX12_shown_8 : decode cX12_shown 8 = .ok (.invokevirtual 245, 3) := by decide +kernel
theorem dX12_shown_11 : decode cX12_shown 11 = .ok (.ifCond .eq 28, 3) := by decide +kernel
theorem dX12_shown_14 : decode cX12_shown 14 = .ok (.iload_n 2, 1) := by decide +kernel
theorem dX12_shown_15 : decode cX12_shown 15 = .ok (.ifCond .eq 27, 3) := by decide +kernel
theorem dX12_shown_18 : decode cX12_shown 18 = .ok (.iload_n 2, 1) := by decide +kernel
theorem dX12_shown_19 : decode cX12_shown 19 = .ok (.i2l, 1) := by decide +kernel
theorem dX12_shown_20 : decode cX12_shown 20 = .ok (.ldc2_w 285, 3) := by decide +kernel
theorem dX12_shown_23 : decode cX12_shown 23 = .ok (.bipush 9, 2) := by decide +kernel
theorem dX12_shown_25 : decode cX12_shown 25 = .ok (.aload_n 0, 1) := by decide +kernel
theorem dX12_shown_26 : decode cX12_shown 26 = .ok (.getfield 13, 3) := by decide +kernel
theorem dX12_shown_29 : decode cX12_shown 29 = .ok (.iconst 3, 1) := by decide +kernel
theorem dX12_shown_30 : decode cX12_shown 30 = .ok (.iaload, 1) := by decide +kernel
theorem dX12_shown_31 : decode cX12_shown 31 = .ok (.iadd, 1) := by decide +kernel
theorem dX12_shown_32 : decode cX12_shown 32 = .ok (.i2l, 1) := by decide +kernel
theorem dX12_shown_33 : decode cX12_shown 33 = .ok (.invokestatic 145, 3) := by decide +kernel
theorem dX12_shown_36 : decode cX12_shown 36 = .ok (.ifCond .ne 6, 3) := by decide +kernel
theorem dX12_shown_39 : decode cX12_shown 39 = .ok (.bipush (-2), 2) := by decide +kernel
theorem dX12_shown_41 : decode cX12_shown 41 = .ok (.ireturn, 1) := by decide +kernel
theorem dX12_shown_42 : decode cX12_shown 42 = .ok (.aload_n 0, 1) := by decide +kernel
theorem dX12_shown_43 : decode cX12_shown 43 = .ok (.iconst 0, 1) := by decide +kernel
theorem dX12_shown_44 : decode cX12_shown 44 = .ok (.aload_n 0, 1) := by decide +kernel
theorem dX12_shown_45 : decode cX12_shown 45 = .ok (.getfield 13, 3) := by decide +kernel
theorem dX12_shown_48 : decode cX12_shown 48 = .ok (.iconst 4, 1) := by decide +kernel
theorem dX12_shown_49 : decode cX12_shown 49 = .ok (.iaload, 1) := by decide +kernel
theorem dX12_shown_50 : decode cX12_shown 50 = .ok (.invokevirtual 294, 3) := by decide +kernel
theorem dX12_shown_53 : decode cX12_shown 53 = .ok (.iload_n 1, 1) := by decide +kernel
theorem dX12_shown_54 : decode cX12_shown 54 = .ok (.if_icmp .ne 11, 3) := by decide +kernel
theorem dX12_shown_57 : decode cX12_shown 57 = .ok (.aload_n 0, 1) := by decide +kernel
theorem dX12_shown_58 : decode cX12_shown 58 = .ok (.iload_n 1, 1) := by decide +kernel
theorem dX12_shown_59 : decode cX12_shown 59 = .ok (.invokevirtual 347, 3) := by decide +kernel
theorem dX12_shown_62 : decode cX12_shown 62 = .ok (.ifCond .ne 5, 3) := by decide +kernel
theorem dX12_shown_65 : decode cX12_shown 65 = .ok (.iconst (-1), 1) := by decide +kernel
theorem dX12_shown_66 : decode cX12_shown 66 = .ok (.ireturn, 1) := by decide +kernel
theorem dX12_shown_67 : decode cX12_shown 67 = .ok (.iload_n 2, 1) := by decide +kernel
theorem dX12_shown_68 : decode cX12_shown 68 = .ok (.ifCond .ne 14, 3) := by decide +kernel
theorem dX12_shown_71 : decode cX12_shown 71 = .ok (.aload_n 0, 1) := by decide +kernel
theorem dX12_shown_72 : decode cX12_shown 72 = .ok (.aload_n 0, 1) := by decide +kernel
theorem dX12_shown_73 : decode cX12_shown 73 = .ok (.getfield 63, 3) := by decide +kernel
theorem dX12_shown_76 : decode cX12_shown 76 = .ok (.invokevirtual 334, 3) := by decide +kernel
theorem dX12_shown_79 : decode cX12_shown 79 = .ok (.goto 12, 3) := by decide +kernel
theorem dX12_shown_82 : decode cX12_shown 82 = .ok (.aload_n 0, 1) := by decide +kernel
theorem dX12_shown_83 : decode cX12_shown 83 = .ok (.getfield 63, 3) := by decide +kernel
theorem dX12_shown_86 : decode cX12_shown 86 = .ok (.iload_n 2, 1) := by decide +kernel
theorem dX12_shown_87 : decode cX12_shown 87 = .ok (.bipush 10, 2) := by decide +kernel
theorem dX12_shown_89 : decode cX12_shown 89 = .ok (.isub, 1) := by decide +kernel
theorem dX12_shown_90 : decode cX12_shown 90 = .ok (.iaload, 1) := by decide +kernel
theorem dX12_shown_91 : decode cX12_shown 91 = .ok (.ireturn, 1) := by decide +kernel
theorem dX12_appeals_0 : decode cX12_appeals 0 = .ok (.aload_n 0, 1) := by decide +kernel
theorem dX12_appeals_1 : decode cX12_appeals 1 = .ok (.iconst 0, 1) := by decide +kernel
theorem dX12_appeals_2 : decode cX12_appeals 2 = .ok (.putfield 1, 3) := by decide +kernel
theorem dX12_appeals_5 : decode cX12_appeals 5 = .ok (.aload_n 0, 1) := by decide +kernel
theorem dX12_appeals_6 : decode cX12_appeals 6 = .ok (.iload_n 1, 1) := by decide +kernel
theorem dX12_appeals_7 : decode cX12_appeals 7 = .ok (.i2l, 1) := by decide +kernel
theorem dX12_appeals_8 : decode cX12_appeals 8 = .ok (.invokevirtual 245, 3) := by decide +kernel
theorem dX12_appeals_11 : decode cX12_appeals 11 = .ok (.ifCond .eq 25, 3) := by decide +kernel
theorem dX12_appeals_14 : decode cX12_appeals 14 = .ok (.iload_n 2, 1) := by decide +kernel
theorem dX12_appeals_15 : decode cX12_appeals 15 = .ok (.i2l, 1) := by decide +kernel
theorem dX12_appeals_16 : decode cX12_appeals 16 = .ok (.lconst 0, 1) := by decide +kernel
theorem dX12_appeals_17 : decode cX12_appeals 17 = .ok (.ldc2_w 289, 3) := by decide +kernel
theorem dX12_appeals_20 : decode cX12_appeals 20 = .ok (.invokestatic 145, 3) := by decide +kernel
theorem dX12_appeals_23 : decode cX12_appeals 23 = .ok (.ifCond .eq 13, 3) := by decide +kernel
theorem dX12_appeals_26 : decode cX12_appeals 26 = .ok (.iload_n 3, 1) := by decide +kernel
theorem dX12_appeals_27 : decode cX12_appeals 27 = .ok (.i2l, 1) := by decide +kernel
theorem dX12_appeals_28 : decode cX12_appeals 28 = .ok (.lconst 0, 1) := by decide +kernel
theorem dX12_appeals_29 : decode cX12_appeals 29 = .ok (.lconst 1, 1) := by decide +kernel
theorem dX12_appeals_30 : decode cX12_appeals 30 = .ok (.invokestatic 145, 3) := by decide +kernel
theorem dX12_appeals_33 : decode cX12_appeals 33 = .ok (.ifCond .ne 6, 3) := by decide +kernel
theorem dX12_appeals_36 : decode cX12_appeals 36 = .ok (.bipush (-2), 2) := by decide +kernel
theorem dX12_appeals_38 : decode cX12_appeals 38 = .ok (.ireturn, 1) := by decide +kernel
theorem dX12_appeals_39 : decode cX12_appeals 39 = .ok (.iconst 0, 1) := by decide +kernel
theorem dX12_appeals_40 : decode cX12_appeals 40 = .ok (.istore 4, 2) := by decide +kernel
theorem dX12_appeals_42 : decode cX12_appeals 42 = .ok (.iload_n 1, 1) := by decide +kernel
theorem dX12_appeals_43 : decode cX12_appeals 43 = .ok (.istore 5, 2) := by decide +kernel
theorem dX12_appeals_45 : decode cX12_appeals 45 = .ok (.iconst (-1), 1) := by decide +kernel
theorem dX12_appeals_46 : decode cX12_appeals 46 = .ok (.istore 6, 2) := by decide +kernel
theorem dX12_appeals_48 : decode cX12_appeals 48 = .ok (.iconst 0, 1) := by decide +kernel
theorem dX12_appeals_49 : decode cX12_appeals 49 = .ok (.istore 7, 2) := by decide +kernel
theorem dX12_appeals_51 : decode cX12_appeals 51 = .ok (.iload 7, 2) := by decide +kernel
theorem dX12_appeals_53 : decode cX12_appeals 53 = .ok (.aload_n 0, 1) := by decide +kernel
theorem dX12_appeals_54 : decode cX12_appeals 54 = .ok (.getfield 13, 3) := by decide +kernel
theorem dX12_appeals_57 : decode cX12_appeals 57 = .ok (.iconst 3, 1) := by decide +kernel
theorem dX12_appeals_58 : decode cX12_appeals 58 = .ok (.iaload, 1) := by decide +kernel
theorem dX12_appeals_59 : decode cX12_appeals 59 = .ok (.if_icmp .ge 53, 3) := by decide +kernel
theorem dX12_appeals_62 : decode cX12_appeals 62 = .ok (.aload_n 0, 1) := by decide +kernel
theorem dX12_appeals_63 : decode cX12_appeals 63 = .ok (.iload 7, 2) := by decide +kernel
theorem dX12_appeals_65 : decode cX12_appeals 65 = .ok (.iload_n 2, 1) := by decide +kernel
theorem dX12_appeals_66 : decode cX12_appeals 66 = .ok (.invokevirtual 327, 3) := by decide +kernel
theorem dX12_appeals_69 : decode cX12_appeals 69 = .ok (.aload_n 0, 1) := by decide +kernel
theorem dX12_appeals_70 : decode cX12_appeals 70 = .ok (.iload 5, 2) := by decide +kernel
theorem dX12_appeals_72 : decode cX12_appeals 72 = .ok (.iload_n 2, 1) := by decide +kernel
theorem dX12_appeals_73 : decode cX12_appeals 73 = .ok (.invokevirtual 327, 3) := by decide +kernel
theorem dX12_appeals_76 : decode cX12_appeals 76 = .ok (.if_icmp .le 30, 3) := by decide +kernel
theorem dX12_appeals_79 : decode cX12_appeals 79 = .ok (.iload 6, 2) := by decide +kernel
theorem dX12_appeals_81 : decode cX12_appeals 81 = .ok (.iconst (-1), 1) := by decide +kernel
theorem dX12_appeals_82 : decode cX12_appeals 82 = .ok (.if_icmp .eq 20, 3) := by decide +kernel
theorem dX12_appeals_85 : decode cX12_appeals 85 = .ok (.aload_n 0, 1) := by decide +kernel
theorem dX12_appeals_86 : decode cX12_appeals 86 = .ok (.iload 7, 2) := by decide +kernel
theorem dX12_appeals_88 : decode cX12_appeals 88 = .ok (.iload_n 2, 1) := by decide +kernel
theorem dX12_appeals_89 : decode cX12_appeals 89 = .ok (.invokevirtual 327, 3) := by decide +kernel
theorem dX12_appeals_92 : decode cX12_appeals 92 = .ok (.aload_n 0, 1) := by decide +kernel
theorem dX12_appeals_93 : decode cX12_appeals 93 = .ok (.iload 6, 2) := by decide +kernel
theorem dX12_appeals_95 : decode cX12_appeals 95 = .ok (.iload_n 2, 1) := by decide +kernel
theorem dX12_appeals_96 : decode cX12_appeals 96 = .ok (.invokevirtual 327, 3) := by decide +kernel
theorem dX12_appeals_99 : decode cX12_appeals 99 = .ok (.if_icmp .ge 7, 3) := by decide +kernel
theorem dX12_appeals_102 : decode cX12_appeals 102 = .ok (.iload 7, 2) := by decide +kernel
theorem dX12_appeals_104 : decode cX12_appeals 104 = .ok (.istore 6, 2) := by decide +kernel
theorem dX12_appeals_106 : decode cX12_appeals 106 = .ok (.iinc 7 1, 3) := by decide +kernel
theorem dX12_appeals_109 : decode cX12_appeals 109 = .ok (.goto (-58), 3) := by decide +kernel
theorem dX12_appeals_112 : decode cX12_appeals 112 = .ok (.iload 6, 2) := by decide +kernel
theorem dX12_appeals_114 : decode cX12_appeals 114 = .ok (.iconst (-1), 1) := by decide +kernel
theorem dX12_appeals_115 : decode cX12_appeals 115 = .ok (.if_icmp .ne 15, 3) := by decide +kernel
theorem dX12_appeals_118 : decode cX12_appeals 118 = .ok (.iload_n 3, 1) := by decide +kernel
theorem dX12_appeals_119 : decode cX12_appeals 119 = .ok (.ifCond .ne 8, 3) := by decide +kernel
theorem dX12_appeals_122 : decode cX12_appeals 122 = .ok (.iload 4, 2) := by decide +kernel
theorem dX12_appeals_124 : decode cX12_appeals 124 = .ok (.goto 5, 3) := by decide +kernel
theorem dX12_appeals_127 : decode cX12_appeals 127 = .ok (.iload 5, 2) := by decide +kernel
theorem dX12_appeals_129 : decode cX12_appeals 129 = .ok (.ireturn, 1) := by decide +kernel
theorem dX12_appeals_130 : decode cX12_appeals 130 = .ok (.iload 6, 2) := by decide +kernel
theorem dX12_appeals_132 : decode cX12_appeals 132 = .ok (.istore 5, 2) := by decide +kernel
theorem dX12_appeals_134 : decode cX12_appeals 134 = .ok (.iinc 4 1, 3) := by decide +kernel
theorem dX12_appeals_137 : decode cX12_appeals 137 = .ok (.goto (-92), 3) := by decide +kernel
theorem dX12_choices_0 : decode cX12_choices 0 = .ok (.iconst 1, 1) := by decide +kernel
theorem dX12_choices_1 : decode cX12_choices 1 = .ok (.aload_n 0, 1) := by decide +kernel
theorem dX12_choices_2 : decode cX12_choices 2 = .ok (.getfield 13, 3) := by decide +kernel
theorem dX12_choices_5 : decode cX12_choices 5 = .ok (.iconst 3, 1) := by decide +kernel
theorem dX12_choices_6 : decode cX12_choices 6 = .ok (.iaload, 1) := by decide +kernel
theorem dX12_choices_7 : decode cX12_choices 7 = .ok (.aload_n 0, 1) := by decide +kernel
theorem dX12_choices_8 : decode cX12_choices 8 = .ok (.getfield 13, 3) := by decide +kernel
theorem dX12_choices_11 : decode cX12_choices 11 = .ok (.iconst 2, 1) := by decide +kernel
theorem dX12_choices_12 : decode cX12_choices 12 = .ok (.iaload, 1) := by decide +kernel
theorem dX12_choices_13 : decode cX12_choices 13 = .ok (.imul, 1) := by decide +kernel
theorem dX12_choices_14 : decode cX12_choices 14 = .ok (.iadd, 1) := by decide +kernel
theorem dX12_choices_15 : decode cX12_choices 15 = .ok (.ireturn, 1) := by decide +kernel
theorem dX12_tellsChoice_0 : decode cX12_tellsChoice 0 = .ok (.iload_n 1, 1) := by decide +kernel
theorem dX12_tellsChoice_1 : decode cX12_tellsChoice 1 = .ok (.ifCond .le 35, 3) := by decide +kernel
theorem dX12_tellsChoice_4 : decode cX12_tellsChoice 4 = .ok (.aload_n 0, 1) := by decide +kernel
theorem dX12_tellsChoice_5 : decode cX12_tellsChoice 5 = .ok (.getfield 13, 3) := by decide +kernel
theorem dX12_tellsChoice_8 : decode cX12_tellsChoice 8 = .ok (.iconst 5, 1) := by decide +kernel
theorem dX12_tellsChoice_9 : decode cX12_tellsChoice 9 = .ok (.iload_n 1, 1) := by decide +kernel
theorem dX12_tellsChoice_10 : decode cX12_tellsChoice 10 = .ok (.iconst 1, 1) := by decide +kernel
theorem dX12_tellsChoice_11 : decode cX12_tellsChoice 11 = .ok (.isub, 1) := by decide +kernel
theorem dX12_tellsChoice_12 : decode cX12_tellsChoice 12 = .ok (.aload_n 0, 1) := by decide +kernel
theorem dX12_tellsChoice_13 : decode cX12_tellsChoice 13 = .ok (.getfield 13, 3) := by decide +kernel
theorem dX12_tellsChoice_16 : decode cX12_tellsChoice 16 = .ok (.iconst 2, 1) := by decide +kernel
theorem dX12_tellsChoice_17 : decode cX12_tellsChoice 17 = .ok (.iaload, 1) := by decide +kernel
theorem dX12_tellsChoice_18 : decode cX12_tellsChoice 18 = .ok (.idiv, 1) := by decide +kernel
theorem dX12_tellsChoice_19 : decode cX12_tellsChoice 19 = .ok (.iadd, 1) := by decide +kernel
theorem dX12_tellsChoice_20 : decode cX12_tellsChoice 20 = .ok (.dup2, 1) := by decide +kernel
theorem dX12_tellsChoice_21 : decode cX12_tellsChoice 21 = .ok (.iaload, 1) := by decide +kernel
theorem dX12_tellsChoice_22 : decode cX12_tellsChoice 22 = .ok (.iconst 1, 1) := by decide +kernel
theorem dX12_tellsChoice_23 : decode cX12_tellsChoice 23 = .ok (.iload_n 1, 1) := by decide +kernel
theorem dX12_tellsChoice_24 : decode cX12_tellsChoice 24 = .ok (.iconst 1, 1) := by decide +kernel
theorem dX12_tellsChoice_25 : decode cX12_tellsChoice 25 = .ok (.isub, 1) := by decide +kernel
theorem dX12_tellsChoice_26 : decode cX12_tellsChoice 26 = .ok (.aload_n 0, 1) := by decide +kernel
theorem dX12_tellsChoice_27 : decode cX12_tellsChoice 27 = .ok (.getfield 13, 3) := by decide +kernel
theorem dX12_tellsChoice_30 : decode cX12_tellsChoice 30 = .ok (.iconst 2, 1) := by decide +kernel
theorem dX12_tellsChoice_31 : decode cX12_tellsChoice 31 = .ok (.iaload, 1) := by decide +kernel
theorem dX12_tellsChoice_32 : decode cX12_tellsChoice 32 = .ok (.irem, 1) := by decide +kernel
theorem dX12_tellsChoice_33 : decode cX12_tellsChoice 33 = .ok (.ishl, 1) := by decide +kernel
theorem dX12_tellsChoice_34 : decode cX12_tellsChoice 34 = .ok (.ior, 1) := by decide +kernel
theorem dX12_tellsChoice_35 : decode cX12_tellsChoice 35 = .ok (.iastore, 1) := by decide +kernel
theorem dX12_tellsChoice_36 : decode cX12_tellsChoice 36 = .ok (.return_, 1) := by decide +kernel
theorem dX12_codeOf_0 : decode cX12_codeOf 0 = .ok (.iload_n 1, 1) := by decide +kernel
theorem dX12_codeOf_1 : decode cX12_codeOf 1 = .ok (.ifCond .ne 8, 3) := by decide +kernel
theorem dX12_codeOf_4 : decode cX12_codeOf 4 = .ok (.bipush (-100), 2) := by decide +kernel
theorem dX12_codeOf_6 : decode cX12_codeOf 6 = .ok (.goto 27, 3) := by decide +kernel
theorem dX12_codeOf_9 : decode cX12_codeOf 9 = .ok (.bipush 10, 2) := by decide +kernel
theorem dX12_codeOf_11 : decode cX12_codeOf 11 = .ok (.iload_n 1, 1) := by decide +kernel
theorem dX12_codeOf_12 : decode cX12_codeOf 12 = .ok (.iconst 1, 1) := by decide +kernel
theorem dX12_codeOf_13 : decode cX12_codeOf 13 = .ok (.isub, 1) := by decide +kernel
theorem dX12_codeOf_14 : decode cX12_codeOf 14 = .ok (.aload_n 0, 1) := by decide +kernel
theorem dX12_codeOf_15 : decode cX12_codeOf 15 = .ok (.getfield 13, 3) := by decide +kernel
theorem dX12_codeOf_18 : decode cX12_codeOf 18 = .ok (.iconst 2, 1) := by decide +kernel
theorem dX12_codeOf_19 : decode cX12_codeOf 19 = .ok (.iaload, 1) := by decide +kernel
theorem dX12_codeOf_20 : decode cX12_codeOf 20 = .ok (.idiv, 1) := by decide +kernel
theorem dX12_codeOf_21 : decode cX12_codeOf 21 = .ok (.imul, 1) := by decide +kernel
theorem dX12_codeOf_22 : decode cX12_codeOf 22 = .ok (.iload_n 1, 1) := by decide +kernel
theorem dX12_codeOf_23 : decode cX12_codeOf 23 = .ok (.iconst 1, 1) := by decide +kernel
theorem dX12_codeOf_24 : decode cX12_codeOf 24 = .ok (.isub, 1) := by decide +kernel
theorem dX12_codeOf_25 : decode cX12_codeOf 25 = .ok (.aload_n 0, 1) := by decide +kernel
theorem dX12_codeOf_26 : decode cX12_codeOf 26 = .ok (.getfield 13, 3) := by decide +kernel
theorem dX12_codeOf_29 : decode cX12_codeOf 29 = .ok (.iconst 2, 1) := by decide +kernel
theorem dX12_codeOf_30 : decode cX12_codeOf 30 = .ok (.iaload, 1) := by decide +kernel
theorem dX12_codeOf_31 : decode cX12_codeOf 31 = .ok (.irem, 1) := by decide +kernel
theorem dX12_codeOf_32 : decode cX12_codeOf 32 = .ok (.iadd, 1) := by decide +kernel
theorem dX12_codeOf_33 : decode cX12_codeOf 33 = .ok (.ireturn, 1) := by decide +kernel
theorem dX12_isRest_0 : decode cX12_isRest 0 = .ok (.aload_n 0, 1) := by decide +kernel
theorem dX12_isRest_1 : decode cX12_isRest 1 = .ok (.getfield 66, 3) := by decide +kernel
theorem dX12_isRest_4 : decode cX12_isRest 4 = .ok (.bipush 49, 2) := by decide +kernel
theorem dX12_isRest_6 : decode cX12_isRest 6 = .ok (.iload_n 1, 1) := by decide +kernel
theorem dX12_isRest_7 : decode cX12_isRest 7 = .ok (.imul, 1) := by decide +kernel
theorem dX12_isRest_8 : decode cX12_isRest 8 = .ok (.iload_n 2, 1) := by decide +kernel
theorem dX12_isRest_9 : decode cX12_isRest 9 = .ok (.iadd, 1) := by decide +kernel
theorem dX12_isRest_10 : decode cX12_isRest 10 = .ok (.iaload, 1) := by decide +kernel
theorem dX12_isRest_11 : decode cX12_isRest 11 = .ok (.istore 5, 2) := by decide +kernel
theorem dX12_isRest_13 : decode cX12_isRest 13 = .ok (.iconst 0, 1) := by decide +kernel
theorem dX12_isRest_14 : decode cX12_isRest 14 = .ok (.istore 6, 2) := by decide +kernel
theorem dX12_isRest_16 : decode cX12_isRest 16 = .ok (.iload 6, 2) := by decide +kernel
theorem dX12_isRest_18 : decode cX12_isRest 18 = .ok (.aload_n 0, 1) := by decide +kernel
theorem dX12_isRest_19 : decode cX12_isRest 19 = .ok (.invokevirtual 350, 3) := by decide +kernel
theorem dX12_isRest_22 : decode cX12_isRest 22 = .ok (.if_icmp .ge 57, 3) := by decide +kernel
theorem dX12_isRest_25 : decode cX12_isRest 25 = .ok (.iload 5, 2) := by decide +kernel
theorem dX12_isRest_27 : decode cX12_isRest 27 = .ok (.iload_n 3, 1) := by decide +kernel
theorem dX12_isRest_28 : decode cX12_isRest 28 = .ok (.if_icmp .eq 19, 3) := by decide +kernel
theorem dX12_isRest_31 : decode cX12_isRest 31 = .ok (.aload_n 0, 1) := by decide +kernel
theorem dX12_isRest_32 : decode cX12_isRest 32 = .ok (.getfield 66, 3) := by decide +kernel
theorem dX12_isRest_35 : decode cX12_isRest 35 = .ok (.bipush 49, 2) := by decide +kernel
theorem dX12_isRest_37 : decode cX12_isRest 37 = .ok (.iload 6, 2) := by decide +kernel
theorem dX12_isRest_39 : decode cX12_isRest 39 = .ok (.imul, 1) := by decide +kernel
theorem dX12_isRest_40 : decode cX12_isRest 40 = .ok (.iload_n 2, 1) := by decide +kernel
theorem dX12_isRest_41 : decode cX12_isRest 41 = .ok (.iadd, 1) := by decide +kernel
theorem dX12_isRest_42 : decode cX12_isRest 42 = .ok (.iaload, 1) := by decide +kernel
theorem dX12_isRest_43 : decode cX12_isRest 43 = .ok (.iload_n 3, 1) := by decide +kernel
theorem dX12_isRest_44 : decode cX12_isRest 44 = .ok (.if_icmp .eq 27, 3) := by decide +kernel
theorem dX12_isRest_47 : decode cX12_isRest 47 = .ok (.iload 5, 2) := by decide +kernel
theorem dX12_isRest_49 : decode cX12_isRest 49 = .ok (.iload 4, 2) := by decide +kernel
theorem dX12_isRest_51 : decode cX12_isRest 51 = .ok (.if_icmp .eq 22, 3) := by decide +kernel
theorem dX12_isRest_54 : decode cX12_isRest 54 = .ok (.aload_n 0, 1) := by decide +kernel
theorem dX12_isRest_55 : decode cX12_isRest 55 = .ok (.getfield 66, 3) := by decide +kernel
theorem dX12_isRest_58 : decode cX12_isRest 58 = .ok (.bipush 49, 2) := by decide +kernel
theorem dX12_isRest_60 : decode cX12_isRest 60 = .ok (.iload_n 1, 1) := by decide +kernel
theorem dX12_isRest_61 : decode cX12_isRest 61 = .ok (.imul, 1) := by decide +kernel
theorem dX12_isRest_62 : decode cX12_isRest 62 = .ok (.iload 6, 2) := by decide +kernel
theorem dX12_isRest_64 : decode cX12_isRest 64 = .ok (.iadd, 1) := by decide +kernel
theorem dX12_isRest_65 : decode cX12_isRest 65 = .ok (.iaload, 1) := by decide +kernel
theorem dX12_isRest_66 : decode cX12_isRest 66 = .ok (.iload 4, 2) := by decide +kernel
theorem dX12_isRest_68 : decode cX12_isRest 68 = .ok (.if_icmp .ne 5, 3) := by decide +kernel
theorem dX12_isRest_71 : decode cX12_isRest 71 = .ok (.iconst 0, 1) := by decide +kernel
theorem dX12_isRest_72 : decode cX12_isRest 72 = .ok (.ireturn, 1) := by decide +kernel
theorem dX12_isRest_73 : decode cX12_isRest 73 = .ok (.iinc 6 1, 3) := by decide +kernel
theorem dX12_isRest_76 : decode cX12_isRest 76 = .ok (.goto (-60), 3) := by decide +kernel
theorem dX12_isRest_79 : decode cX12_isRest 79 = .ok (.iconst 1, 1) := by decide +kernel
theorem dX12_isRest_80 : decode cX12_isRest 80 = .ok (.ireturn, 1) := by decide +kernel
theorem dX12_parties_0 : decode cX12_parties 0 = .ok (.aload_n 0, 1) := by decide +kernel
theorem dX12_parties_1 : decode cX12_parties 1 = .ok (.iconst 0, 1) := by decide +kernel
theorem dX12_parties_2 : decode cX12_parties 2 = .ok (.putfield 1, 3) := by decide +kernel
theorem dX12_parties_5 : decode cX12_parties 5 = .ok (.aload_n 0, 1) := by decide +kernel
theorem dX12_parties_6 : decode cX12_parties 6 = .ok (.iload_n 1, 1) := by decide +kernel
theorem dX12_parties_7 : decode cX12_parties 7 = .ok (.i2l, 1) := by decide +kernel
theorem dX12_parties_8 : decode cX12_parties 8 = .ok (.invokevirtual 245, 3) := by decide +kernel
theorem dX12_parties_11 : decode cX12_parties 11 = .ok (.ifCond .eq 37, 3) := by decide +kernel
theorem dX12_parties_14 : decode cX12_parties 14 = .ok (.aload_n 0, 1) := by decide +kernel
theorem dX12_parties_15 : decode cX12_parties 15 = .ok (.iload_n 2, 1) := by decide +kernel
theorem dX12_parties_16 : decode cX12_parties 16 = .ok (.i2l, 1) := by decide +kernel
theorem dX12_parties_17 : decode cX12_parties 17 = .ok (.invokevirtual 245, 3) := by decide +kernel
theorem dX12_parties_20 : decode cX12_parties 20 = .ok (.ifCond .eq 28, 3) := by decide +kernel
theorem dX12_parties_23 : decode cX12_parties 23 = .ok (.iload_n 3, 1) := by decide +kernel
theorem dX12_parties_24 : decode cX12_parties 24 = .ok (.i2l, 1) := by decide +kernel
theorem dX12_parties_25 : decode cX12_parties 25 = .ok (.lconst 0, 1) := by decide +kernel
theorem dX12_parties_26 : decode cX12_parties 26 = .ok (.ldc2_w 289, 3) := by decide +kernel
theorem dX12_parties_29 : decode cX12_parties 29 = .ok (.invokestatic 145, 3) := by decide +kernel
theorem dX12_parties_32 : decode cX12_parties 32 = .ok (.ifCond .eq 16, 3) := by decide +kernel
theorem dX12_parties_35 : decode cX12_parties 35 = .ok (.iload 4, 2) := by decide +kernel
theorem dX12_parties_37 : decode cX12_parties 37 = .ok (.i2l, 1) := by decide +kernel
theorem dX12_parties_38 : decode cX12_parties 38 = .ok (.lconst 0, 1) := by decide +kernel
theorem dX12_parties_39 : decode cX12_parties 39 = .ok (.ldc2_w 162, 3) := by decide +kernel
theorem dX12_parties_42 : decode cX12_parties 42 = .ok (.invokestatic 145, 3) := by decide +kernel
theorem dX12_parties_45 : decode cX12_parties 45 = .ok (.ifCond .ne 6, 3) := by decide +kernel
theorem dX12_parties_48 : decode cX12_parties 48 = .ok (.bipush (-2), 2) := by decide +kernel
theorem dX12_parties_50 : decode cX12_parties 50 = .ok (.ireturn, 1) := by decide +kernel
theorem dX12_parties_51 : decode cX12_parties 51 = .ok (.aload_n 0, 1) := by decide +kernel
theorem dX12_parties_52 : decode cX12_parties 52 = .ok (.getfield 13, 3) := by decide +kernel
theorem dX12_parties_55 : decode cX12_parties 55 = .ok (.iconst 1, 1) := by decide +kernel
theorem dX12_parties_56 : decode cX12_parties 56 = .ok (.iaload, 1) := by decide +kernel
theorem dX12_parties_57 : decode cX12_parties 57 = .ok (.ifCond .ne 6, 3) := by decide +kernel
theorem dX12_parties_60 : decode cX12_parties 60 = .ok (.bipush (-5), 2) := by decide +kernel
theorem dX12_parties_62 : decode cX12_parties 62 = .ok (.ireturn, 1) := by decide +kernel
theorem dX12_parties_63 : decode cX12_parties 63 = .ok (.aload_n 0, 1) := by decide +kernel
theorem dX12_parties_64 : decode cX12_parties 64 = .ok (.invokevirtual 260, 3) := by decide +kernel
theorem dX12_parties_67 : decode cX12_parties 67 = .ok (.iconst 0, 1) := by decide +kernel
theorem dX12_parties_68 : decode cX12_parties 68 = .ok (.istore 5, 2) := by decide +kernel
theorem dX12_parties_70 : decode cX12_parties 70 = .ok (.iload 5, 2) := by decide +kernel
theorem dX12_parties_72 : decode cX12_parties 72 = .ok (.aload_n 0, 1) := by decide +kernel
theorem dX12_parties_73 : decode cX12_parties 73 = .ok (.invokevirtual 350, 3) := by decide +kernel
theorem dX12_parties_76 : decode cX12_parties 76 = .ok (.if_icmp .ge 67, 3) := by decide +kernel
theorem dX12_parties_79 : decode cX12_parties 79 = .ok (.iconst 0, 1) := by decide +kernel
theorem dX12_parties_80 : decode cX12_parties 80 = .ok (.istore 6, 2) := by decide +kernel
theorem dX12_parties_82 : decode cX12_parties 82 = .ok (.iload 6, 2) := by decide +kernel
theorem dX12_parties_84 : decode cX12_parties 84 = .ok (.aload_n 0, 1) := by decide +kernel
theorem dX12_parties_85 : decode cX12_parties 85 = .ok (.invokevirtual 350, 3) := by decide +kernel
theorem dX12_parties_88 : decode cX12_parties 88 = .ok (.if_icmp .ge 49, 3) := by decide +kernel
theorem dX12_parties_91 : decode cX12_parties 91 = .ok (.aload_n 0, 1) := by decide +kernel
theorem dX12_parties_92 : decode cX12_parties 92 = .ok (.iload 5, 2) := by decide +kernel
theorem dX12_parties_94 : decode cX12_parties 94 = .ok (.invokevirtual 353, 3) := by decide +kernel
theorem dX12_parties_97 : decode cX12_parties 97 = .ok (.aload_n 0, 1) := by decide +kernel
theorem dX12_parties_98 : decode cX12_parties 98 = .ok (.iload 6, 2) := by decide +kernel
theorem dX12_parties_100 : decode cX12_parties 100 = .ok (.invokevirtual 353, 3) := by decide +kernel
theorem dX12_parties_103 : decode cX12_parties 103 = .ok (.aload_n 0, 1) := by decide +kernel
theorem dX12_parties_104 : decode cX12_parties 104 = .ok (.getfield 66, 3) := by decide +kernel
theorem dX12_parties_107 : decode cX12_parties 107 = .ok (.bipush 49, 2) := by decide +kernel
theorem dX12_parties_109 : decode cX12_parties 109 = .ok (.iload 5, 2) := by decide +kernel
theorem dX12_parties_111 : decode cX12_parties 111 = .ok (.imul, 1) := by decide +kernel
theorem dX12_parties_112 : decode cX12_parties 112 = .ok (.iload 6, 2) := by decide +kernel
theorem dX12_parties_114 : decode cX12_parties 114 = .ok (.iadd, 1) := by decide +kernel
theorem dX12_parties_115 : decode cX12_parties 115 = .ok (.aload_n 0, 1) := by decide +kernel
theorem dX12_parties_116 : decode cX12_parties 116 = .ok (.iload_n 3, 1) := by decide +kernel
theorem dX12_parties_117 : decode cX12_parties 117 = .ok (.aload_n 0, 1) := by decide +kernel
theorem dX12_parties_118 : decode cX12_parties 118 = .ok (.getfield 13, 3) := by decide +kernel
theorem dX12_parties_121 : decode cX12_parties 121 = .ok (.iconst 4, 1) := by decide +kernel
theorem dX12_parties_122 : decode cX12_parties 122 = .ok (.iaload, 1) := by decide +kernel
theorem dX12_parties_123 : decode cX12_parties 123 = .ok (.invokevirtual 294, 3) := by decide +kernel
theorem dX12_parties_126 : decode cX12_parties 126 = .ok (.iastore, 1) := by decide +kernel
theorem dX12_parties_127 : decode cX12_parties 127 = .ok (.aload_n 0, 1) := by decide +kernel
theorem dX12_parties_128 : decode cX12_parties 128 = .ok (.invokevirtual 297, 3) := by decide +kernel
theorem dX12_parties_131 : decode cX12_parties 131 = .ok (.iinc 6 1, 3) := by decide +kernel
theorem dX12_parties_134 : decode cX12_parties 134 = .ok (.goto (-52), 3) := by decide +kernel
theorem dX12_parties_137 : decode cX12_parties 137 = .ok (.iinc 5 1, 3) := by decide +kernel
theorem dX12_parties_140 : decode cX12_parties 140 = .ok (.goto (-70), 3) := by decide +kernel
theorem dX12_parties_143 : decode cX12_parties 143 = .ok (.iconst 0, 1) := by decide +kernel
theorem dX12_parties_144 : decode cX12_parties 144 = .ok (.istore 5, 2) := by decide +kernel
theorem dX12_parties_146 : decode cX12_parties 146 = .ok (.iload 5, 2) := by decide +kernel
theorem dX12_parties_148 : decode cX12_parties 148 = .ok (.aload_n 0, 1) := by decide +kernel
theorem dX12_parties_149 : decode cX12_parties 149 = .ok (.invokevirtual 350, 3) := by decide +kernel
theorem dX12_parties_152 : decode cX12_parties 152 = .ok (.if_icmp .ge 83, 3) := by decide +kernel
theorem dX12_parties_155 : decode cX12_parties 155 = .ok (.iconst 0, 1) := by decide +kernel
theorem dX12_parties_156 : decode cX12_parties 156 = .ok (.istore 6, 2) := by decide +kernel
theorem dX12_parties_158 : decode cX12_parties 158 = .ok (.iload 6, 2) := by decide +kernel
theorem dX12_parties_160 : decode cX12_parties 160 = .ok (.aload_n 0, 1) := by decide +kernel
theorem dX12_parties_161 : decode cX12_parties 161 = .ok (.invokevirtual 350, 3) := by decide +kernel
theorem dX12_parties_164 : decode cX12_parties 164 = .ok (.if_icmp .ge 65, 3) := by decide +kernel
theorem dX12_parties_167 : decode cX12_parties 167 = .ok (.aload_n 0, 1) := by decide +kernel
theorem dX12_parties_168 : decode cX12_parties 168 = .ok (.iload 5, 2) := by decide +kernel
theorem dX12_parties_170 : decode cX12_parties 170 = .ok (.iload 6, 2) := by decide +kernel
theorem dX12_parties_172 : decode cX12_parties 172 = .ok (.iload_n 1, 1) := by decide +kernel
theorem dX12_parties_173 : decode cX12_parties 173 = .ok (.iload_n 2, 1) := by decide +kernel
theorem dX12_parties_174 : decode cX12_parties 174 = .ok (.invokevirtual 356, 3) := by decide +kernel
theorem dX12_parties_177 : decode cX12_parties 177 = .ok (.ifCond .eq 46, 3) := by decide +kernel
theorem dX12_parties_180 : decode cX12_parties 180 = .ok (.iload 4, 2) := by decide +kernel
theorem dX12_parties_182 : decode cX12_parties 182 = .ok (.ifCond .ne 12, 3) := by decide +kernel
theorem dX12_parties_185 : decode cX12_parties 185 = .ok (.aload_n 0, 1) := by decide +kernel
theorem dX12_parties_186 : decode cX12_parties 186 = .ok (.iload 5, 2) := by decide +kernel
theorem dX12_parties_188 : decode cX12_parties 188 = .ok (.invokevirtual 360, 3) := by decide +kernel
theorem dX12_parties_191 : decode cX12_parties 191 = .ok (.goto 31, 3) := by decide +kernel
theorem dX12_parties_194 : decode cX12_parties 194 = .ok (.iload 4, 2) := by decide +kernel
theorem dX12_parties_196 : decode cX12_parties 196 = .ok (.iconst 1, 1) := by decide +kernel
theorem dX12_parties_197 : decode cX12_parties 197 = .ok (.if_icmp .ne 12, 3) := by decide +kernel
theorem dX12_parties_200 : decode cX12_parties 200 = .ok (.aload_n 0, 1) := by decide +kernel
theorem dX12_parties_201 : decode cX12_parties 201 = .ok (.iload 6, 2) := by decide +kernel
theorem dX12_parties_203 : decode cX12_parties 203 = .ok (.invokevirtual 360, 3) := by decide +kernel
theorem dX12_parties_206 : decode cX12_parties 206 = .ok (.goto 16, 3) := by decide +kernel
theorem dX12_parties_209 : decode cX12_parties 209 = .ok (.aload_n 0, 1) := by decide +kernel
theorem dX12_parties_210 : decode cX12_parties 210 = .ok (.getfield 66, 3) := by decide +kernel
theorem dX12_parties_213 : decode cX12_parties 213 = .ok (.bipush 49, 2) := by decide +kernel
theorem dX12_parties_215 : decode cX12_parties 215 = .ok (.iload 5, 2) := by decide +kernel
theorem dX12_parties_217 : decode cX12_parties 217 = .ok (.imul, 1) := by decide +kernel
theorem dX12_parties_218 : decode cX12_parties 218 = .ok (.iload 6, 2) := by decide +kernel
theorem dX12_parties_220 : decode cX12_parties 220 = .ok (.iadd, 1) := by decide +kernel
theorem dX12_parties_221 : decode cX12_parties 221 = .ok (.iaload, 1) := by decide +kernel
theorem dX12_parties_222 : decode cX12_parties 222 = .ok (.ireturn, 1) := by decide +kernel
theorem dX12_parties_223 : decode cX12_parties 223 = .ok (.iinc 6 1, 3) := by decide +kernel
theorem dX12_parties_226 : decode cX12_parties 226 = .ok (.goto (-68), 3) := by decide +kernel
theorem dX12_parties_229 : decode cX12_parties 229 = .ok (.iinc 5 1, 3) := by decide +kernel
theorem dX12_parties_232 : decode cX12_parties 232 = .ok (.goto (-86), 3) := by decide +kernel
theorem dX12_parties_235 : decode cX12_parties 235 = .ok (.iconst (-1), 1) := by decide +kernel
theorem dX12_parties_236 : decode cX12_parties 236 = .ok (.ireturn, 1) := by decide +kernel
theorem dX12_inform_0 : decode cX12_inform 0 = .ok (.aload_n 0, 1) := by decide +kernel
theorem dX12_inform_1 : decode cX12_inform 1 = .ok (.iconst 0, 1) := by decide +kernel
theorem dX12_inform_2 : decode cX12_inform 2 = .ok (.putfield 1, 3) := by decide +kernel
theorem dX12_inform_5 : decode cX12_inform 5 = .ok (.aload_n 0, 1) := by decide +kernel
theorem dX12_inform_6 : decode cX12_inform 6 = .ok (.iload_n 1, 1) := by decide +kernel
theorem dX12_inform_7 : decode cX12_inform 7 = .ok (.i2l, 1) := by decide +kernel
theorem dX12_inform_8 : decode cX12_inform 8 = .ok (.invokevirtual 245, 3) := by decide +kernel
theorem dX12_inform_11 : decode cX12_inform 11 = .ok (.ifCond .eq 15, 3) := by decide +kernel
theorem dX12_inform_14 : decode cX12_inform 14 = .ok (.iload_n 2, 1) := by decide +kernel
theorem dX12_inform_15 : decode cX12_inform 15 = .ok (.i2l, 1) := by decide +kernel
theorem dX12_inform_16 : decode cX12_inform 16 = .ok (.lconst 0, 1) := by decide +kernel
theorem dX12_inform_17 : decode cX12_inform 17 = .ok (.ldc2_w 289, 3) := by decide +kernel
theorem dX12_inform_20 : decode cX12_inform 20 = .ok (.invokestatic 145, 3) := by decide +kernel
theorem dX12_inform_23 : decode cX12_inform 23 = .ok (.ifCond .ne 6, 3) := by decide +kernel
theorem dX12_inform_26 : decode cX12_inform 26 = .ok (.bipush (-2), 2) := by decide +kernel
theorem dX12_inform_28 : decode cX12_inform 28 = .ok (.ireturn, 1) := by decide +kernel
theorem dX12_inform_29 : decode cX12_inform 29 = .ok (.aload_n 0, 1) := by decide +kernel
theorem dX12_inform_30 : decode cX12_inform 30 = .ok (.getfield 13, 3) := by decide +kernel
theorem dX12_inform_33 : decode cX12_inform 33 = .ok (.iconst 1, 1) := by decide +kernel
theorem dX12_inform_34 : decode cX12_inform 34 = .ok (.iaload, 1) := by decide +kernel
theorem dX12_inform_35 : decode cX12_inform 35 = .ok (.ifCond .ne 6, 3) := by decide +kernel
theorem dX12_inform_38 : decode cX12_inform 38 = .ok (.bipush (-5), 2) := by decide +kernel
theorem dX12_inform_40 : decode cX12_inform 40 = .ok (.ireturn, 1) := by decide +kernel
theorem dX12_inform_41 : decode cX12_inform 41 = .ok (.aload_n 0, 1) := by decide +kernel
theorem dX12_inform_42 : decode cX12_inform 42 = .ok (.invokevirtual 260, 3) := by decide +kernel
theorem dX12_inform_45 : decode cX12_inform 45 = .ok (.iconst 0, 1) := by decide +kernel
theorem dX12_inform_46 : decode cX12_inform 46 = .ok (.istore_n 3, 1) := by decide +kernel
theorem dX12_inform_47 : decode cX12_inform 47 = .ok (.iload_n 3, 1) := by decide +kernel
theorem dX12_inform_48 : decode cX12_inform 48 = .ok (.aload_n 0, 1) := by decide +kernel
theorem dX12_inform_49 : decode cX12_inform 49 = .ok (.invokevirtual 350, 3) := by decide +kernel
theorem dX12_inform_52 : decode cX12_inform 52 = .ok (.if_icmp .ge 43, 3) := by decide +kernel
theorem dX12_inform_55 : decode cX12_inform 55 = .ok (.aload_n 0, 1) := by decide +kernel
theorem dX12_inform_56 : decode cX12_inform 56 = .ok (.iload_n 3, 1) := by decide +kernel
theorem dX12_inform_57 : decode cX12_inform 57 = .ok (.invokevirtual 353, 3) := by decide +kernel
theorem dX12_inform_60 : decode cX12_inform 60 = .ok (.aload_n 0, 1) := by decide +kernel
theorem dX12_inform_61 : decode cX12_inform 61 = .ok (.iload_n 2, 1) := by decide +kernel
theorem dX12_inform_62 : decode cX12_inform 62 = .ok (.aload_n 0, 1) := by decide +kernel
theorem dX12_inform_63 : decode cX12_inform 63 = .ok (.getfield 13, 3) := by decide +kernel
theorem dX12_inform_66 : decode cX12_inform 66 = .ok (.iconst 4, 1) := by decide +kernel
theorem dX12_inform_67 : decode cX12_inform 67 = .ok (.iaload, 1) := by decide +kernel
theorem dX12_inform_68 : decode cX12_inform 68 = .ok (.invokevirtual 294, 3) := by decide +kernel
theorem dX12_inform_71 : decode cX12_inform 71 = .ok (.istore 4, 2) := by decide +kernel
theorem dX12_inform_73 : decode cX12_inform 73 = .ok (.aload_n 0, 1) := by decide +kernel
theorem dX12_inform_74 : decode cX12_inform 74 = .ok (.invokevirtual 297, 3) := by decide +kernel
theorem dX12_inform_77 : decode cX12_inform 77 = .ok (.iload 4, 2) := by decide +kernel
theorem dX12_inform_79 : decode cX12_inform 79 = .ok (.iload_n 1, 1) := by decide +kernel
theorem dX12_inform_80 : decode cX12_inform 80 = .ok (.if_icmp .ne 9, 3) := by decide +kernel
theorem dX12_inform_83 : decode cX12_inform 83 = .ok (.aload_n 0, 1) := by decide +kernel
theorem dX12_inform_84 : decode cX12_inform 84 = .ok (.iload_n 3, 1) := by decide +kernel
theorem dX12_inform_85 : decode cX12_inform 85 = .ok (.invokevirtual 360, 3) := by decide +kernel
theorem dX12_inform_88 : decode cX12_inform 88 = .ok (.ireturn, 1) := by decide +kernel
theorem dX12_inform_89 : decode cX12_inform 89 = .ok (.iinc 3 1, 3) := by decide +kernel
theorem dX12_inform_92 : decode cX12_inform 92 = .ok (.goto (-45), 3) := by decide +kernel
theorem dX12_inform_95 : decode cX12_inform 95 = .ok (.iconst (-1), 1) := by decide +kernel
theorem dX12_inform_96 : decode cX12_inform 96 = .ok (.ireturn, 1) := by decide +kernel
theorem dX12_worstOf_0 : decode cX12_worstOf 0 = .ok (.iload_n 1, 1) := by decide +kernel
theorem dX12_worstOf_1 : decode cX12_worstOf 1 = .ok (.aload_n 0, 1) := by decide +kernel
theorem dX12_worstOf_2 : decode cX12_worstOf 2 = .ok (.invokevirtual 254, 3) := by decide +kernel
theorem dX12_worstOf_5 : decode cX12_worstOf 5 = .ok (.invokestatic 229, 3) := by decide +kernel
theorem dX12_worstOf_8 : decode cX12_worstOf 8 = .ok (.ifCond .eq 5, 3) := by decide +kernel
theorem dX12_worstOf_11 : decode cX12_worstOf 11 = .ok (.iconst 0, 1) := by decide +kernel
theorem dX12_worstOf_12 : decode cX12_worstOf 12 = .ok (.ireturn, 1) := by decide +kernel
theorem dX12_worstOf_13 : decode cX12_worstOf 13 = .ok (.aload_n 0, 1) := by decide +kernel
theorem dX12_worstOf_14 : decode cX12_worstOf 14 = .ok (.getfield 70, 3) := by decide +kernel
theorem dX12_worstOf_17 : decode cX12_worstOf 17 = .ok (.iload_n 1, 1) := by decide +kernel
theorem dX12_worstOf_18 : decode cX12_worstOf 18 = .ok (.iaload, 1) := by decide +kernel
theorem dX12_worstOf_19 : decode cX12_worstOf 19 = .ok (.iconst (-1), 1) := by decide +kernel
theorem dX12_worstOf_20 : decode cX12_worstOf 20 = .ok (.if_icmp .eq 10, 3) := by decide +kernel
theorem dX12_worstOf_23 : decode cX12_worstOf 23 = .ok (.aload_n 0, 1) := by decide +kernel
theorem dX12_worstOf_24 : decode cX12_worstOf 24 = .ok (.getfield 70, 3) := by decide +kernel
theorem dX12_worstOf_27 : decode cX12_worstOf 27 = .ok (.iload_n 1, 1) := by decide +kernel
theorem dX12_worstOf_28 : decode cX12_worstOf 28 = .ok (.iaload, 1) := by decide +kernel
theorem dX12_worstOf_29 : decode cX12_worstOf 29 = .ok (.ireturn, 1) := by decide +kernel
theorem dX12_worstOf_30 : decode cX12_worstOf 30 = .ok (.bipush 99, 2) := by decide +kernel
theorem dX12_worstOf_32 : decode cX12_worstOf 32 = .ok (.istore_n 2, 1) := by decide +kernel
theorem dX12_worstOf_33 : decode cX12_worstOf 33 = .ok (.iconst 0, 1) := by decide +kernel
theorem dX12_worstOf_34 : decode cX12_worstOf 34 = .ok (.istore_n 3, 1) := by decide +kernel
theorem dX12_worstOf_35 : decode cX12_worstOf 35 = .ok (.iload_n 3, 1) := by decide +kernel
theorem dX12_worstOf_36 : decode cX12_worstOf 36 = .ok (.aload_n 0, 1) := by decide +kernel
theorem dX12_worstOf_37 : decode cX12_worstOf 37 = .ok (.getfield 13, 3) := by decide +kernel
theorem dX12_worstOf_40 : decode cX12_worstOf 40 = .ok (.iconst 2, 1) := by decide +kernel
theorem dX12_worstOf_41 : decode cX12_worstOf 41 = .ok (.iaload, 1) := by decide +kernel
theorem dX12_worstOf_42 : decode cX12_worstOf 42 = .ok (.if_icmp .ge 30, 3) := by decide +kernel
theorem dX12_worstOf_45 : decode cX12_worstOf 45 = .ok (.aload_n 0, 1) := by decide +kernel
theorem dX12_worstOf_46 : decode cX12_worstOf 46 = .ok (.iload_n 1, 1) := by decide +kernel
theorem dX12_worstOf_47 : decode cX12_worstOf 47 = .ok (.iload_n 3, 1) := by decide +kernel
theorem dX12_worstOf_48 : decode cX12_worstOf 48 = .ok (.invokevirtual 363, 3) := by decide +kernel
theorem dX12_worstOf_51 : decode cX12_worstOf 51 = .ok (.istore 4, 2) := by decide +kernel
theorem dX12_worstOf_53 : decode cX12_worstOf 53 = .ok (.iload 4, 2) := by decide +kernel
theorem dX12_worstOf_55 : decode cX12_worstOf 55 = .ok (.iload_n 2, 1) := by decide +kernel
theorem dX12_worstOf_56 : decode cX12_worstOf 56 = .ok (.if_icmp .ge 8, 3) := by decide +kernel
theorem dX12_worstOf_59 : decode cX12_worstOf 59 = .ok (.iload 4, 2) := by decide +kernel
theorem dX12_worstOf_61 : decode cX12_worstOf 61 = .ok (.goto 4, 3) := by decide +kernel
theorem dX12_worstOf_64 : decode cX12_worstOf 64 = .ok (.iload_n 2, 1) := by decide +kernel
theorem dX12_worstOf_65 : decode cX12_worstOf 65 = .ok (.istore_n 2, 1) := by decide +kernel
theorem dX12_worstOf_66 : decode cX12_worstOf 66 = .ok (.iinc 3 1, 3) := by decide +kernel
theorem dX12_worstOf_69 : decode cX12_worstOf 69 = .ok (.goto (-34), 3) := by decide +kernel
theorem dX12_worstOf_72 : decode cX12_worstOf 72 = .ok (.aload_n 0, 1) := by decide +kernel
theorem dX12_worstOf_73 : decode cX12_worstOf 73 = .ok (.getfield 70, 3) := by decide +kernel
theorem dX12_worstOf_76 : decode cX12_worstOf 76 = .ok (.iload_n 1, 1) := by decide +kernel
theorem dX12_worstOf_77 : decode cX12_worstOf 77 = .ok (.iload_n 2, 1) := by decide +kernel
theorem dX12_worstOf_78 : decode cX12_worstOf 78 = .ok (.iastore, 1) := by decide +kernel
theorem dX12_worstOf_79 : decode cX12_worstOf 79 = .ok (.iload_n 2, 1) := by decide +kernel
theorem dX12_worstOf_80 : decode cX12_worstOf 80 = .ok (.ireturn, 1) := by decide +kernel
theorem dX12_worstBy_0 : decode cX12_worstBy 0 = .ok (.iload_n 1, 1) := by decide +kernel
theorem dX12_worstBy_1 : decode cX12_worstBy 1 = .ok (.aload_n 0, 1) := by decide +kernel
theorem dX12_worstBy_2 : decode cX12_worstBy 2 = .ok (.getfield 13, 3) := by decide +kernel
theorem dX12_worstBy_5 : decode cX12_worstBy 5 = .ok (.bipush 105, 2) := by decide +kernel
theorem dX12_worstBy_7 : decode cX12_worstBy 7 = .ok (.iload_n 2, 1) := by decide +kernel
theorem dX12_worstBy_8 : decode cX12_worstBy 8 = .ok (.iadd, 1) := by decide +kernel
theorem dX12_worstBy_9 : decode cX12_worstBy 9 = .ok (.iaload, 1) := by decide +kernel
theorem dX12_worstBy_10 : decode cX12_worstBy 10 = .ok (.invokestatic 229, 3) := by decide +kernel
theorem dX12_worstBy_13 : decode cX12_worstBy 13 = .ok (.ifCond .eq 6, 3) := by decide +kernel
theorem dX12_worstBy_16 : decode cX12_worstBy 16 = .ok (.bipush 99, 2) := by decide +kernel
theorem dX12_worstBy_18 : decode cX12_worstBy 18 = .ok (.ireturn, 1) := by decide +kernel
theorem dX12_worstBy_19 : decode cX12_worstBy 19 = .ok (.aload_n 0, 1) := by decide +kernel
theorem dX12_worstBy_20 : decode cX12_worstBy 20 = .ok (.iload_n 1, 1) := by decide +kernel
theorem dX12_worstBy_21 : decode cX12_worstBy 21 = .ok (.aload_n 0, 1) := by decide +kernel
theorem dX12_worstBy_22 : decode cX12_worstBy 22 = .ok (.getfield 13, 3) := by decide +kernel
theorem dX12_worstBy_25 : decode cX12_worstBy 25 = .ok (.bipush 105, 2) := by decide +kernel
theorem dX12_worstBy_27 : decode cX12_worstBy 27 = .ok (.iload_n 2, 1) := by decide +kernel
theorem dX12_worstBy_28 : decode cX12_worstBy 28 = .ok (.iadd, 1) := by decide +kernel
theorem dX12_worstBy_29 : decode cX12_worstBy 29 = .ok (.iaload, 1) := by decide +kernel
theorem dX12_worstBy_30 : decode cX12_worstBy 30 = .ok (.iand, 1) := by decide +kernel
theorem dX12_worstBy_31 : decode cX12_worstBy 31 = .ok (.invokevirtual 366, 3) := by decide +kernel
theorem dX12_worstBy_34 : decode cX12_worstBy 34 = .ok (.istore_n 3, 1) := by decide +kernel
theorem dX12_worstBy_35 : decode cX12_worstBy 35 = .ok (.aload_n 0, 1) := by decide +kernel
theorem dX12_worstBy_36 : decode cX12_worstBy 36 = .ok (.iload_n 1, 1) := by decide +kernel
theorem dX12_worstBy_37 : decode cX12_worstBy 37 = .ok (.aload_n 0, 1) := by decide +kernel
theorem dX12_worstBy_38 : decode cX12_worstBy 38 = .ok (.getfield 13, 3) := by decide +kernel
theorem dX12_worstBy_41 : decode cX12_worstBy 41 = .ok (.bipush 105, 2) := by decide +kernel
theorem dX12_worstBy_43 : decode cX12_worstBy 43 = .ok (.iload_n 2, 1) := by decide +kernel
theorem dX12_worstBy_44 : decode cX12_worstBy 44 = .ok (.iadd, 1) := by decide +kernel
theorem dX12_worstBy_45 : decode cX12_worstBy 45 = .ok (.iaload, 1) := by decide +kernel
theorem dX12_worstBy_46 : decode cX12_worstBy 46 = .ok (.iconst (-1), 1) := by decide +kernel
theorem dX12_worstBy_47 : decode cX12_worstBy 47 = .ok (.ixor, 1) := by decide +kernel
theorem dX12_worstBy_48 : decode cX12_worstBy 48 = .ok (.iand, 1) := by decide +kernel
theorem dX12_worstBy_49 : decode cX12_worstBy 49 = .ok (.invokevirtual 366, 3) := by decide +kernel
theorem dX12_worstBy_52 : decode cX12_worstBy 52 = .ok (.istore 4, 2) := by decide +kernel
theorem dX12_worstBy_54 : decode cX12_worstBy 54 = .ok (.iconst 1, 1) := by decide +kernel
theorem dX12_worstBy_55 : decode cX12_worstBy 55 = .ok (.iload_n 3, 1) := by decide +kernel
theorem dX12_worstBy_56 : decode cX12_worstBy 56 = .ok (.iload 4, 2) := by decide +kernel
theorem dX12_worstBy_58 : decode cX12_worstBy 58 = .ok (.if_icmp .le 7, 3) := by decide +kernel
theorem dX12_worstBy_61 : decode cX12_worstBy 61 = .ok (.iload_n 3, 1) := by decide +kernel
theorem dX12_worstBy_62 : decode cX12_worstBy 62 = .ok (.goto 5, 3) := by decide +kernel
theorem dX12_worstBy_65 : decode cX12_worstBy 65 = .ok (.iload 4, 2) := by decide +kernel
theorem dX12_worstBy_67 : decode cX12_worstBy 67 = .ok (.iadd, 1) := by decide +kernel
theorem dX12_worstBy_68 : decode cX12_worstBy 68 = .ok (.istore 5, 2) := by decide +kernel
theorem dX12_worstBy_70 : decode cX12_worstBy 70 = .ok (.iload 5, 2) := by decide +kernel
theorem dX12_worstBy_72 : decode cX12_worstBy 72 = .ok (.bipush 99, 2) := by decide +kernel
theorem dX12_worstBy_74 : decode cX12_worstBy 74 = .ok (.if_icmp .le 8, 3) := by decide +kernel
theorem dX12_worstBy_77 : decode cX12_worstBy 77 = .ok (.bipush 99, 2) := by decide +kernel
theorem dX12_worstBy_79 : decode cX12_worstBy 79 = .ok (.goto 5, 3) := by decide +kernel
theorem dX12_worstBy_82 : decode cX12_worstBy 82 = .ok (.iload 5, 2) := by decide +kernel
theorem dX12_worstBy_84 : decode cX12_worstBy 84 = .ok (.ireturn, 1) := by decide +kernel
theorem dX12_trial_0 : decode cX12_trial 0 = .ok (.aload_n 0, 1) := by decide +kernel
theorem dX12_trial_1 : decode cX12_trial 1 = .ok (.iconst 0, 1) := by decide +kernel
theorem dX12_trial_2 : decode cX12_trial 2 = .ok (.putfield 1, 3) := by decide +kernel
theorem dX12_trial_5 : decode cX12_trial 5 = .ok (.aload_n 0, 1) := by decide +kernel
theorem dX12_trial_6 : decode cX12_trial 6 = .ok (.iload_n 1, 1) := by decide +kernel
theorem dX12_trial_7 : decode cX12_trial 7 = .ok (.i2l, 1) := by decide +kernel
theorem dX12_trial_8 : decode cX12_trial 8 = .ok (.invokevirtual 245, 3) := by decide +kernel
theorem dX12_trial_11 : decode cX12_trial 11 = .ok (.ifCond .eq 13, 3) := by decide +kernel
theorem dX12_trial_14 : decode cX12_trial 14 = .ok (.iload_n 2, 1) := by decide +kernel
theorem dX12_trial_15 : decode cX12_trial 15 = .ok (.i2l, 1) := by decide +kernel
theorem dX12_trial_16 : decode cX12_trial 16 = .ok (.lconst 0, 1) := by decide +kernel
theorem dX12_trial_17 : decode cX12_trial 17 = .ok (.lconst 1, 1) := by decide +kernel
theorem dX12_trial_18 : decode cX12_trial 18 = .ok (.invokestatic 145, 3) := by decide +kernel
theorem dX12_trial_21 : decode cX12_trial 21 = .ok (.ifCond .ne 6, 3) := by decide +kernel
theorem dX12_trial_24 : decode cX12_trial 24 = .ok (.bipush (-2), 2) := by decide +kernel
theorem dX12_trial_26 : decode cX12_trial 26 = .ok (.ireturn, 1) := by decide +kernel
theorem dX12_trial_27 : decode cX12_trial 27 = .ok (.aload_n 0, 1) := by decide +kernel
theorem dX12_trial_28 : decode cX12_trial 28 = .ok (.getfield 13, 3) := by decide +kernel
theorem dX12_trial_31 : decode cX12_trial 31 = .ok (.iconst 1, 1) := by decide +kernel
theorem dX12_trial_32 : decode cX12_trial 32 = .ok (.iaload, 1) := by decide +kernel
theorem dX12_trial_33 : decode cX12_trial 33 = .ok (.ifCond .ne 6, 3) := by decide +kernel
theorem dX12_trial_36 : decode cX12_trial 36 = .ok (.bipush (-5), 2) := by decide +kernel
theorem dX12_trial_38 : decode cX12_trial 38 = .ok (.ireturn, 1) := by decide +kernel
theorem dX12_trial_39 : decode cX12_trial 39 = .ok (.iconst 0, 1) := by decide +kernel
theorem dX12_trial_40 : decode cX12_trial 40 = .ok (.istore_n 3, 1) := by decide +kernel
theorem dX12_trial_41 : decode cX12_trial 41 = .ok (.iload_n 3, 1) := by decide +kernel
theorem dX12_trial_42 : decode cX12_trial 42 = .ok (.aload_n 0, 1) := by decide +kernel
theorem dX12_trial_43 : decode cX12_trial 43 = .ok (.invokevirtual 226, 3) := by decide +kernel
theorem dX12_trial_46 : decode cX12_trial 46 = .ok (.if_icmp .gt 16, 3) := by decide +kernel
theorem dX12_trial_49 : decode cX12_trial 49 = .ok (.aload_n 0, 1) := by decide +kernel
theorem dX12_trial_50 : decode cX12_trial 50 = .ok (.getfield 70, 3) := by decide +kernel
theorem dX12_trial_53 : decode cX12_trial 53 = .ok (.iload_n 3, 1) := by decide +kernel
theorem dX12_trial_54 : decode cX12_trial 54 = .ok (.iconst (-1), 1) := by decide +kernel
theorem dX12_trial_55 : decode cX12_trial 55 = .ok (.iastore, 1) := by decide +kernel
theorem dX12_trial_56 : decode cX12_trial 56 = .ok (.iinc 3 1, 3) := by decide +kernel
theorem dX12_trial_59 : decode cX12_trial 59 = .ok (.goto (-18), 3) := by decide +kernel
theorem dX12_trial_62 : decode cX12_trial 62 = .ok (.aload_n 0, 1) := by decide +kernel
theorem dX12_trial_63 : decode cX12_trial 63 = .ok (.iload_n 1, 1) := by decide +kernel
theorem dX12_trial_64 : decode cX12_trial 64 = .ok (.invokevirtual 248, 3) := by decide +kernel
theorem dX12_trial_67 : decode cX12_trial 67 = .ok (.istore_n 3, 1) := by decide +kernel
theorem dX12_trial_68 : decode cX12_trial 68 = .ok (.aload_n 0, 1) := by decide +kernel
theorem dX12_trial_69 : decode cX12_trial 69 = .ok (.iload_n 3, 1) := by decide +kernel
theorem dX12_trial_70 : decode cX12_trial 70 = .ok (.invokevirtual 366, 3) := by decide +kernel
theorem dX12_trial_73 : decode cX12_trial 73 = .ok (.istore 4, 2) := by decide +kernel
theorem dX12_trial_75 : decode cX12_trial 75 = .ok (.iload 4, 2) := by decide +kernel
theorem dX12_trial_77 : decode cX12_trial 77 = .ok (.bipush 99, 2) := by decide +kernel
theorem dX12_trial_79 : decode cX12_trial 79 = .ok (.if_icmp .ne 5, 3) := by decide +kernel
theorem dX12_trial_82 : decode cX12_trial 82 = .ok (.iconst (-1), 1) := by decide +kernel
theorem dX12_trial_83 : decode cX12_trial 83 = .ok (.ireturn, 1) := by decide +kernel
theorem dX12_trial_84 : decode cX12_trial 84 = .ok (.iload_n 2, 1) := by decide +kernel
theorem dX12_trial_85 : decode cX12_trial 85 = .ok (.ifCond .eq 8, 3) := by decide +kernel
theorem dX12_trial_88 : decode cX12_trial 88 = .ok (.iload 4, 2) := by decide +kernel
theorem dX12_trial_90 : decode cX12_trial 90 = .ok (.ifCond .ne 14, 3) := by decide +kernel
theorem dX12_trial_93 : decode cX12_trial 93 = .ok (.iload_n 2, 1) := by decide +kernel
theorem dX12_trial_94 : decode cX12_trial 94 = .ok (.ifCond .ne 8, 3) := by decide +kernel
theorem dX12_trial_97 : decode cX12_trial 97 = .ok (.iload 4, 2) := by decide +kernel
theorem dX12_trial_99 : decode cX12_trial 99 = .ok (.goto 4, 3) := by decide +kernel
theorem dX12_trial_102 : decode cX12_trial 102 = .ok (.iconst (-1), 1) := by decide +kernel
theorem dX12_trial_103 : decode cX12_trial 103 = .ok (.ireturn, 1) := by decide +kernel
theorem dX12_trial_104 : decode cX12_trial 104 = .ok (.iconst 0, 1) := by decide +kernel
theorem dX12_trial_105 : decode cX12_trial 105 = .ok (.istore 5, 2) := by decide +kernel
theorem dX12_trial_107 : decode cX12_trial 107 = .ok (.aload_n 0, 1) := by decide +kernel
theorem dX12_trial_108 : decode cX12_trial 108 = .ok (.iload_n 3, 1) := by decide +kernel
theorem dX12_trial_109 : decode cX12_trial 109 = .ok (.iload 5, 2) := by decide +kernel
theorem dX12_trial_111 : decode cX12_trial 111 = .ok (.invokevirtual 363, 3) := by decide +kernel
theorem dX12_trial_114 : decode cX12_trial 114 = .ok (.iload 4, 2) := by decide +kernel
theorem dX12_trial_116 : decode cX12_trial 116 = .ok (.if_icmp .eq 9, 3) := by decide +kernel
theorem dX12_trial_119 : decode cX12_trial 119 = .ok (.iinc 5 1, 3) := by decide +kernel
theorem dX12_trial_122 : decode cX12_trial 122 = .ok (.goto (-15), 3) := by decide +kernel
theorem dX12_trial_125 : decode cX12_trial 125 = .ok (.iload 5, 2) := by decide +kernel
theorem dX12_trial_127 : decode cX12_trial 127 = .ok (.ireturn, 1) := by decide +kernel
theorem dX12_brief_0 : decode cX12_brief 0 = .ok (.aload_n 0, 1) := by decide +kernel
theorem dX12_brief_1 : decode cX12_brief 1 = .ok (.iconst 0, 1) := by decide +kernel
theorem dX12_brief_2 : decode cX12_brief 2 = .ok (.putfield 1, 3) := by decide +kernel
theorem dX12_brief_5 : decode cX12_brief 5 = .ok (.aload_n 0, 1) := by decide +kernel
theorem dX12_brief_6 : decode cX12_brief 6 = .ok (.iload_n 1, 1) := by decide +kernel
theorem dX12_brief_7 : decode cX12_brief 7 = .ok (.i2l, 1) := by decide +kernel
theorem dX12_brief_8 : decode cX12_brief 8 = .ok (.invokevirtual 245, 3) := by decide +kernel
theorem dX12_brief_11 : decode cX12_brief 11 = .ok (.ifCond .ne 6, 3) := by decide +kernel
theorem dX12_brief_14 : decode cX12_brief 14 = .ok (.bipush (-2), 2) := by decide +kernel
theorem dX12_brief_16 : decode cX12_brief 16 = .ok (.ireturn, 1) := by decide +kernel
theorem dX12_brief_17 : decode cX12_brief 17 = .ok (.aload_n 0, 1) := by decide +kernel
theorem dX12_brief_18 : decode cX12_brief 18 = .ok (.getfield 13, 3) := by decide +kernel
theorem dX12_brief_21 : decode cX12_brief 21 = .ok (.iconst 1, 1) := by decide +kernel
theorem dX12_brief_22 : decode cX12_brief 22 = .ok (.iaload, 1) := by decide +kernel
theorem dX12_brief_23 : decode cX12_brief 23 = .ok (.ifCond .ne 6, 3) := by decide +kernel
theorem dX12_brief_26 : decode cX12_brief 26 = .ok (.bipush (-5), 2) := by decide +kernel
theorem dX12_brief_28 : decode cX12_brief 28 = .ok (.ireturn, 1) := by decide +kernel
theorem dX12_brief_29 : decode cX12_brief 29 = .ok (.iconst (-1), 1) := by decide +kernel
theorem dX12_brief_30 : decode cX12_brief 30 = .ok (.istore_n 2, 1) := by decide +kernel
theorem dX12_brief_31 : decode cX12_brief 31 = .ok (.iconst 0, 1) := by decide +kernel
theorem dX12_brief_32 : decode cX12_brief 32 = .ok (.istore_n 3, 1) := by decide +kernel
theorem dX12_brief_33 : decode cX12_brief 33 = .ok (.iload_n 3, 1) := by decide +kernel
theorem dX12_brief_34 : decode cX12_brief 34 = .ok (.iconst 1, 1) := by decide +kernel
theorem dX12_brief_35 : decode cX12_brief 35 = .ok (.aload_n 0, 1) := by decide +kernel
theorem dX12_brief_36 : decode cX12_brief 36 = .ok (.getfield 13, 3) := by decide +kernel
theorem dX12_brief_39 : decode cX12_brief 39 = .ok (.iconst 2, 1) := by decide +kernel
theorem dX12_brief_40 : decode cX12_brief 40 = .ok (.iaload, 1) := by decide +kernel
theorem dX12_brief_41 : decode cX12_brief 41 = .ok (.ishl, 1) := by decide +kernel
theorem dX12_brief_42 : decode cX12_brief 42 = .ok (.if_icmp .ge 57, 3) := by decide +kernel
theorem dX12_brief_45 : decode cX12_brief 45 = .ok (.iload_n 2, 1) := by decide +kernel
theorem dX12_brief_46 : decode cX12_brief 46 = .ok (.iconst (-1), 1) := by decide +kernel
theorem dX12_brief_47 : decode cX12_brief 47 = .ok (.if_icmp .eq 14, 3) := by decide +kernel
theorem dX12_brief_50 : decode cX12_brief 50 = .ok (.iload_n 3, 1) := by decide +kernel
theorem dX12_brief_51 : decode cX12_brief 51 = .ok (.invokestatic 266, 3) := by decide +kernel
theorem dX12_brief_54 : decode cX12_brief 54 = .ok (.iload_n 2, 1) := by decide +kernel
theorem dX12_brief_55 : decode cX12_brief 55 = .ok (.invokestatic 266, 3) := by decide +kernel
theorem dX12_brief_58 : decode cX12_brief 58 = .ok (.if_icmp .ge 35, 3) := by decide +kernel
theorem dX12_brief_61 : decode cX12_brief 61 = .ok (.aload_n 0, 1) := by decide +kernel
theorem dX12_brief_62 : decode cX12_brief 62 = .ok (.aload_n 0, 1) := by decide +kernel
theorem dX12_brief_63 : decode cX12_brief 63 = .ok (.getfield 13, 3) := by decide +kernel
theorem dX12_brief_66 : decode cX12_brief 66 = .ok (.iconst 5, 1) := by decide +kernel
theorem dX12_brief_67 : decode cX12_brief 67 = .ok (.iload_n 1, 1) := by decide +kernel
theorem dX12_brief_68 : decode cX12_brief 68 = .ok (.iadd, 1) := by decide +kernel
theorem dX12_brief_69 : decode cX12_brief 69 = .ok (.iaload, 1) := by decide +kernel
theorem dX12_brief_70 : decode cX12_brief 70 = .ok (.iload_n 3, 1) := by decide +kernel
theorem dX12_brief_71 : decode cX12_brief 71 = .ok (.ior, 1) := by decide +kernel
theorem dX12_brief_72 : decode cX12_brief 72 = .ok (.aload_n 0, 1) := by decide +kernel
theorem dX12_brief_73 : decode cX12_brief 73 = .ok (.getfield 13, 3) := by decide +kernel
theorem dX12_brief_76 : decode cX12_brief 76 = .ok (.iconst 4, 1) := by decide +kernel
theorem dX12_brief_77 : decode cX12_brief 77 = .ok (.iaload, 1) := by decide +kernel
theorem dX12_brief_78 : decode cX12_brief 78 = .ok (.invokevirtual 232, 3) := by decide +kernel
theorem dX12_brief_81 : decode cX12_brief 81 = .ok (.aload_n 0, 1) := by decide +kernel
theorem dX12_brief_82 : decode cX12_brief 82 = .ok (.invokevirtual 254, 3) := by decide +kernel
theorem dX12_brief_85 : decode cX12_brief 85 = .ok (.invokestatic 229, 3) := by decide +kernel
theorem dX12_brief_88 : decode cX12_brief 88 = .ok (.ifCond .eq 5, 3) := by decide +kernel
theorem dX12_brief_91 : decode cX12_brief 91 = .ok (.iload_n 3, 1) := by decide +kernel
theorem dX12_brief_92 : decode cX12_brief 92 = .ok (.istore_n 2, 1) := by decide +kernel
theorem dX12_brief_93 : decode cX12_brief 93 = .ok (.iinc 3 1, 3) := by decide +kernel
theorem dX12_brief_96 : decode cX12_brief 96 = .ok (.goto (-63), 3) := by decide +kernel
theorem dX12_brief_99 : decode cX12_brief 99 = .ok (.iload_n 2, 1) := by decide +kernel
theorem dX12_brief_100 : decode cX12_brief 100 = .ok (.ireturn, 1) := by decide +kernel
theorem dX12_isRight_0 : decode cX12_isRight 0 = .ok (.aload_n 0, 1) := by decide +kernel
theorem dX12_isRight_1 : decode cX12_isRight 1 = .ok (.aload_n 0, 1) := by decide +kernel
theorem dX12_isRight_2 : decode cX12_isRight 2 = .ok (.getfield 13, 3) := by decide +kernel
theorem dX12_isRight_5 : decode cX12_isRight 5 = .ok (.iconst 5, 1) := by decide +kernel
theorem dX12_isRight_6 : decode cX12_isRight 6 = .ok (.iload_n 1, 1) := by decide +kernel
theorem dX12_isRight_7 : decode cX12_isRight 7 = .ok (.iadd, 1) := by decide +kernel
theorem dX12_isRight_8 : decode cX12_isRight 8 = .ok (.iaload, 1) := by decide +kernel
theorem dX12_isRight_9 : decode cX12_isRight 9 = .ok (.iload_n 2, 1) := by decide +kernel
theorem dX12_isRight_10 : decode cX12_isRight 10 = .ok (.invokevirtual 232, 3) := by decide +kernel
theorem dX12_isRight_13 : decode cX12_isRight 13 = .ok (.istore_n 3, 1) := by decide +kernel
theorem dX12_isRight_14 : decode cX12_isRight 14 = .ok (.aload_n 0, 1) := by decide +kernel
theorem dX12_isRight_15 : decode cX12_isRight 15 = .ok (.invokevirtual 254, 3) := by decide +kernel
theorem dX12_isRight_18 : decode cX12_isRight 18 = .ok (.i2l, 1) := by decide +kernel
theorem dX12_isRight_19 : decode cX12_isRight 19 = .ok (.iload_n 2, 1) := by decide +kernel
theorem dX12_isRight_20 : decode cX12_isRight 20 = .ok (.invokestatic 222, 3) := by decide +kernel
theorem dX12_isRight_23 : decode cX12_isRight 23 = .ok (.ifCond .eq 10, 3) := by decide +kernel
theorem dX12_isRight_26 : decode cX12_isRight 26 = .ok (.aload_n 0, 1) := by decide +kernel
theorem dX12_isRight_27 : decode cX12_isRight 27 = .ok (.invokevirtual 254, 3) := by decide +kernel
theorem dX12_isRight_30 : decode cX12_isRight 30 = .ok (.goto 14, 3) := by decide +kernel
theorem dX12_isRight_33 : decode cX12_isRight 33 = .ok (.aload_n 0, 1) := by decide +kernel
theorem dX12_isRight_34 : decode cX12_isRight 34 = .ok (.invokevirtual 226, 3) := by decide +kernel
theorem dX12_isRight_37 : decode cX12_isRight 37 = .ok (.aload_n 0, 1) := by decide +kernel
theorem dX12_isRight_38 : decode cX12_isRight 38 = .ok (.invokevirtual 254, 3) := by decide +kernel
theorem dX12_isRight_41 : decode cX12_isRight 41 = .ok (.iconst (-1), 1) := by decide +kernel
theorem dX12_isRight_42 : decode cX12_isRight 42 = .ok (.ixor, 1) := by decide +kernel
theorem dX12_isRight_43 : decode cX12_isRight 43 = .ok (.iand, 1) := by decide +kernel
theorem dX12_isRight_44 : decode cX12_isRight 44 = .ok (.istore 4, 2) := by decide +kernel
theorem dX12_isRight_46 : decode cX12_isRight 46 = .ok (.aload_n 0, 1) := by decide +kernel
theorem dX12_isRight_47 : decode cX12_isRight 47 = .ok (.iload_n 3, 1) := by decide +kernel
theorem dX12_isRight_48 : decode cX12_isRight 48 = .ok (.iload 4, 2) := by decide +kernel
theorem dX12_isRight_50 : decode cX12_isRight 50 = .ok (.iand, 1) := by decide +kernel
theorem dX12_isRight_51 : decode cX12_isRight 51 = .ok (.invokevirtual 321, 3) := by decide +kernel
theorem dX12_isRight_54 : decode cX12_isRight 54 = .ok (.aload_n 0, 1) := by decide +kernel
theorem dX12_isRight_55 : decode cX12_isRight 55 = .ok (.iload_n 3, 1) := by decide +kernel
theorem dX12_isRight_56 : decode cX12_isRight 56 = .ok (.iload 4, 2) := by decide +kernel
theorem dX12_isRight_58 : decode cX12_isRight 58 = .ok (.iconst (-1), 1) := by decide +kernel
theorem dX12_isRight_59 : decode cX12_isRight 59 = .ok (.ixor, 1) := by decide +kernel
theorem dX12_isRight_60 : decode cX12_isRight 60 = .ok (.iand, 1) := by decide +kernel
theorem dX12_isRight_61 : decode cX12_isRight 61 = .ok (.invokevirtual 321, 3) := by decide +kernel
theorem dX12_isRight_64 : decode cX12_isRight 64 = .ok (.if_icmp .le 7, 3) := by decide +kernel
theorem dX12_isRight_67 : decode cX12_isRight 67 = .ok (.iconst 1, 1) := by decide +kernel
theorem dX12_isRight_68 : decode cX12_isRight 68 = .ok (.goto 4, 3) := by decide +kernel
theorem dX12_isRight_71 : decode cX12_isRight 71 = .ok (.iconst 0, 1) := by decide +kernel
theorem dX12_isRight_72 : decode cX12_isRight 72 = .ok (.ireturn, 1) := by decide +kernel
theorem dX12_right_0 : decode cX12_right 0 = .ok (.aload_n 0, 1) := by decide +kernel
theorem dX12_right_1 : decode cX12_right 1 = .ok (.iconst 0, 1) := by decide +kernel
theorem dX12_right_2 : decode cX12_right 2 = .ok (.putfield 1, 3) := by decide +kernel
theorem dX12_right_5 : decode cX12_right 5 = .ok (.aload_n 0, 1) := by decide +kernel
theorem dX12_right_6 : decode cX12_right 6 = .ok (.iload_n 1, 1) := by decide +kernel
theorem dX12_right_7 : decode cX12_right 7 = .ok (.i2l, 1) := by decide +kernel
theorem dX12_right_8 : decode cX12_right 8 = .ok (.invokevirtual 245, 3) := by decide +kernel
theorem dX12_right_11 : decode cX12_right 11 = .ok (.ifCond .ne 6, 3) := by decide +kernel
theorem dX12_right_14 : decode cX12_right 14 = .ok (.bipush (-2), 2) := by decide +kernel
theorem dX12_right_16 : decode cX12_right 16 = .ok (.ireturn, 1) := by decide +kernel
theorem dX12_right_17 : decode cX12_right 17 = .ok (.iconst 0, 1) := by decide +kernel
theorem dX12_right_18 : decode cX12_right 18 = .ok (.istore_n 2, 1) := by decide +kernel
theorem dX12_right_19 : decode cX12_right 19 = .ok (.iconst 0, 1) := by decide +kernel
theorem dX12_right_20 : decode cX12_right 20 = .ok (.istore_n 3, 1) := by decide +kernel
theorem dX12_right_21 : decode cX12_right 21 = .ok (.iload_n 3, 1) := by decide +kernel
theorem dX12_right_22 : decode cX12_right 22 = .ok (.aload_n 0, 1) := by decide +kernel
theorem dX12_right_23 : decode cX12_right 23 = .ok (.getfield 13, 3) := by decide +kernel
theorem dX12_right_26 : decode cX12_right 26 = .ok (.iconst 1, 1) := by decide +kernel
theorem dX12_right_27 : decode cX12_right 27 = .ok (.iaload, 1) := by decide +kernel
theorem dX12_right_28 : decode cX12_right 28 = .ok (.if_icmp .ge 34, 3) := by decide +kernel
theorem dX12_right_31 : decode cX12_right 31 = .ok (.iload_n 2, 1) := by decide +kernel
theorem dX12_right_32 : decode cX12_right 32 = .ok (.aload_n 0, 1) := by decide +kernel
theorem dX12_right_33 : decode cX12_right 33 = .ok (.iload_n 1, 1) := by decide +kernel
theorem dX12_right_34 : decode cX12_right 34 = .ok (.iload_n 3, 1) := by decide +kernel
theorem dX12_right_35 : decode cX12_right 35 = .ok (.invokevirtual 369, 3) := by decide +kernel
theorem dX12_right_38 : decode cX12_right 38 = .ok (.ifCond .eq 15, 3) := by decide +kernel
theorem dX12_right_41 : decode cX12_right 41 = .ok (.aload_n 0, 1) := by decide +kernel
theorem dX12_right_42 : decode cX12_right 42 = .ok (.getfield 13, 3) := by decide +kernel
theorem dX12_right_45 : decode cX12_right 45 = .ok (.bipush 59, 2) := by decide +kernel
theorem dX12_right_47 : decode cX12_right 47 = .ok (.iload_n 3, 1) := by decide +kernel
theorem dX12_right_48 : decode cX12_right 48 = .ok (.iadd, 1) := by decide +kernel
theorem dX12_right_49 : decode cX12_right 49 = .ok (.iaload, 1) := by decide +kernel
theorem dX12_right_50 : decode cX12_right 50 = .ok (.goto 4, 3) := by decide +kernel
theorem dX12_right_53 : decode cX12_right 53 = .ok (.iconst 0, 1) := by decide +kernel
theorem dX12_right_54 : decode cX12_right 54 = .ok (.iadd, 1) := by decide +kernel
theorem dX12_right_55 : decode cX12_right 55 = .ok (.istore_n 2, 1) := by decide +kernel
theorem dX12_right_56 : decode cX12_right 56 = .ok (.iinc 3 1, 3) := by decide +kernel
theorem dX12_right_59 : decode cX12_right 59 = .ok (.goto (-38), 3) := by decide +kernel
theorem dX12_right_62 : decode cX12_right 62 = .ok (.iload_n 2, 1) := by decide +kernel
theorem dX12_right_63 : decode cX12_right 63 = .ok (.ireturn, 1) := by decide +kernel
theorem dX12_justiceOf_0 : decode cX12_justiceOf 0 = .ok (.iconst 0, 1) := by decide +kernel
theorem dX12_justiceOf_1 : decode cX12_justiceOf 1 = .ok (.istore_n 2, 1) := by decide +kernel
theorem dX12_justiceOf_2 : decode cX12_justiceOf 2 = .ok (.iconst 0, 1) := by decide +kernel
theorem dX12_justiceOf_3 : decode cX12_justiceOf 3 = .ok (.istore_n 3, 1) := by decide +kernel
theorem dX12_justiceOf_4 : decode cX12_justiceOf 4 = .ok (.iload_n 3, 1) := by decide +kernel
theorem dX12_justiceOf_5 : decode cX12_justiceOf 5 = .ok (.aload_n 0, 1) := by decide +kernel
theorem dX12_justiceOf_6 : decode cX12_justiceOf 6 = .ok (.getfield 13, 3) := by decide +kernel
theorem dX12_justiceOf_9 : decode cX12_justiceOf 9 = .ok (.iconst 1, 1) := by decide +kernel
theorem dX12_justiceOf_10 : decode cX12_justiceOf 10 = .ok (.iaload, 1) := by decide +kernel
theorem dX12_justiceOf_11 : decode cX12_justiceOf 11 = .ok (.if_icmp .ge 39, 3) := by decide +kernel
theorem dX12_justiceOf_14 : decode cX12_justiceOf 14 = .ok (.iload_n 2, 1) := by decide +kernel
theorem dX12_justiceOf_15 : decode cX12_justiceOf 15 = .ok (.aload_n 0, 1) := by decide +kernel
theorem dX12_justiceOf_16 : decode cX12_justiceOf 16 = .ok (.aload_n 0, 1) := by decide +kernel
theorem dX12_justiceOf_17 : decode cX12_justiceOf 17 = .ok (.iload_n 1, 1) := by decide +kernel
theorem dX12_justiceOf_18 : decode cX12_justiceOf 18 = .ok (.iload_n 3, 1) := by decide +kernel
theorem dX12_justiceOf_19 : decode cX12_justiceOf 19 = .ok (.invokevirtual 294, 3) := by decide +kernel
theorem dX12_justiceOf_22 : decode cX12_justiceOf 22 = .ok (.iload_n 3, 1) := by decide +kernel
theorem dX12_justiceOf_23 : decode cX12_justiceOf 23 = .ok (.invokevirtual 369, 3) := by decide +kernel
theorem dX12_justiceOf_26 : decode cX12_justiceOf 26 = .ok (.ifCond .eq 15, 3) := by decide +kernel
theorem dX12_justiceOf_29 : decode cX12_justiceOf 29 = .ok (.aload_n 0, 1) := by decide +kernel
theorem dX12_justiceOf_30 : decode cX12_justiceOf 30 = .ok (.getfield 13, 3) := by decide +kernel
theorem dX12_justiceOf_33 : decode cX12_justiceOf 33 = .ok (.bipush 59, 2) := by decide +kernel
theorem dX12_justiceOf_35 : decode cX12_justiceOf 35 = .ok (.iload_n 3, 1) := by decide +kernel
theorem dX12_justiceOf_36 : decode cX12_justiceOf 36 = .ok (.iadd, 1) := by decide +kernel
theorem dX12_justiceOf_37 : decode cX12_justiceOf 37 = .ok (.iaload, 1) := by decide +kernel
theorem dX12_justiceOf_38 : decode cX12_justiceOf 38 = .ok (.goto 4, 3) := by decide +kernel
theorem dX12_justiceOf_41 : decode cX12_justiceOf 41 = .ok (.iconst 0, 1) := by decide +kernel
theorem dX12_justiceOf_42 : decode cX12_justiceOf 42 = .ok (.iadd, 1) := by decide +kernel
theorem dX12_justiceOf_43 : decode cX12_justiceOf 43 = .ok (.istore_n 2, 1) := by decide +kernel
theorem dX12_justiceOf_44 : decode cX12_justiceOf 44 = .ok (.iinc 3 1, 3) := by decide +kernel
theorem dX12_justiceOf_47 : decode cX12_justiceOf 47 = .ok (.goto (-43), 3) := by decide +kernel
theorem dX12_justiceOf_50 : decode cX12_justiceOf 50 = .ok (.iload_n 2, 1) := by decide +kernel
theorem dX12_justiceOf_51 : decode cX12_justiceOf 51 = .ok (.ireturn, 1) := by decide +kernel
theorem dX12_justice_0 : decode cX12_justice 0 = .ok (.aload_n 0, 1) := by decide +kernel
theorem dX12_justice_1 : decode cX12_justice 1 = .ok (.iconst 0, 1) := by decide +kernel
theorem dX12_justice_2 : decode cX12_justice 2 = .ok (.putfield 1, 3) := by decide +kernel
theorem dX12_justice_5 : decode cX12_justice 5 = .ok (.iload_n 1, 1) := by decide +kernel
theorem dX12_justice_6 : decode cX12_justice 6 = .ok (.i2l, 1) := by decide +kernel
theorem dX12_justice_7 : decode cX12_justice 7 = .ok (.lconst 0, 1) := by decide +kernel
theorem dX12_justice_8 : decode cX12_justice 8 = .ok (.ldc2_w 289, 3) := by decide +kernel
theorem dX12_justice_11 : decode cX12_justice 11 = .ok (.invokestatic 145, 3) := by decide +kernel
theorem dX12_justice_14 : decode cX12_justice 14 = .ok (.ifCond .ne 6, 3) := by decide +kernel
theorem dX12_justice_17 : decode cX12_justice 17 = .ok (.bipush (-2), 2) := by decide +kernel
theorem dX12_justice_19 : decode cX12_justice 19 = .ok (.ireturn, 1) := by decide +kernel
theorem dX12_justice_20 : decode cX12_justice 20 = .ok (.aload_n 0, 1) := by decide +kernel
theorem dX12_justice_21 : decode cX12_justice 21 = .ok (.getfield 13, 3) := by decide +kernel
theorem dX12_justice_24 : decode cX12_justice 24 = .ok (.iconst 3, 1) := by decide +kernel
theorem dX12_justice_25 : decode cX12_justice 25 = .ok (.iaload, 1) := by decide +kernel
theorem dX12_justice_26 : decode cX12_justice 26 = .ok (.ifCond .ne 8, 3) := by decide +kernel
theorem dX12_justice_29 : decode cX12_justice 29 = .ok (.bipush (-5), 2) := by decide +kernel
theorem dX12_justice_31 : decode cX12_justice 31 = .ok (.goto 8, 3) := by decide +kernel
theorem dX12_justice_34 : decode cX12_justice 34 = .ok (.aload_n 0, 1) := by decide +kernel
theorem dX12_justice_35 : decode cX12_justice 35 = .ok (.iload_n 1, 1) := by decide +kernel
theorem dX12_justice_36 : decode cX12_justice 36 = .ok (.invokevirtual 372, 3) := by decide +kernel
theorem dX12_justice_39 : decode cX12_justice 39 = .ok (.ireturn, 1) := by decide +kernel
theorem dX12_bestLaw_0 : decode cX12_bestLaw 0 = .ok (.aload_n 0, 1) := by decide +kernel
theorem dX12_bestLaw_1 : decode cX12_bestLaw 1 = .ok (.iconst 0, 1) := by decide +kernel
theorem dX12_bestLaw_2 : decode cX12_bestLaw 2 = .ok (.putfield 1, 3) := by decide +kernel
theorem dX12_bestLaw_5 : decode cX12_bestLaw 5 = .ok (.aload_n 0, 1) := by decide +kernel
theorem dX12_bestLaw_6 : decode cX12_bestLaw 6 = .ok (.getfield 13, 3) := by decide +kernel
theorem dX12_bestLaw_9 : decode cX12_bestLaw 9 = .ok (.iconst 3, 1) := by decide +kernel
theorem dX12_bestLaw_10 : decode cX12_bestLaw 10 = .ok (.iaload, 1) := by decide +kernel
theorem dX12_bestLaw_11 : decode cX12_bestLaw 11 = .ok (.ifCond .ne 6, 3) := by decide +kernel
theorem dX12_bestLaw_14 : decode cX12_bestLaw 14 = .ok (.bipush (-5), 2) := by decide +kernel
theorem dX12_bestLaw_16 : decode cX12_bestLaw 16 = .ok (.ireturn, 1) := by decide +kernel
theorem dX12_bestLaw_17 : decode cX12_bestLaw 17 = .ok (.iconst 0, 1) := by decide +kernel
theorem dX12_bestLaw_18 : decode cX12_bestLaw 18 = .ok (.istore_n 1, 1) := by decide +kernel
theorem dX12_bestLaw_19 : decode cX12_bestLaw 19 = .ok (.iconst 1, 1) := by decide +kernel
theorem dX12_bestLaw_20 : decode cX12_bestLaw 20 = .ok (.istore_n 2, 1) := by decide +kernel
theorem dX12_bestLaw_21 : decode cX12_bestLaw 21 = .ok (.iload_n 2, 1) := by decide +kernel
theorem dX12_bestLaw_22 : decode cX12_bestLaw 22 = .ok (.iconst 4, 1) := by decide +kernel
theorem dX12_bestLaw_23 : decode cX12_bestLaw 23 = .ok (.if_icmp .ge 24, 3) := by decide +kernel
theorem dX12_bestLaw_26 : decode cX12_bestLaw 26 = .ok (.aload_n 0, 1) := by decide +kernel
theorem dX12_bestLaw_27 : decode cX12_bestLaw 27 = .ok (.iload_n 2, 1) := by decide +kernel
theorem dX12_bestLaw_28 : decode cX12_bestLaw 28 = .ok (.invokevirtual 372, 3) := by decide +kernel
theorem dX12_bestLaw_31 : decode cX12_bestLaw 31 = .ok (.aload_n 0, 1) := by decide +kernel
theorem dX12_bestLaw_32 : decode cX12_bestLaw 32 = .ok (.iload_n 1, 1) := by decide +kernel
theorem dX12_bestLaw_33 : decode cX12_bestLaw 33 = .ok (.invokevirtual 372, 3) := by decide +kernel
theorem dX12_bestLaw_36 : decode cX12_bestLaw 36 = .ok (.if_icmp .le 5, 3) := by decide +kernel
theorem dX12_bestLaw_39 : decode cX12_bestLaw 39 = .ok (.iload_n 2, 1) := by decide +kernel
theorem dX12_bestLaw_40 : decode cX12_bestLaw 40 = .ok (.istore_n 1, 1) := by decide +kernel
theorem dX12_bestLaw_41 : decode cX12_bestLaw 41 = .ok (.iinc 2 1, 3) := by decide +kernel
theorem dX12_bestLaw_44 : decode cX12_bestLaw 44 = .ok (.goto (-23), 3) := by decide +kernel
theorem dX12_bestLaw_47 : decode cX12_bestLaw 47 = .ok (.iload_n 1, 1) := by decide +kernel
theorem dX12_bestLaw_48 : decode cX12_bestLaw 48 = .ok (.ireturn, 1) := by decide +kernel
theorem dX12_newsOf_0 : decode cX12_newsOf 0 = .ok (.aload_n 0, 1) := by decide +kernel
theorem dX12_newsOf_1 : decode cX12_newsOf 1 = .ok (.invokevirtual 260, 3) := by decide +kernel
theorem dX12_newsOf_4 : decode cX12_newsOf 4 = .ok (.iconst 0, 1) := by decide +kernel
theorem dX12_newsOf_5 : decode cX12_newsOf 5 = .ok (.istore_n 3, 1) := by decide +kernel
theorem dX12_newsOf_6 : decode cX12_newsOf 6 = .ok (.iconst 1, 1) := by decide +kernel
theorem dX12_newsOf_7 : decode cX12_newsOf 7 = .ok (.istore 4, 2) := by decide +kernel
theorem dX12_newsOf_9 : decode cX12_newsOf 9 = .ok (.iload 4, 2) := by decide +kernel
theorem dX12_newsOf_11 : decode cX12_newsOf 11 = .ok (.ifCond .eq 31, 3) := by decide +kernel
theorem dX12_newsOf_14 : decode cX12_newsOf 14 = .ok (.aload_n 0, 1) := by decide +kernel
theorem dX12_newsOf_15 : decode cX12_newsOf 15 = .ok (.getfield 13, 3) := by decide +kernel
theorem dX12_newsOf_18 : decode cX12_newsOf 18 = .ok (.iconst 5, 1) := by decide +kernel
theorem dX12_newsOf_19 : decode cX12_newsOf 19 = .ok (.iload_n 1, 1) := by decide +kernel
theorem dX12_newsOf_20 : decode cX12_newsOf 20 = .ok (.iadd, 1) := by decide +kernel
theorem dX12_newsOf_21 : decode cX12_newsOf 21 = .ok (.iaload, 1) := by decide +kernel
theorem dX12_newsOf_22 : decode cX12_newsOf 22 = .ok (.i2l, 1) := by decide +kernel
theorem dX12_newsOf_23 : decode cX12_newsOf 23 = .ok (.iload_n 2, 1) := by decide +kernel
theorem dX12_newsOf_24 : decode cX12_newsOf 24 = .ok (.invokestatic 222, 3) := by decide +kernel
theorem dX12_newsOf_27 : decode cX12_newsOf 27 = .ok (.ifCond .ne 15, 3) := by decide +kernel
theorem dX12_newsOf_30 : decode cX12_newsOf 30 = .ok (.aload_n 0, 1) := by decide +kernel
theorem dX12_newsOf_31 : decode cX12_newsOf 31 = .ok (.invokevirtual 274, 3) := by decide +kernel
theorem dX12_newsOf_34 : decode cX12_newsOf 34 = .ok (.istore 4, 2) := by decide +kernel
theorem dX12_newsOf_36 : decode cX12_newsOf 36 = .ok (.iinc 3 1, 3) := by decide +kernel
theorem dX12_newsOf_39 : decode cX12_newsOf 39 = .ok (.goto (-30), 3) := by decide +kernel
theorem dX12_newsOf_42 : decode cX12_newsOf 42 = .ok (.aload_n 0, 1) := by decide +kernel
theorem dX12_newsOf_43 : decode cX12_newsOf 43 = .ok (.getfield 13, 3) := by decide +kernel
theorem dX12_newsOf_46 : decode cX12_newsOf 46 = .ok (.iconst 5, 1) := by decide +kernel
theorem dX12_newsOf_47 : decode cX12_newsOf 47 = .ok (.iload_n 1, 1) := by decide +kernel
theorem dX12_newsOf_48 : decode cX12_newsOf 48 = .ok (.iadd, 1) := by decide +kernel
theorem dX12_newsOf_49 : decode cX12_newsOf 49 = .ok (.iaload, 1) := by decide +kernel
theorem dX12_newsOf_50 : decode cX12_newsOf 50 = .ok (.i2l, 1) := by decide +kernel
theorem dX12_newsOf_51 : decode cX12_newsOf 51 = .ok (.iload_n 2, 1) := by decide +kernel
theorem dX12_newsOf_52 : decode cX12_newsOf 52 = .ok (.invokestatic 222, 3) := by decide +kernel
theorem dX12_newsOf_55 : decode cX12_newsOf 55 = .ok (.istore 5, 2) := by decide +kernel
theorem dX12_newsOf_57 : decode cX12_newsOf 57 = .ok (.aload_n 0, 1) := by decide +kernel
theorem dX12_newsOf_58 : decode cX12_newsOf 58 = .ok (.invokevirtual 297, 3) := by decide +kernel
theorem dX12_newsOf_61 : decode cX12_newsOf 61 = .ok (.iload 5, 2) := by decide +kernel
theorem dX12_newsOf_63 : decode cX12_newsOf 63 = .ok (.ifCond .eq 7, 3) := by decide +kernel
theorem dX12_newsOf_66 : decode cX12_newsOf 66 = .ok (.iload_n 3, 1) := by decide +kernel
theorem dX12_newsOf_67 : decode cX12_newsOf 67 = .ok (.goto 4, 3) := by decide +kernel
theorem dX12_newsOf_70 : decode cX12_newsOf 70 = .ok (.iconst (-1), 1) := by decide +kernel
theorem dX12_newsOf_71 : decode cX12_newsOf 71 = .ok (.ireturn, 1) := by decide +kernel
theorem dX12_news_0 : decode cX12_news 0 = .ok (.aload_n 0, 1) := by decide +kernel
theorem dX12_news_1 : decode cX12_news 1 = .ok (.iconst 0, 1) := by decide +kernel
theorem dX12_news_2 : decode cX12_news 2 = .ok (.putfield 1, 3) := by decide +kernel
theorem dX12_news_5 : decode cX12_news 5 = .ok (.aload_n 0, 1) := by decide +kernel
theorem dX12_news_6 : decode cX12_news 6 = .ok (.iload_n 1, 1) := by decide +kernel
theorem dX12_news_7 : decode cX12_news 7 = .ok (.i2l, 1) := by decide +kernel
theorem dX12_news_8 : decode cX12_news 8 = .ok (.invokevirtual 245, 3) := by decide +kernel
theorem dX12_news_11 : decode cX12_news 11 = .ok (.ifCond .eq 21, 3) := by decide +kernel
theorem dX12_news_14 : decode cX12_news 14 = .ok (.aload_n 0, 1) := by decide +kernel
theorem dX12_news_15 : decode cX12_news 15 = .ok (.iload_n 2, 1) := by decide +kernel
theorem dX12_news_16 : decode cX12_news 16 = .ok (.i2l, 1) := by decide +kernel
theorem dX12_news_17 : decode cX12_news 17 = .ok (.invokevirtual 241, 3) := by decide +kernel
theorem dX12_news_20 : decode cX12_news 20 = .ok (.ifCond .eq 12, 3) := by decide +kernel
theorem dX12_news_23 : decode cX12_news 23 = .ok (.aload_n 0, 1) := by decide +kernel
theorem dX12_news_24 : decode cX12_news 24 = .ok (.iload_n 1, 1) := by decide +kernel
theorem dX12_news_25 : decode cX12_news 25 = .ok (.iload_n 2, 1) := by decide +kernel
theorem dX12_news_26 : decode cX12_news 26 = .ok (.invokevirtual 375, 3) := by decide +kernel
theorem dX12_news_29 : decode cX12_news 29 = .ok (.goto 5, 3) := by decide +kernel
theorem dX12_news_32 : decode cX12_news 32 = .ok (.bipush (-2), 2) := by decide +kernel
theorem dX12_news_34 : decode cX12_news 34 = .ok (.ireturn, 1) := by decide +kernel
theorem dX12_latest_0 : decode cX12_latest 0 = .ok (.aload_n 0, 1) := by decide +kernel
theorem dX12_latest_1 : decode cX12_latest 1 = .ok (.iconst 0, 1) := by decide +kernel
theorem dX12_latest_2 : decode cX12_latest 2 = .ok (.putfield 1, 3) := by decide +kernel
theorem dX12_latest_5 : decode cX12_latest 5 = .ok (.aload_n 0, 1) := by decide +kernel
theorem dX12_latest_6 : decode cX12_latest 6 = .ok (.iload_n 1, 1) := by decide +kernel
theorem dX12_latest_7 : decode cX12_latest 7 = .ok (.i2l, 1) := by decide +kernel
theorem dX12_latest_8 : decode cX12_latest 8 = .ok (.invokevirtual 241, 3) := by decide +kernel
theorem dX12_latest_11 : decode cX12_latest 11 = .ok (.ifCond .ne 6, 3) := by decide +kernel
theorem dX12_latest_14 : decode cX12_latest 14 = .ok (.bipush (-2), 2) := by decide +kernel
theorem dX12_latest_16 : decode cX12_latest 16 = .ok (.ireturn, 1) := by decide +kernel
theorem dX12_latest_17 : decode cX12_latest 17 = .ok (.iconst (-1), 1) := by decide +kernel
theorem dX12_latest_18 : decode cX12_latest 18 = .ok (.istore_n 2, 1) := by decide +kernel
theorem dX12_latest_19 : decode cX12_latest 19 = .ok (.iconst 0, 1) := by decide +kernel
theorem dX12_latest_20 : decode cX12_latest 20 = .ok (.istore_n 3, 1) := by decide +kernel
theorem dX12_latest_21 : decode cX12_latest 21 = .ok (.iconst 0, 1) := by decide +kernel
theorem dX12_latest_22 : decode cX12_latest 22 = .ok (.istore 4, 2) := by decide +kernel
theorem dX12_latest_24 : decode cX12_latest 24 = .ok (.iload 4, 2) := by decide +kernel
theorem dX12_latest_26 : decode cX12_latest 26 = .ok (.aload_n 0, 1) := by decide +kernel
theorem dX12_latest_27 : decode cX12_latest 27 = .ok (.getfield 13, 3) := by decide +kernel
theorem dX12_latest_30 : decode cX12_latest 30 = .ok (.iconst 3, 1) := by decide +kernel
theorem dX12_latest_31 : decode cX12_latest 31 = .ok (.iaload, 1) := by decide +kernel
theorem dX12_latest_32 : decode cX12_latest 32 = .ok (.if_icmp .ge 53, 3) := by decide +kernel
theorem dX12_latest_35 : decode cX12_latest 35 = .ok (.aload_n 0, 1) := by decide +kernel
theorem dX12_latest_36 : decode cX12_latest 36 = .ok (.iload 4, 2) := by decide +kernel
theorem dX12_latest_38 : decode cX12_latest 38 = .ok (.iload_n 1, 1) := by decide +kernel
theorem dX12_latest_39 : decode cX12_latest 39 = .ok (.invokevirtual 375, 3) := by decide +kernel
theorem dX12_latest_42 : decode cX12_latest 42 = .ok (.istore 5, 2) := by decide +kernel
theorem dX12_latest_44 : decode cX12_latest 44 = .ok (.iload 5, 2) := by decide +kernel
theorem dX12_latest_46 : decode cX12_latest 46 = .ok (.iconst (-1), 1) := by decide +kernel
theorem dX12_latest_47 : decode cX12_latest 47 = .ok (.if_icmp .ne 8, 3) := by decide +kernel
theorem dX12_latest_50 : decode cX12_latest 50 = .ok (.bipush 99, 2) := by decide +kernel
theorem dX12_latest_52 : decode cX12_latest 52 = .ok (.goto 5, 3) := by decide +kernel
theorem dX12_latest_55 : decode cX12_latest 55 = .ok (.iload 5, 2) := by decide +kernel
theorem dX12_latest_57 : decode cX12_latest 57 = .ok (.istore 5, 2) := by decide +kernel
theorem dX12_latest_59 : decode cX12_latest 59 = .ok (.iload_n 2, 1) := by decide +kernel
theorem dX12_latest_60 : decode cX12_latest 60 = .ok (.iconst (-1), 1) := by decide +kernel
theorem dX12_latest_61 : decode cX12_latest 61 = .ok (.if_icmp .eq 12, 3) := by decide +kernel
theorem dX12_latest_64 : decode cX12_latest 64 = .ok (.iload 5, 2) := by decide +kernel
theorem dX12_latest_66 : decode cX12_latest 66 = .ok (.iload_n 3, 1) := by decide +kernel
theorem dX12_latest_67 : decode cX12_latest 67 = .ok (.if_icmp .gt 6, 3) := by decide +kernel
theorem dX12_latest_70 : decode cX12_latest 70 = .ok (.goto 9, 3) := by decide +kernel
theorem dX12_latest_73 : decode cX12_latest 73 = .ok (.iload 4, 2) := by decide +kernel
theorem dX12_latest_75 : decode cX12_latest 75 = .ok (.istore_n 2, 1) := by decide +kernel
theorem dX12_latest_76 : decode cX12_latest 76 = .ok (.iload 5, 2) := by decide +kernel
theorem dX12_latest_78 : decode cX12_latest 78 = .ok (.istore_n 3, 1) := by decide +kernel
theorem dX12_latest_79 : decode cX12_latest 79 = .ok (.iinc 4 1, 3) := by decide +kernel
theorem dX12_latest_82 : decode cX12_latest 82 = .ok (.goto (-58), 3) := by decide +kernel
theorem dX12_latest_85 : decode cX12_latest 85 = .ok (.iload_n 2, 1) := by decide +kernel
theorem dX12_latest_86 : decode cX12_latest 86 = .ok (.ireturn, 1) := by decide +kernel
theorem dX12_leastIn_0 : decode cX12_leastIn 0 = .ok (.aload_n 0, 1) := by decide +kernel
theorem dX12_leastIn_1 : decode cX12_leastIn 1 = .ok (.iconst 0, 1) := by decide +kernel
theorem dX12_leastIn_2 : decode cX12_leastIn 2 = .ok (.putfield 1, 3) := by decide +kernel
theorem dX12_leastIn_5 : decode cX12_leastIn 5 = .ok (.iload_n 1, 1) := by decide +kernel
theorem dX12_leastIn_6 : decode cX12_leastIn 6 = .ok (.i2l, 1) := by decide +kernel
theorem dX12_leastIn_7 : decode cX12_leastIn 7 = .ok (.lconst 0, 1) := by decide +kernel
theorem dX12_leastIn_8 : decode cX12_leastIn 8 = .ok (.ldc2_w 289, 3) := by decide +kernel
theorem dX12_leastIn_11 : decode cX12_leastIn 11 = .ok (.invokestatic 145, 3) := by decide +kernel
theorem dX12_leastIn_14 : decode cX12_leastIn 14 = .ok (.ifCond .ne 6, 3) := by decide +kernel
theorem dX12_leastIn_17 : decode cX12_leastIn 17 = .ok (.bipush (-2), 2) := by decide +kernel
theorem dX12_leastIn_19 : decode cX12_leastIn 19 = .ok (.ireturn, 1) := by decide +kernel
theorem dX12_leastIn_20 : decode cX12_leastIn 20 = .ok (.iload_n 2, 1) := by decide +kernel
theorem dX12_leastIn_21 : decode cX12_leastIn 21 = .ok (.i2l, 1) := by decide +kernel
theorem dX12_leastIn_22 : decode cX12_leastIn 22 = .ok (.lconst 0, 1) := by decide +kernel
theorem dX12_leastIn_23 : decode cX12_leastIn 23 = .ok (.ldc2_w 272, 3) := by decide +kernel
theorem dX12_leastIn_26 : decode cX12_leastIn 26 = .ok (.invokestatic 145, 3) := by decide +kernel
theorem dX12_leastIn_29 : decode cX12_leastIn 29 = .ok (.ifCond .ne 6, 3) := by decide +kernel
theorem dX12_leastIn_32 : decode cX12_leastIn 32 = .ok (.bipush (-3), 2) := by decide +kernel
theorem dX12_leastIn_34 : decode cX12_leastIn 34 = .ok (.ireturn, 1) := by decide +kernel
theorem dX12_leastIn_35 : decode cX12_leastIn 35 = .ok (.aload_n 0, 1) := by decide +kernel
theorem dX12_leastIn_36 : decode cX12_leastIn 36 = .ok (.invokevirtual 260, 3) := by decide +kernel
theorem dX12_leastIn_39 : decode cX12_leastIn 39 = .ok (.iconst 0, 1) := by decide +kernel
theorem dX12_leastIn_40 : decode cX12_leastIn 40 = .ok (.istore_n 3, 1) := by decide +kernel
theorem dX12_leastIn_41 : decode cX12_leastIn 41 = .ok (.iload_n 3, 1) := by decide +kernel
theorem dX12_leastIn_42 : decode cX12_leastIn 42 = .ok (.iload_n 2, 1) := by decide +kernel
theorem dX12_leastIn_43 : decode cX12_leastIn 43 = .ok (.if_icmp .ge 14, 3) := by decide +kernel
theorem dX12_leastIn_46 : decode cX12_leastIn 46 = .ok (.aload_n 0, 1) := by decide +kernel
theorem dX12_leastIn_47 : decode cX12_leastIn 47 = .ok (.invokevirtual 274, 3) := by decide +kernel
theorem dX12_leastIn_50 : decode cX12_leastIn 50 = .ok (.pop, 1) := by decide +kernel
theorem dX12_leastIn_51 : decode cX12_leastIn 51 = .ok (.iinc 3 1, 3) := by decide +kernel
theorem dX12_leastIn_54 : decode cX12_leastIn 54 = .ok (.goto (-13), 3) := by decide +kernel
theorem dX12_leastIn_57 : decode cX12_leastIn 57 = .ok (.aload_n 0, 1) := by decide +kernel
theorem dX12_leastIn_58 : decode cX12_leastIn 58 = .ok (.iload_n 1, 1) := by decide +kernel
theorem dX12_leastIn_59 : decode cX12_leastIn 59 = .ok (.aload_n 0, 1) := by decide +kernel
theorem dX12_leastIn_60 : decode cX12_leastIn 60 = .ok (.getfield 13, 3) := by decide +kernel
theorem dX12_leastIn_63 : decode cX12_leastIn 63 = .ok (.iconst 4, 1) := by decide +kernel
theorem dX12_leastIn_64 : decode cX12_leastIn 64 = .ok (.iaload, 1) := by decide +kernel
theorem dX12_leastIn_65 : decode cX12_leastIn 65 = .ok (.invokevirtual 294, 3) := by decide +kernel
theorem dX12_leastIn_68 : decode cX12_leastIn 68 = .ok (.istore_n 3, 1) := by decide +kernel
theorem dX12_leastIn_69 : decode cX12_leastIn 69 = .ok (.aload_n 0, 1) := by decide +kernel
theorem dX12_leastIn_70 : decode cX12_leastIn 70 = .ok (.invokevirtual 297, 3) := by decide +kernel
theorem dX12_leastIn_73 : decode cX12_leastIn 73 = .ok (.iload_n 3, 1) := by decide +kernel
theorem dX12_leastIn_74 : decode cX12_leastIn 74 = .ok (.ireturn, 1) := by decide +kernel
theorem dX12_calm_0 : decode cX12_calm 0 = .ok (.aload_n 0, 1) := by decide +kernel
theorem dX12_calm_1 : decode cX12_calm 1 = .ok (.iconst 0, 1) := by decide +kernel
theorem dX12_calm_2 : decode cX12_calm 2 = .ok (.putfield 1, 3) := by decide +kernel
theorem dX12_calm_5 : decode cX12_calm 5 = .ok (.aload_n 0, 1) := by decide +kernel
theorem dX12_calm_6 : decode cX12_calm 6 = .ok (.invokevirtual 260, 3) := by decide +kernel
theorem dX12_calm_9 : decode cX12_calm 9 = .ok (.iconst 0, 1) := by decide +kernel
theorem dX12_calm_10 : decode cX12_calm 10 = .ok (.istore_n 1, 1) := by decide +kernel
theorem dX12_calm_11 : decode cX12_calm 11 = .ok (.aload_n 0, 1) := by decide +kernel
theorem dX12_calm_12 : decode cX12_calm 12 = .ok (.invokevirtual 274, 3) := by decide +kernel
theorem dX12_calm_15 : decode cX12_calm 15 = .ok (.ifCond .eq 9, 3) := by decide +kernel
theorem dX12_calm_18 : decode cX12_calm 18 = .ok (.iinc 1 1, 3) := by decide +kernel
theorem dX12_calm_21 : decode cX12_calm 21 = .ok (.goto (-10), 3) := by decide +kernel
theorem dX12_calm_24 : decode cX12_calm 24 = .ok (.aload_n 0, 1) := by decide +kernel
theorem dX12_calm_25 : decode cX12_calm 25 = .ok (.invokevirtual 297, 3) := by decide +kernel
theorem dX12_calm_28 : decode cX12_calm 28 = .ok (.iload_n 1, 1) := by decide +kernel
theorem dX12_calm_29 : decode cX12_calm 29 = .ok (.ireturn, 1) := by decide +kernel
theorem dX12_noRow_0 : decode cX12_noRow 0 = .ok (.iload_n 1, 1) := by decide +kernel
theorem dX12_noRow_1 : decode cX12_noRow 1 = .ok (.i2l, 1) := by decide +kernel
theorem dX12_noRow_2 : decode cX12_noRow 2 = .ok (.lconst 0, 1) := by decide +kernel
theorem dX12_noRow_3 : decode cX12_noRow 3 = .ok (.ldc2_w 289, 3) := by decide +kernel
theorem dX12_noRow_6 : decode cX12_noRow 6 = .ok (.invokestatic 145, 3) := by decide +kernel
theorem dX12_noRow_9 : decode cX12_noRow 9 = .ok (.ifCond .ne 6, 3) := by decide +kernel
theorem dX12_noRow_12 : decode cX12_noRow 12 = .ok (.bipush (-2), 2) := by decide +kernel
theorem dX12_noRow_14 : decode cX12_noRow 14 = .ok (.ireturn, 1) := by decide +kernel
theorem dX12_noRow_15 : decode cX12_noRow 15 = .ok (.aload_n 0, 1) := by decide +kernel
theorem dX12_noRow_16 : decode cX12_noRow 16 = .ok (.getfield 73, 3) := by decide +kernel
theorem dX12_noRow_19 : decode cX12_noRow 19 = .ok (.iload_n 1, 1) := by decide +kernel
theorem dX12_noRow_20 : decode cX12_noRow 20 = .ok (.iaload, 1) := by decide +kernel
theorem dX12_noRow_21 : decode cX12_noRow 21 = .ok (.iconst (-1), 1) := by decide +kernel
theorem dX12_noRow_22 : decode cX12_noRow 22 = .ok (.if_icmp .ne 6, 3) := by decide +kernel
theorem dX12_noRow_25 : decode cX12_noRow 25 = .ok (.bipush (-6), 2) := by decide +kernel
theorem dX12_noRow_27 : decode cX12_noRow 27 = .ok (.ireturn, 1) := by decide +kernel
theorem dX12_noRow_28 : decode cX12_noRow 28 = .ok (.aload_n 0, 1) := by decide +kernel
theorem dX12_noRow_29 : decode cX12_noRow 29 = .ok (.getfield 76, 3) := by decide +kernel
theorem dX12_noRow_32 : decode cX12_noRow 32 = .ok (.iload_n 1, 1) := by decide +kernel
theorem dX12_noRow_33 : decode cX12_noRow 33 = .ok (.iaload, 1) := by decide +kernel
theorem dX12_noRow_34 : decode cX12_noRow 34 = .ok (.i2l, 1) := by decide +kernel
theorem dX12_noRow_35 : decode cX12_noRow 35 = .ok (.lconst 1, 1) := by decide +kernel
theorem dX12_noRow_36 : decode cX12_noRow 36 = .ok (.ldc2_w 378, 3) := by decide +kernel
theorem dX12_noRow_39 : decode cX12_noRow 39 = .ok (.invokestatic 145, 3) := by decide +kernel
theorem dX12_noRow_42 : decode cX12_noRow 42 = .ok (.ifCond .ne 6, 3) := by decide +kernel
theorem dX12_noRow_45 : decode cX12_noRow 45 = .ok (.bipush (-4), 2) := by decide +kernel
theorem dX12_noRow_47 : decode cX12_noRow 47 = .ok (.ireturn, 1) := by decide +kernel
theorem dX12_noRow_48 : decode cX12_noRow 48 = .ok (.iconst 0, 1) := by decide +kernel
theorem dX12_noRow_49 : decode cX12_noRow 49 = .ok (.istore_n 2, 1) := by decide +kernel
theorem dX12_noRow_50 : decode cX12_noRow 50 = .ok (.iload_n 2, 1) := by decide +kernel
theorem dX12_noRow_51 : decode cX12_noRow 51 = .ok (.aload_n 0, 1) := by decide +kernel
theorem dX12_noRow_52 : decode cX12_noRow 52 = .ok (.getfield 76, 3) := by decide +kernel
theorem dX12_noRow_55 : decode cX12_noRow 55 = .ok (.iload_n 1, 1) := by decide +kernel
theorem dX12_noRow_56 : decode cX12_noRow 56 = .ok (.iaload, 1) := by decide +kernel
theorem dX12_noRow_57 : decode cX12_noRow 57 = .ok (.if_icmp .ge 30, 3) := by decide +kernel
theorem dX12_noRow_60 : decode cX12_noRow 60 = .ok (.aload_n 0, 1) := by decide +kernel
theorem dX12_noRow_61 : decode cX12_noRow 61 = .ok (.aload_n 0, 1) := by decide +kernel
theorem dX12_noRow_62 : decode cX12_noRow 62 = .ok (.getfield 79, 3) := by decide +kernel
theorem dX12_noRow_65 : decode cX12_noRow 65 = .ok (.bipush 40, 2) := by decide +kernel
theorem dX12_noRow_67 : decode cX12_noRow 67 = .ok (.iload_n 1, 1) := by decide +kernel
theorem dX12_noRow_68 : decode cX12_noRow 68 = .ok (.imul, 1) := by decide +kernel
theorem dX12_noRow_69 : decode cX12_noRow 69 = .ok (.iload_n 2, 1) := by decide +kernel
theorem dX12_noRow_70 : decode cX12_noRow 70 = .ok (.iadd, 1) := by decide +kernel
theorem dX12_noRow_71 : decode cX12_noRow 71 = .ok (.laload, 1) := by decide +kernel
theorem dX12_noRow_72 : decode cX12_noRow 72 = .ok (.invokevirtual 241, 3) := by decide +kernel
theorem dX12_noRow_75 : decode cX12_noRow 75 = .ok (.ifCond .ne 6, 3) := by decide +kernel
theorem dX12_noRow_78 : decode cX12_noRow 78 = .ok (.bipush (-3), 2) := by decide +kernel
theorem dX12_noRow_80 : decode cX12_noRow 80 = .ok (.ireturn, 1) := by decide +kernel
theorem dX12_noRow_81 : decode cX12_noRow 81 = .ok (.iinc 2 1, 3) := by decide +kernel
theorem dX12_noRow_84 : decode cX12_noRow 84 = .ok (.goto (-34), 3) := by decide +kernel
theorem dX12_noRow_87 : decode cX12_noRow 87 = .ok (.aload_n 0, 1) := by decide +kernel
theorem dX12_noRow_88 : decode cX12_noRow 88 = .ok (.getfield 13, 3) := by decide +kernel
theorem dX12_noRow_91 : decode cX12_noRow 91 = .ok (.iconst 1, 1) := by decide +kernel
theorem dX12_noRow_92 : decode cX12_noRow 92 = .ok (.iaload, 1) := by decide +kernel
theorem dX12_noRow_93 : decode cX12_noRow 93 = .ok (.ifCond .ne 8, 3) := by decide +kernel
theorem dX12_noRow_96 : decode cX12_noRow 96 = .ok (.bipush (-5), 2) := by decide +kernel
theorem dX12_noRow_98 : decode cX12_noRow 98 = .ok (.goto 4, 3) := by decide +kernel
theorem dX12_noRow_101 : decode cX12_noRow 101 = .ok (.iconst 0, 1) := by decide +kernel
theorem dX12_noRow_102 : decode cX12_noRow 102 = .ok (.ireturn, 1) := by decide +kernel
theorem dX12_isFit_0 : decode cX12_isFit 0 = .ok (.iload_n 2, 1) := by decide +kernel
theorem dX12_isFit_1 : decode cX12_isFit 1 = .ok (.istore_n 3, 1) := by decide +kernel
theorem dX12_isFit_2 : decode cX12_isFit 2 = .ok (.iconst 0, 1) := by decide +kernel
theorem dX12_isFit_3 : decode cX12_isFit 3 = .ok (.istore 4, 2) := by decide +kernel
theorem dX12_isFit_5 : decode cX12_isFit 5 = .ok (.iload 4, 2) := by decide +kernel
theorem dX12_isFit_7 : decode cX12_isFit 7 = .ok (.aload_n 0, 1) := by decide +kernel
theorem dX12_isFit_8 : decode cX12_isFit 8 = .ok (.getfield 76, 3) := by decide +kernel
theorem dX12_isFit_11 : decode cX12_isFit 11 = .ok (.iload_n 1, 1) := by decide +kernel
theorem dX12_isFit_12 : decode cX12_isFit 12 = .ok (.iaload, 1) := by decide +kernel
theorem dX12_isFit_13 : decode cX12_isFit 13 = .ok (.if_icmp .ge 60, 3) := by decide +kernel
theorem dX12_isFit_16 : decode cX12_isFit 16 = .ok (.aload_n 0, 1) := by decide +kernel
theorem dX12_isFit_17 : decode cX12_isFit 17 = .ok (.getfield 79, 3) := by decide +kernel
theorem dX12_isFit_20 : decode cX12_isFit 20 = .ok (.bipush 40, 2) := by decide +kernel
theorem dX12_isFit_22 : decode cX12_isFit 22 = .ok (.iload_n 1, 1) := by decide +kernel
theorem dX12_isFit_23 : decode cX12_isFit 23 = .ok (.imul, 1) := by decide +kernel
theorem dX12_isFit_24 : decode cX12_isFit 24 = .ok (.iload 4, 2) := by decide +kernel
theorem dX12_isFit_26 : decode cX12_isFit 26 = .ok (.iadd, 1) := by decide +kernel
theorem dX12_isFit_27 : decode cX12_isFit 27 = .ok (.laload, 1) := by decide +kernel
theorem dX12_isFit_28 : decode cX12_isFit 28 = .ok (.l2i, 1) := by decide +kernel
theorem dX12_isFit_29 : decode cX12_isFit 29 = .ok (.istore 5, 2) := by decide +kernel
theorem dX12_isFit_31 : decode cX12_isFit 31 = .ok (.aload_n 0, 1) := by decide +kernel
theorem dX12_isFit_32 : decode cX12_isFit 32 = .ok (.iload_n 3, 1) := by decide +kernel
theorem dX12_isFit_33 : decode cX12_isFit 33 = .ok (.aload_n 0, 1) := by decide +kernel
theorem dX12_isFit_34 : decode cX12_isFit 34 = .ok (.getfield 13, 3) := by decide +kernel
theorem dX12_isFit_37 : decode cX12_isFit 37 = .ok (.iconst 4, 1) := by decide +kernel
theorem dX12_isFit_38 : decode cX12_isFit 38 = .ok (.iaload, 1) := by decide +kernel
theorem dX12_isFit_39 : decode cX12_isFit 39 = .ok (.invokevirtual 232, 3) := by decide +kernel
theorem dX12_isFit_42 : decode cX12_isFit 42 = .ok (.aload_n 0, 1) := by decide +kernel
theorem dX12_isFit_43 : decode cX12_isFit 43 = .ok (.getfield 13, 3) := by decide +kernel
theorem dX12_isFit_46 : decode cX12_isFit 46 = .ok (.bipush 105, 2) := by decide +kernel
theorem dX12_isFit_48 : decode cX12_isFit 48 = .ok (.iload 5, 2) := by decide +kernel
theorem dX12_isFit_50 : decode cX12_isFit 50 = .ok (.iadd, 1) := by decide +kernel
theorem dX12_isFit_51 : decode cX12_isFit 51 = .ok (.iaload, 1) := by decide +kernel
theorem dX12_isFit_52 : decode cX12_isFit 52 = .ok (.invokestatic 229, 3) := by decide +kernel
theorem dX12_isFit_55 : decode cX12_isFit 55 = .ok (.ifCond .eq 5, 3) := by decide +kernel
theorem dX12_isFit_58 : decode cX12_isFit 58 = .ok (.iconst 0, 1) := by decide +kernel
theorem dX12_isFit_59 : decode cX12_isFit 59 = .ok (.ireturn, 1) := by decide +kernel
theorem dX12_isFit_60 : decode cX12_isFit 60 = .ok (.iload_n 3, 1) := by decide +kernel
theorem dX12_isFit_61 : decode cX12_isFit 61 = .ok (.iconst 1, 1) := by decide +kernel
theorem dX12_isFit_62 : decode cX12_isFit 62 = .ok (.iload 5, 2) := by decide +kernel
theorem dX12_isFit_64 : decode cX12_isFit 64 = .ok (.ishl, 1) := by decide +kernel
theorem dX12_isFit_65 : decode cX12_isFit 65 = .ok (.ior, 1) := by decide +kernel
theorem dX12_isFit_66 : decode cX12_isFit 66 = .ok (.istore_n 3, 1) := by decide +kernel
theorem dX12_isFit_67 : decode cX12_isFit 67 = .ok (.iinc 4 1, 3) := by decide +kernel
theorem dX12_isFit_70 : decode cX12_isFit 70 = .ok (.goto (-65), 3) := by decide +kernel
theorem dX12_isFit_73 : decode cX12_isFit 73 = .ok (.iconst 1, 1) := by decide +kernel
theorem dX12_isFit_74 : decode cX12_isFit 74 = .ok (.ireturn, 1) := by decide +kernel
theorem dX12_fitting_0 : decode cX12_fitting 0 = .ok (.aload_n 0, 1) := by decide +kernel
theorem dX12_fitting_1 : decode cX12_fitting 1 = .ok (.iconst 0, 1) := by decide +kernel
theorem dX12_fitting_2 : decode cX12_fitting 2 = .ok (.putfield 1, 3) := by decide +kernel
theorem dX12_fitting_5 : decode cX12_fitting 5 = .ok (.aload_n 0, 1) := by decide +kernel
theorem dX12_fitting_6 : decode cX12_fitting 6 = .ok (.iload_n 1, 1) := by decide +kernel
theorem dX12_fitting_7 : decode cX12_fitting 7 = .ok (.invokevirtual 380, 3) := by decide +kernel
theorem dX12_fitting_10 : decode cX12_fitting 10 = .ok (.istore_n 2, 1) := by decide +kernel
theorem dX12_fitting_11 : decode cX12_fitting 11 = .ok (.iload_n 2, 1) := by decide +kernel
theorem dX12_fitting_12 : decode cX12_fitting 12 = .ok (.ifCond .eq 5, 3) := by decide +kernel
theorem dX12_fitting_15 : decode cX12_fitting 15 = .ok (.iload_n 2, 1) := by decide +kernel
theorem dX12_fitting_16 : decode cX12_fitting 16 = .ok (.ireturn, 1) := by decide +kernel
theorem dX12_fitting_17 : decode cX12_fitting 17 = .ok (.iconst 0, 1) := by decide +kernel
theorem dX12_fitting_18 : decode cX12_fitting 18 = .ok (.istore_n 3, 1) := by decide +kernel
theorem dX12_fitting_19 : decode cX12_fitting 19 = .ok (.iconst 0, 1) := by decide +kernel
theorem dX12_fitting_20 : decode cX12_fitting 20 = .ok (.istore 4, 2) := by decide +kernel
theorem dX12_fitting_22 : decode cX12_fitting 22 = .ok (.iload 4, 2) := by decide +kernel
theorem dX12_fitting_24 : decode cX12_fitting 24 = .ok (.iconst 1, 1) := by decide +kernel
theorem dX12_fitting_25 : decode cX12_fitting 25 = .ok (.aload_n 0, 1) := by decide +kernel
theorem dX12_fitting_26 : decode cX12_fitting 26 = .ok (.getfield 13, 3) := by decide +kernel
theorem dX12_fitting_29 : decode cX12_fitting 29 = .ok (.iconst 2, 1) := by decide +kernel
theorem dX12_fitting_30 : decode cX12_fitting 30 = .ok (.iaload, 1) := by decide +kernel
theorem dX12_fitting_31 : decode cX12_fitting 31 = .ok (.ishl, 1) := by decide +kernel
theorem dX12_fitting_32 : decode cX12_fitting 32 = .ok (.if_icmp .ge 27, 3) := by decide +kernel
theorem dX12_fitting_35 : decode cX12_fitting 35 = .ok (.iload_n 3, 1) := by decide +kernel
theorem dX12_fitting_36 : decode cX12_fitting 36 = .ok (.aload_n 0, 1) := by decide +kernel
theorem dX12_fitting_37 : decode cX12_fitting 37 = .ok (.iload_n 1, 1) := by decide +kernel
theorem dX12_fitting_38 : decode cX12_fitting 38 = .ok (.iload 4, 2) := by decide +kernel
theorem dX12_fitting_40 : decode cX12_fitting 40 = .ok (.invokevirtual 383, 3) := by decide +kernel
theorem dX12_fitting_43 : decode cX12_fitting 43 = .ok (.ifCond .eq 7, 3) := by decide +kernel
theorem dX12_fitting_46 : decode cX12_fitting 46 = .ok (.iconst 1, 1) := by decide +kernel
theorem dX12_fitting_47 : decode cX12_fitting 47 = .ok (.goto 4, 3) := by decide +kernel
theorem dX12_fitting_50 : decode cX12_fitting 50 = .ok (.iconst 0, 1) := by decide +kernel
theorem dX12_fitting_51 : decode cX12_fitting 51 = .ok (.iadd, 1) := by decide +kernel
theorem dX12_fitting_52 : decode cX12_fitting 52 = .ok (.istore_n 3, 1) := by decide +kernel
theorem dX12_fitting_53 : decode cX12_fitting 53 = .ok (.iinc 4 1, 3) := by decide +kernel
theorem dX12_fitting_56 : decode cX12_fitting 56 = .ok (.goto (-34), 3) := by decide +kernel
theorem dX12_fitting_59 : decode cX12_fitting 59 = .ok (.iload_n 3, 1) := by decide +kernel
theorem dX12_fitting_60 : decode cX12_fitting 60 = .ok (.ireturn, 1) := by decide +kernel
theorem dX12_sure_0 : decode cX12_sure 0 = .ok (.aload_n 0, 1) := by decide +kernel
theorem dX12_sure_1 : decode cX12_sure 1 = .ok (.iconst 0, 1) := by decide +kernel
theorem dX12_sure_2 : decode cX12_sure 2 = .ok (.putfield 1, 3) := by decide +kernel
theorem dX12_sure_5 : decode cX12_sure 5 = .ok (.aload_n 0, 1) := by decide +kernel
theorem dX12_sure_6 : decode cX12_sure 6 = .ok (.iload_n 1, 1) := by decide +kernel
theorem dX12_sure_7 : decode cX12_sure 7 = .ok (.invokevirtual 380, 3) := by decide +kernel
theorem dX12_sure_10 : decode cX12_sure 10 = .ok (.istore_n 2, 1) := by decide +kernel
theorem dX12_sure_11 : decode cX12_sure 11 = .ok (.iload_n 2, 1) := by decide +kernel
theorem dX12_sure_12 : decode cX12_sure 12 = .ok (.ifCond .eq 5, 3) := by decide +kernel
theorem dX12_sure_15 : decode cX12_sure 15 = .ok (.iload_n 2, 1) := by decide +kernel
theorem dX12_sure_16 : decode cX12_sure 16 = .ok (.ireturn, 1) := by decide +kernel
theorem dX12_sure_17 : decode cX12_sure 17 = .ok (.iconst (-1), 1) := by decide +kernel
theorem dX12_sure_18 : decode cX12_sure 18 = .ok (.istore_n 3, 1) := by decide +kernel
theorem dX12_sure_19 : decode cX12_sure 19 = .ok (.iconst 0, 1) := by decide +kernel
theorem dX12_sure_20 : decode cX12_sure 20 = .ok (.istore 4, 2) := by decide +kernel
theorem dX12_sure_22 : decode cX12_sure 22 = .ok (.iload 4, 2) := by decide +kernel
theorem dX12_sure_24 : decode cX12_sure 24 = .ok (.iconst 1, 1) := by decide +kernel
theorem dX12_sure_25 : decode cX12_sure 25 = .ok (.aload_n 0, 1) := by decide +kernel
theorem dX12_sure_26 : decode cX12_sure 26 = .ok (.getfield 13, 3) := by decide +kernel
theorem dX12_sure_29 : decode cX12_sure 29 = .ok (.iconst 2, 1) := by decide +kernel
theorem dX12_sure_30 : decode cX12_sure 30 = .ok (.iaload, 1) := by decide +kernel
theorem dX12_sure_31 : decode cX12_sure 31 = .ok (.ishl, 1) := by decide +kernel
theorem dX12_sure_32 : decode cX12_sure 32 = .ok (.if_icmp .ge 34, 3) := by decide +kernel
theorem dX12_sure_35 : decode cX12_sure 35 = .ok (.aload_n 0, 1) := by decide +kernel
theorem dX12_sure_36 : decode cX12_sure 36 = .ok (.iload_n 1, 1) := by decide +kernel
theorem dX12_sure_37 : decode cX12_sure 37 = .ok (.iload 4, 2) := by decide +kernel
theorem dX12_sure_39 : decode cX12_sure 39 = .ok (.invokevirtual 383, 3) := by decide +kernel
theorem dX12_sure_42 : decode cX12_sure 42 = .ok (.ifCond .eq 18, 3) := by decide +kernel
theorem dX12_sure_45 : decode cX12_sure 45 = .ok (.iload_n 3, 1) := by decide +kernel
theorem dX12_sure_46 : decode cX12_sure 46 = .ok (.iconst (-1), 1) := by decide +kernel
theorem dX12_sure_47 : decode cX12_sure 47 = .ok (.if_icmp .ne 8, 3) := by decide +kernel
theorem dX12_sure_50 : decode cX12_sure 50 = .ok (.iload 4, 2) := by decide +kernel
theorem dX12_sure_52 : decode cX12_sure 52 = .ok (.goto 7, 3) := by decide +kernel
theorem dX12_sure_55 : decode cX12_sure 55 = .ok (.iload_n 3, 1) := by decide +kernel
theorem dX12_sure_56 : decode cX12_sure 56 = .ok (.iload 4, 2) := by decide +kernel
theorem dX12_sure_58 : decode cX12_sure 58 = .ok (.ior, 1) := by decide +kernel
theorem dX12_sure_59 : decode cX12_sure 59 = .ok (.istore_n 3, 1) := by decide +kernel
theorem dX12_sure_60 : decode cX12_sure 60 = .ok (.iinc 4 1, 3) := by decide +kernel
theorem dX12_sure_63 : decode cX12_sure 63 = .ok (.goto (-41), 3) := by decide +kernel
theorem dX12_sure_66 : decode cX12_sure 66 = .ok (.iload_n 3, 1) := by decide +kernel
theorem dX12_sure_67 : decode cX12_sure 67 = .ok (.iconst (-1), 1) := by decide +kernel
theorem dX12_sure_68 : decode cX12_sure 68 = .ok (.if_icmp .ne 7, 3) := by decide +kernel
theorem dX12_sure_71 : decode cX12_sure 71 = .ok (.iconst (-1), 1) := by decide +kernel
theorem dX12_sure_72 : decode cX12_sure 72 = .ok (.goto 17, 3) := by decide +kernel
theorem dX12_sure_75 : decode cX12_sure 75 = .ok (.iconst 1, 1) := by decide +kernel
theorem dX12_sure_76 : decode cX12_sure 76 = .ok (.aload_n 0, 1) := by decide +kernel
theorem dX12_sure_77 : decode cX12_sure 77 = .ok (.getfield 13, 3) := by decide +kernel
theorem dX12_sure_80 : decode cX12_sure 80 = .ok (.iconst 2, 1) := by decide +kernel
theorem dX12_sure_81 : decode cX12_sure 81 = .ok (.iaload, 1) := by decide +kernel
theorem dX12_sure_82 : decode cX12_sure 82 = .ok (.ishl, 1) := by decide +kernel
theorem dX12_sure_83 : decode cX12_sure 83 = .ok (.iconst 1, 1) := by decide +kernel
theorem dX12_sure_84 : decode cX12_sure 84 = .ok (.isub, 1) := by decide +kernel
theorem dX12_sure_85 : decode cX12_sure 85 = .ok (.iload_n 3, 1) := by decide +kernel
theorem dX12_sure_86 : decode cX12_sure 86 = .ok (.iconst (-1), 1) := by decide +kernel
theorem dX12_sure_87 : decode cX12_sure 87 = .ok (.ixor, 1) := by decide +kernel
theorem dX12_sure_88 : decode cX12_sure 88 = .ok (.iand, 1) := by decide +kernel
theorem dX12_sure_89 : decode cX12_sure 89 = .ok (.ireturn, 1) := by decide +kernel
theorem dX12_rowsFrom_0 : decode cX12_rowsFrom 0 = .ok (.iload_n 2, 1) := by decide +kernel
theorem dX12_rowsFrom_1 : decode cX12_rowsFrom 1 = .ok (.ifCond .ne 5, 3) := by decide +kernel
theorem dX12_rowsFrom_4 : decode cX12_rowsFrom 4 = .ok (.iconst 1, 1) := by decide +kernel
theorem dX12_rowsFrom_5 : decode cX12_rowsFrom 5 = .ok (.ireturn, 1) := by decide +kernel
theorem dX12_rowsFrom_6 : decode cX12_rowsFrom 6 = .ok (.iconst 0, 1) := by decide +kernel
theorem dX12_rowsFrom_7 : decode cX12_rowsFrom 7 = .ok (.istore_n 3, 1) := by decide +kernel
theorem dX12_rowsFrom_8 : decode cX12_rowsFrom 8 = .ok (.aload_n 0, 1) := by decide +kernel
theorem dX12_rowsFrom_9 : decode cX12_rowsFrom 9 = .ok (.aload_n 0, 1) := by decide +kernel
theorem dX12_rowsFrom_10 : decode cX12_rowsFrom 10 = .ok (.iload_n 1, 1) := by decide +kernel
theorem dX12_rowsFrom_11 : decode cX12_rowsFrom 11 = .ok (.aload_n 0, 1) := by decide +kernel
theorem dX12_rowsFrom_12 : decode cX12_rowsFrom 12 = .ok (.getfield 13, 3) := by decide +kernel
theorem dX12_rowsFrom_15 : decode cX12_rowsFrom 15 = .ok (.iconst 4, 1) := by decide +kernel
theorem dX12_rowsFrom_16 : decode cX12_rowsFrom 16 = .ok (.iaload, 1) := by decide +kernel
theorem dX12_rowsFrom_17 : decode cX12_rowsFrom 17 = .ok (.invokevirtual 232, 3) := by decide +kernel
theorem dX12_rowsFrom_20 : decode cX12_rowsFrom 20 = .ok (.invokevirtual 251, 3) := by decide +kernel
theorem dX12_rowsFrom_23 : decode cX12_rowsFrom 23 = .ok (.istore 4, 2) := by decide +kernel
theorem dX12_rowsFrom_25 : decode cX12_rowsFrom 25 = .ok (.iconst 0, 1) := by decide +kernel
theorem dX12_rowsFrom_26 : decode cX12_rowsFrom 26 = .ok (.istore 5, 2) := by decide +kernel
theorem dX12_rowsFrom_28 : decode cX12_rowsFrom 28 = .ok (.iload 5, 2) := by decide +kernel
theorem dX12_rowsFrom_30 : decode cX12_rowsFrom 30 = .ok (.aload_n 0, 1) := by decide +kernel
theorem dX12_rowsFrom_31 : decode cX12_rowsFrom 31 = .ok (.getfield 13, 3) := by decide +kernel
theorem dX12_rowsFrom_34 : decode cX12_rowsFrom 34 = .ok (.iconst 2, 1) := by decide +kernel
theorem dX12_rowsFrom_35 : decode cX12_rowsFrom 35 = .ok (.iaload, 1) := by decide +kernel
theorem dX12_rowsFrom_36 : decode cX12_rowsFrom 36 = .ok (.if_icmp .ge 40, 3) := by decide +kernel
theorem dX12_rowsFrom_39 : decode cX12_rowsFrom 39 = .ok (.iload_n 3, 1) := by decide +kernel
theorem dX12_rowsFrom_40 : decode cX12_rowsFrom 40 = .ok (.iload 4, 2) := by decide +kernel
theorem dX12_rowsFrom_42 : decode cX12_rowsFrom 42 = .ok (.i2l, 1) := by decide +kernel
theorem dX12_rowsFrom_43 : decode cX12_rowsFrom 43 = .ok (.iload 5, 2) := by decide +kernel
theorem dX12_rowsFrom_45 : decode cX12_rowsFrom 45 = .ok (.invokestatic 222, 3) := by decide +kernel
theorem dX12_rowsFrom_48 : decode cX12_rowsFrom 48 = .ok (.ifCond .eq 7, 3) := by decide +kernel
theorem dX12_rowsFrom_51 : decode cX12_rowsFrom 51 = .ok (.iconst 0, 1) := by decide +kernel
theorem dX12_rowsFrom_52 : decode cX12_rowsFrom 52 = .ok (.goto 16, 3) := by decide +kernel
theorem dX12_rowsFrom_55 : decode cX12_rowsFrom 55 = .ok (.aload_n 0, 1) := by decide +kernel
theorem dX12_rowsFrom_56 : decode cX12_rowsFrom 56 = .ok (.iload_n 1, 1) := by decide +kernel
theorem dX12_rowsFrom_57 : decode cX12_rowsFrom 57 = .ok (.iconst 1, 1) := by decide +kernel
theorem dX12_rowsFrom_58 : decode cX12_rowsFrom 58 = .ok (.iload 5, 2) := by decide +kernel
theorem dX12_rowsFrom_60 : decode cX12_rowsFrom 60 = .ok (.ishl, 1) := by decide +kernel
theorem dX12_rowsFrom_61 : decode cX12_rowsFrom 61 = .ok (.ior, 1) := by decide +kernel
theorem dX12_rowsFrom_62 : decode cX12_rowsFrom 62 = .ok (.iload_n 2, 1) := by decide +kernel
theorem dX12_rowsFrom_63 : decode cX12_rowsFrom 63 = .ok (.iconst 1, 1) := by decide +kernel
theorem dX12_rowsFrom_64 : decode cX12_rowsFrom 64 = .ok (.isub, 1) := by decide +kernel
theorem dX12_rowsFrom_65 : decode cX12_rowsFrom 65 = .ok (.invokevirtual 386, 3) := by decide +kernel
theorem dX12_rowsFrom_68 : decode cX12_rowsFrom 68 = .ok (.iadd, 1) := by decide +kernel
theorem dX12_rowsFrom_69 : decode cX12_rowsFrom 69 = .ok (.istore_n 3, 1) := by decide +kernel
theorem dX12_rowsFrom_70 : decode cX12_rowsFrom 70 = .ok (.iinc 5 1, 3) := by decide +kernel
theorem dX12_rowsFrom_73 : decode cX12_rowsFrom 73 = .ok (.goto (-45), 3) := by decide +kernel
theorem dX12_rowsFrom_76 : decode cX12_rowsFrom 76 = .ok (.iload_n 3, 1) := by decide +kernel
theorem dX12_rowsFrom_77 : decode cX12_rowsFrom 77 = .ok (.ireturn, 1) := by decide +kernel
theorem dX12_questions_0 : decode cX12_questions 0 = .ok (.aload_n 0, 1) := by decide +kernel
theorem dX12_questions_1 : decode cX12_questions 1 = .ok (.iconst 0, 1) := by decide +kernel
theorem dX12_questions_2 : decode cX12_questions 2 = .ok (.putfield 1, 3) := by decide +kernel
theorem dX12_questions_5 : decode cX12_questions 5 = .ok (.aload_n 0, 1) := by decide +kernel
theorem dX12_questions_6 : decode cX12_questions 6 = .ok (.iload_n 1, 1) := by decide +kernel
theorem dX12_questions_7 : decode cX12_questions 7 = .ok (.i2l, 1) := by decide +kernel
theorem dX12_questions_8 : decode cX12_questions 8 = .ok (.invokevirtual 245, 3) := by decide +kernel
theorem dX12_questions_11 : decode cX12_questions 11 = .ok (.ifCond .ne 6, 3) := by decide +kernel
theorem dX12_questions_14 : decode cX12_questions 14 = .ok (.bipush (-2), 2) := by decide +kernel
theorem dX12_questions_16 : decode cX12_questions 16 = .ok (.ireturn, 1) := by decide +kernel
theorem dX12_questions_17 : decode cX12_questions 17 = .ok (.iload_n 2, 1) := by decide +kernel
theorem dX12_questions_18 : decode cX12_questions 18 = .ok (.i2l, 1) := by decide +kernel
theorem dX12_questions_19 : decode cX12_questions 19 = .ok (.lconst 1, 1) := by decide +kernel
theorem dX12_questions_20 : decode cX12_questions 20 = .ok (.ldc2_w 389, 3) := by decide +kernel
theorem dX12_questions_23 : decode cX12_questions 23 = .ok (.invokestatic 145, 3) := by decide +kernel
theorem dX12_questions_26 : decode cX12_questions 26 = .ok (.ifCond .ne 6, 3) := by decide +kernel
theorem dX12_questions_29 : decode cX12_questions 29 = .ok (.bipush (-3), 2) := by decide +kernel
theorem dX12_questions_31 : decode cX12_questions 31 = .ok (.ireturn, 1) := by decide +kernel
theorem dX12_questions_32 : decode cX12_questions 32 = .ok (.aload_n 0, 1) := by decide +kernel
theorem dX12_questions_33 : decode cX12_questions 33 = .ok (.getfield 13, 3) := by decide +kernel
theorem dX12_questions_36 : decode cX12_questions 36 = .ok (.iconst 1, 1) := by decide +kernel
theorem dX12_questions_37 : decode cX12_questions 37 = .ok (.iaload, 1) := by decide +kernel
theorem dX12_questions_38 : decode cX12_questions 38 = .ok (.ifCond .ne 8, 3) := by decide +kernel
theorem dX12_questions_41 : decode cX12_questions 41 = .ok (.bipush (-5), 2) := by decide +kernel
theorem dX12_questions_43 : decode cX12_questions 43 = .ok (.goto 16, 3) := by decide +kernel
theorem dX12_questions_46 : decode cX12_questions 46 = .ok (.aload_n 0, 1) := by decide +kernel
theorem dX12_questions_47 : decode cX12_questions 47 = .ok (.aload_n 0, 1) := by decide +kernel
theorem dX12_questions_48 : decode cX12_questions 48 = .ok (.getfield 13, 3) := by decide +kernel
theorem dX12_questions_51 : decode cX12_questions 51 = .ok (.iconst 5, 1) := by decide +kernel
theorem dX12_questions_52 : decode cX12_questions 52 = .ok (.iload_n 1, 1) := by decide +kernel
theorem dX12_questions_53 : decode cX12_questions 53 = .ok (.iadd, 1) := by decide +kernel
theorem dX12_questions_54 : decode cX12_questions 54 = .ok (.iaload, 1) := by decide +kernel
theorem dX12_questions_55 : decode cX12_questions 55 = .ok (.iload_n 2, 1) := by decide +kernel
theorem dX12_questions_56 : decode cX12_questions 56 = .ok (.invokevirtual 386, 3) := by decide +kernel
theorem dX12_questions_59 : decode cX12_questions 59 = .ok (.ireturn, 1) := by decide +kernel
theorem dX12_cut_0 : decode cX12_cut 0 = .ok (.iload_n 2, 1) := by decide +kernel
theorem dX12_cut_1 : decode cX12_cut 1 = .ok (.ifCond .ne 10, 3) := by decide +kernel
theorem dX12_cut_4 : decode cX12_cut 4 = .ok (.lload_n 0, 1) := by decide +kernel
theorem dX12_cut_5 : decode cX12_cut 5 = .ok (.l2i, 1) := by decide +kernel
theorem dX12_cut_6 : decode cX12_cut 6 = .ok (.i2b, 1) := by decide +kernel
theorem dX12_cut_7 : decode cX12_cut 7 = .ok (.i2l, 1) := by decide +kernel
theorem dX12_cut_8 : decode cX12_cut 8 = .ok (.goto 27, 3) := by decide +kernel
theorem dX12_cut_11 : decode cX12_cut 11 = .ok (.iload_n 2, 1) := by decide +kernel
theorem dX12_cut_12 : decode cX12_cut 12 = .ok (.iconst 1, 1) := by decide +kernel
theorem dX12_cut_13 : decode cX12_cut 13 = .ok (.if_icmp .ne 10, 3) := by decide +kernel
theorem dX12_cut_16 : decode cX12_cut 16 = .ok (.lload_n 0, 1) := by decide +kernel
theorem dX12_cut_17 : decode cX12_cut 17 = .ok (.l2i, 1) := by decide +kernel
theorem dX12_cut_18 : decode cX12_cut 18 = .ok (.i2s, 1) := by decide +kernel
theorem dX12_cut_19 : decode cX12_cut 19 = .ok (.i2l, 1) := by decide +kernel
theorem dX12_cut_20 : decode cX12_cut 20 = .ok (.goto 15, 3) := by decide +kernel
theorem dX12_cut_23 : decode cX12_cut 23 = .ok (.iload_n 2, 1) := by decide +kernel
theorem dX12_cut_24 : decode cX12_cut 24 = .ok (.iconst 2, 1) := by decide +kernel
theorem dX12_cut_25 : decode cX12_cut 25 = .ok (.if_icmp .ne 9, 3) := by decide +kernel
theorem dX12_cut_28 : decode cX12_cut 28 = .ok (.lload_n 0, 1) := by decide +kernel
theorem dX12_cut_29 : decode cX12_cut 29 = .ok (.l2i, 1) := by decide +kernel
theorem dX12_cut_30 : decode cX12_cut 30 = .ok (.i2l, 1) := by decide +kernel
theorem dX12_cut_31 : decode cX12_cut 31 = .ok (.goto 4, 3) := by decide +kernel
theorem dX12_cut_34 : decode cX12_cut 34 = .ok (.lload_n 0, 1) := by decide +kernel
theorem dX12_cut_35 : decode cX12_cut 35 = .ok (.lreturn, 1) := by decide +kernel
theorem dX12_numbers_0 : decode cX12_numbers 0 = .ok (.aload_n 0, 1) := by decide +kernel
theorem dX12_numbers_1 : decode cX12_numbers 1 = .ok (.iconst 0, 1) := by decide +kernel
theorem dX12_numbers_2 : decode cX12_numbers 2 = .ok (.putfield 1, 3) := by decide +kernel
theorem dX12_numbers_5 : decode cX12_numbers 5 = .ok (.iload_n 1, 1) := by decide +kernel
theorem dX12_numbers_6 : decode cX12_numbers 6 = .ok (.i2l, 1) := by decide +kernel
theorem dX12_numbers_7 : decode cX12_numbers 7 = .ok (.lconst 0, 1) := by decide +kernel
theorem dX12_numbers_8 : decode cX12_numbers 8 = .ok (.ldc2_w 289, 3) := by decide +kernel
theorem dX12_numbers_11 : decode cX12_numbers 11 = .ok (.invokestatic 145, 3) := by decide +kernel
theorem dX12_numbers_14 : decode cX12_numbers 14 = .ok (.ifCond .eq 15, 3) := by decide +kernel
theorem dX12_numbers_17 : decode cX12_numbers 17 = .ok (.iload_n 2, 1) := by decide +kernel
theorem dX12_numbers_18 : decode cX12_numbers 18 = .ok (.i2l, 1) := by decide +kernel
theorem dX12_numbers_19 : decode cX12_numbers 19 = .ok (.lconst 0, 1) := by decide +kernel
theorem dX12_numbers_20 : decode cX12_numbers 20 = .ok (.ldc2_w 289, 3) := by decide +kernel
theorem dX12_numbers_23 : decode cX12_numbers 23 = .ok (.invokestatic 145, 3) := by decide +kernel
theorem dX12_numbers_26 : decode cX12_numbers 26 = .ok (.ifCond .ne 6, 3) := by decide +kernel
theorem dX12_numbers_29 : decode cX12_numbers 29 = .ok (.bipush (-2), 2) := by decide +kernel
theorem dX12_numbers_31 : decode cX12_numbers 31 = .ok (.ireturn, 1) := by decide +kernel
theorem dX12_numbers_32 : decode cX12_numbers 32 = .ok (.iload_n 3, 1) := by decide +kernel
theorem dX12_numbers_33 : decode cX12_numbers 33 = .ok (.i2l, 1) := by decide +kernel
theorem dX12_numbers_34 : decode cX12_numbers 34 = .ok (.lconst 0, 1) := by decide +kernel
theorem dX12_numbers_35 : decode cX12_numbers 35 = .ok (.ldc2_w 391, 3) := by decide +kernel
theorem dX12_numbers_38 : decode cX12_numbers 38 = .ok (.invokestatic 145, 3) := by decide +kernel
theorem dX12_numbers_41 : decode cX12_numbers 41 = .ok (.ifCond .ne 6, 3) := by decide +kernel
theorem dX12_numbers_44 : decode cX12_numbers 44 = .ok (.bipush (-3), 2) := by decide +kernel
theorem dX12_numbers_46 : decode cX12_numbers 46 = .ok (.ireturn, 1) := by decide +kernel
theorem dX12_numbers_47 : decode cX12_numbers 47 = .ok (.aload_n 0, 1) := by decide +kernel
theorem dX12_numbers_48 : decode cX12_numbers 48 = .ok (.getfield 73, 3) := by decide +kernel
theorem dX12_numbers_51 : decode cX12_numbers 51 = .ok (.iload_n 1, 1) := by decide +kernel
theorem dX12_numbers_52 : decode cX12_numbers 52 = .ok (.iload_n 2, 1) := by decide +kernel
theorem dX12_numbers_53 : decode cX12_numbers 53 = .ok (.iastore, 1) := by decide +kernel
theorem dX12_numbers_54 : decode cX12_numbers 54 = .ok (.aload_n 0, 1) := by decide +kernel
theorem dX12_numbers_55 : decode cX12_numbers 55 = .ok (.getfield 76, 3) := by decide +kernel
theorem dX12_numbers_58 : decode cX12_numbers 58 = .ok (.iload_n 1, 1) := by decide +kernel
theorem dX12_numbers_59 : decode cX12_numbers 59 = .ok (.iload_n 3, 1) := by decide +kernel
theorem dX12_numbers_60 : decode cX12_numbers 60 = .ok (.iastore, 1) := by decide +kernel
theorem dX12_numbers_61 : decode cX12_numbers 61 = .ok (.iconst 0, 1) := by decide +kernel
theorem dX12_numbers_62 : decode cX12_numbers 62 = .ok (.istore 4, 2) := by decide +kernel
theorem dX12_numbers_64 : decode cX12_numbers 64 = .ok (.iload 4, 2) := by decide +kernel
theorem dX12_numbers_66 : decode cX12_numbers 66 = .ok (.iload_n 3, 1) := by decide +kernel
theorem dX12_numbers_67 : decode cX12_numbers 67 = .ok (.if_icmp .ge 22, 3) := by decide +kernel
theorem dX12_numbers_70 : decode cX12_numbers 70 = .ok (.aload_n 0, 1) := by decide +kernel
theorem dX12_numbers_71 : decode cX12_numbers 71 = .ok (.getfield 79, 3) := by decide +kernel
theorem dX12_numbers_74 : decode cX12_numbers 74 = .ok (.bipush 40, 2) := by decide +kernel
theorem dX12_numbers_76 : decode cX12_numbers 76 = .ok (.iload_n 1, 1) := by decide +kernel
theorem dX12_numbers_77 : decode cX12_numbers 77 = .ok (.imul, 1) := by decide +kernel
theorem dX12_numbers_78 : decode cX12_numbers 78 = .ok (.iload 4, 2) := by decide +kernel
theorem dX12_numbers_80 : decode cX12_numbers 80 = .ok (.iadd, 1) := by decide +kernel
theorem dX12_numbers_81 : decode cX12_numbers 81 = .ok (.lconst 0, 1) := by decide +kernel
theorem dX12_numbers_82 : decode cX12_numbers 82 = .ok (.lastore, 1) := by decide +kernel
theorem dX12_numbers_83 : decode cX12_numbers 83 = .ok (.iinc 4 1, 3) := by decide +kernel
theorem dX12_numbers_86 : decode cX12_numbers 86 = .ok (.goto (-22), 3) := by decide +kernel
theorem dX12_numbers_89 : decode cX12_numbers 89 = .ok (.iconst 0, 1) := by decide +kernel
theorem dX12_numbers_90 : decode cX12_numbers 90 = .ok (.ireturn, 1) := by decide +kernel
theorem dX12_write_0 : decode cX12_write 0 = .ok (.aload_n 0, 1) := by decide +kernel
theorem dX12_write_1 : decode cX12_write 1 = .ok (.iconst 0, 1) := by decide +kernel
theorem dX12_write_2 : decode cX12_write 2 = .ok (.putfield 1, 3) := by decide +kernel
theorem dX12_write_5 : decode cX12_write 5 = .ok (.iload_n 1, 1) := by decide +kernel
theorem dX12_write_6 : decode cX12_write 6 = .ok (.i2l, 1) := by decide +kernel
theorem dX12_write_7 : decode cX12_write 7 = .ok (.lconst 0, 1) := by decide +kernel
theorem dX12_write_8 : decode cX12_write 8 = .ok (.ldc2_w 289, 3) := by decide +kernel
theorem dX12_write_11 : decode cX12_write 11 = .ok (.invokestatic 145, 3) := by decide +kernel
theorem dX12_write_14 : decode cX12_write 14 = .ok (.ifCond .ne 7, 3) := by decide +kernel
theorem dX12_write_17 : decode cX12_write 17 = .ok (.ldc2_w 393, 3) := by decide +kernel
theorem dX12_write_20 : decode cX12_write 20 = .ok (.lreturn, 1) := by decide +kernel
theorem dX12_write_21 : decode cX12_write 21 = .ok (.aload_n 0, 1) := by decide +kernel
theorem dX12_write_22 : decode cX12_write 22 = .ok (.getfield 73, 3) := by decide +kernel
theorem dX12_write_25 : decode cX12_write 25 = .ok (.iload_n 1, 1) := by decide +kernel
theorem dX12_write_26 : decode cX12_write 26 = .ok (.iaload, 1) := by decide +kernel
theorem dX12_write_27 : decode cX12_write 27 = .ok (.iconst (-1), 1) := by decide +kernel
theorem dX12_write_28 : decode cX12_write 28 = .ok (.if_icmp .ne 7, 3) := by decide +kernel
theorem dX12_write_31 : decode cX12_write 31 = .ok (.ldc2_w 395, 3) := by decide +kernel
theorem dX12_write_34 : decode cX12_write 34 = .ok (.lreturn, 1) := by decide +kernel
theorem dX12_write_35 : decode cX12_write 35 = .ok (.iload_n 2, 1) := by decide +kernel
theorem dX12_write_36 : decode cX12_write 36 = .ok (.i2l, 1) := by decide +kernel
theorem dX12_write_37 : decode cX12_write 37 = .ok (.lconst 0, 1) := by decide +kernel
theorem dX12_write_38 : decode cX12_write 38 = .ok (.aload_n 0, 1) := by decide +kernel
theorem dX12_write_39 : decode cX12_write 39 = .ok (.getfield 76, 3) := by decide +kernel
theorem dX12_write_42 : decode cX12_write 42 = .ok (.iload_n 1, 1) := by decide +kernel
theorem dX12_write_43 : decode cX12_write 43 = .ok (.iaload, 1) := by decide +kernel
theorem dX12_write_44 : decode cX12_write 44 = .ok (.iconst 1, 1) := by decide +kernel
theorem dX12_write_45 : decode cX12_write 45 = .ok (.isub, 1) := by decide +kernel
theorem dX12_write_46 : decode cX12_write 46 = .ok (.i2l, 1) := by decide +kernel
theorem dX12_write_47 : decode cX12_write 47 = .ok (.invokestatic 145, 3) := by decide +kernel
theorem dX12_write_50 : decode cX12_write 50 = .ok (.ifCond .ne 7, 3) := by decide +kernel
theorem dX12_write_53 : decode cX12_write 53 = .ok (.ldc2_w 397, 3) := by decide +kernel
theorem dX12_write_56 : decode cX12_write 56 = .ok (.lreturn, 1) := by decide +kernel
theorem dX12_write_57 : decode cX12_write 57 = .ok (.aload_n 0, 1) := by decide +kernel
theorem dX12_write_58 : decode cX12_write 58 = .ok (.getfield 79, 3) := by decide +kernel
theorem dX12_write_61 : decode cX12_write 61 = .ok (.bipush 40, 2) := by decide +kernel
theorem dX12_write_63 : decode cX12_write 63 = .ok (.iload_n 1, 1) := by decide +kernel
theorem dX12_write_64 : decode cX12_write 64 = .ok (.imul, 1) := by decide +kernel
theorem dX12_write_65 : decode cX12_write 65 = .ok (.iload_n 2, 1) := by decide +kernel
theorem dX12_write_66 : decode cX12_write 66 = .ok (.iadd, 1) := by decide +kernel
theorem dX12_write_67 : decode cX12_write 67 = .ok (.lload_n 3, 1) := by decide +kernel
theorem dX12_write_68 : decode cX12_write 68 = .ok (.aload_n 0, 1) := by decide +kernel
theorem dX12_write_69 : decode cX12_write 69 = .ok (.getfield 73, 3) := by decide +kernel
theorem dX12_write_72 : decode cX12_write 72 = .ok (.iload_n 1, 1) := by decide +kernel
theorem dX12_write_73 : decode cX12_write 73 = .ok (.iaload, 1) := by decide +kernel
theorem dX12_write_74 : decode cX12_write 74 = .ok (.invokestatic 399, 3) := by decide +kernel
theorem dX12_write_77 : decode cX12_write 77 = .ok (.lastore, 1) := by decide +kernel
theorem dX12_write_78 : decode cX12_write 78 = .ok (.aload_n 0, 1) := by decide +kernel
theorem dX12_write_79 : decode cX12_write 79 = .ok (.getfield 79, 3) := by decide +kernel
theorem dX12_write_82 : decode cX12_write 82 = .ok (.bipush 40, 2) := by decide +kernel
theorem dX12_write_84 : decode cX12_write 84 = .ok (.iload_n 1, 1) := by decide +kernel
theorem dX12_write_85 : decode cX12_write 85 = .ok (.imul, 1) := by decide +kernel
theorem dX12_write_86 : decode cX12_write 86 = .ok (.iload_n 2, 1) := by decide +kernel
theorem dX12_write_87 : decode cX12_write 87 = .ok (.iadd, 1) := by decide +kernel
theorem dX12_write_88 : decode cX12_write 88 = .ok (.laload, 1) := by decide +kernel
theorem dX12_write_89 : decode cX12_write 89 = .ok (.lreturn, 1) := by decide +kernel
theorem dX12_copy_0 : decode cX12_copy 0 = .ok (.aload_n 0, 1) := by decide +kernel
theorem dX12_copy_1 : decode cX12_copy 1 = .ok (.iconst 0, 1) := by decide +kernel
theorem dX12_copy_2 : decode cX12_copy 2 = .ok (.putfield 1, 3) := by decide +kernel
theorem dX12_copy_5 : decode cX12_copy 5 = .ok (.iload_n 1, 1) := by decide +kernel
theorem dX12_copy_6 : decode cX12_copy 6 = .ok (.i2l, 1) := by decide +kernel
theorem dX12_copy_7 : decode cX12_copy 7 = .ok (.lconst 0, 1) := by decide +kernel
theorem dX12_copy_8 : decode cX12_copy 8 = .ok (.ldc2_w 289, 3) := by decide +kernel
theorem dX12_copy_11 : decode cX12_copy 11 = .ok (.invokestatic 145, 3) := by decide +kernel
theorem dX12_copy_14 : decode cX12_copy 14 = .ok (.ifCond .ne 6, 3) := by decide +kernel
theorem dX12_copy_17 : decode cX12_copy 17 = .ok (.bipush (-2), 2) := by decide +kernel
theorem dX12_copy_19 : decode cX12_copy 19 = .ok (.ireturn, 1) := by decide +kernel
theorem dX12_copy_20 : decode cX12_copy 20 = .ok (.aload_n 0, 1) := by decide +kernel
theorem dX12_copy_21 : decode cX12_copy 21 = .ok (.getfield 73, 3) := by decide +kernel
theorem dX12_copy_24 : decode cX12_copy 24 = .ok (.iload_n 1, 1) := by decide +kernel
theorem dX12_copy_25 : decode cX12_copy 25 = .ok (.iaload, 1) := by decide +kernel
theorem dX12_copy_26 : decode cX12_copy 26 = .ok (.iconst (-1), 1) := by decide +kernel
theorem dX12_copy_27 : decode cX12_copy 27 = .ok (.if_icmp .ne 6, 3) := by decide +kernel
theorem dX12_copy_30 : decode cX12_copy 30 = .ok (.bipush (-6), 2) := by decide +kernel
theorem dX12_copy_32 : decode cX12_copy 32 = .ok (.ireturn, 1) := by decide +kernel
theorem dX12_copy_33 : decode cX12_copy 33 = .ok (.aload_n 0, 1) := by decide +kernel
theorem dX12_copy_34 : decode cX12_copy 34 = .ok (.getfield 13, 3) := by decide +kernel
theorem dX12_copy_37 : decode cX12_copy 37 = .ok (.iconst 3, 1) := by decide +kernel
theorem dX12_copy_38 : decode cX12_copy 38 = .ok (.iaload, 1) := by decide +kernel
theorem dX12_copy_39 : decode cX12_copy 39 = .ok (.aload_n 0, 1) := by decide +kernel
theorem dX12_copy_40 : decode cX12_copy 40 = .ok (.getfield 76, 3) := by decide +kernel
theorem dX12_copy_43 : decode cX12_copy 43 = .ok (.iload_n 1, 1) := by decide +kernel
theorem dX12_copy_44 : decode cX12_copy 44 = .ok (.iaload, 1) := by decide +kernel
theorem dX12_copy_45 : decode cX12_copy 45 = .ok (.if_icmp .ge 12, 3) := by decide +kernel
theorem dX12_copy_48 : decode cX12_copy 48 = .ok (.aload_n 0, 1) := by decide +kernel
theorem dX12_copy_49 : decode cX12_copy 49 = .ok (.getfield 13, 3) := by decide +kernel
theorem dX12_copy_52 : decode cX12_copy 52 = .ok (.iconst 3, 1) := by decide +kernel
theorem dX12_copy_53 : decode cX12_copy 53 = .ok (.iaload, 1) := by decide +kernel
theorem dX12_copy_54 : decode cX12_copy 54 = .ok (.goto 9, 3) := by decide +kernel
theorem dX12_copy_57 : decode cX12_copy 57 = .ok (.aload_n 0, 1) := by decide +kernel
theorem dX12_copy_58 : decode cX12_copy 58 = .ok (.getfield 76, 3) := by decide +kernel
theorem dX12_copy_61 : decode cX12_copy 61 = .ok (.iload_n 1, 1) := by decide +kernel
theorem dX12_copy_62 : decode cX12_copy 62 = .ok (.iaload, 1) := by decide +kernel
theorem dX12_copy_63 : decode cX12_copy 63 = .ok (.istore_n 2, 1) := by decide +kernel
theorem dX12_copy_64 : decode cX12_copy 64 = .ok (.iconst 0, 1) := by decide +kernel
theorem dX12_copy_65 : decode cX12_copy 65 = .ok (.istore_n 3, 1) := by decide +kernel
theorem dX12_copy_66 : decode cX12_copy 66 = .ok (.iload_n 3, 1) := by decide +kernel
theorem dX12_copy_67 : decode cX12_copy 67 = .ok (.iload_n 2, 1) := by decide +kernel
theorem dX12_copy_68 : decode cX12_copy 68 = .ok (.if_icmp .ge 38, 3) := by decide +kernel
theorem dX12_copy_71 : decode cX12_copy 71 = .ok (.aload_n 0, 1) := by decide +kernel
theorem dX12_copy_72 : decode cX12_copy 72 = .ok (.getfield 79, 3) := by decide +kernel
theorem dX12_copy_75 : decode cX12_copy 75 = .ok (.bipush 40, 2) := by decide +kernel
theorem dX12_copy_77 : decode cX12_copy 77 = .ok (.iload_n 1, 1) := by decide +kernel
theorem dX12_copy_78 : decode cX12_copy 78 = .ok (.imul, 1) := by decide +kernel
theorem dX12_copy_79 : decode cX12_copy 79 = .ok (.iload_n 3, 1) := by decide +kernel
theorem dX12_copy_80 : decode cX12_copy 80 = .ok (.iadd, 1) := by decide +kernel
theorem dX12_copy_81 : decode cX12_copy 81 = .ok (.aload_n 0, 1) := by decide +kernel
theorem dX12_copy_82 : decode cX12_copy 82 = .ok (.getfield 13, 3) := by decide +kernel
theorem dX12_copy_85 : decode cX12_copy 85 = .ok (.iconst 5, 1) := by decide +kernel
theorem dX12_copy_86 : decode cX12_copy 86 = .ok (.iload_n 3, 1) := by decide +kernel
theorem dX12_copy_87 : decode cX12_copy 87 = .ok (.iadd, 1) := by decide +kernel
theorem dX12_copy_88 : decode cX12_copy 88 = .ok (.iaload, 1) := by decide +kernel
theorem dX12_copy_89 : decode cX12_copy 89 = .ok (.i2l, 1) := by decide +kernel
theorem dX12_copy_90 : decode cX12_copy 90 = .ok (.aload_n 0, 1) := by decide +kernel
theorem dX12_copy_91 : decode cX12_copy 91 = .ok (.getfield 73, 3) := by decide +kernel
theorem dX12_copy_94 : decode cX12_copy 94 = .ok (.iload_n 1, 1) := by decide +kernel
theorem dX12_copy_95 : decode cX12_copy 95 = .ok (.iaload, 1) := by decide +kernel
theorem dX12_copy_96 : decode cX12_copy 96 = .ok (.invokestatic 399, 3) := by decide +kernel
theorem dX12_copy_99 : decode cX12_copy 99 = .ok (.lastore, 1) := by decide +kernel
theorem dX12_copy_100 : decode cX12_copy 100 = .ok (.iinc 3 1, 3) := by decide +kernel
theorem dX12_copy_103 : decode cX12_copy 103 = .ok (.goto (-37), 3) := by decide +kernel
theorem dX12_copy_106 : decode cX12_copy 106 = .ok (.iload_n 2, 1) := by decide +kernel
theorem dX12_copy_107 : decode cX12_copy 107 = .ok (.ireturn, 1) := by decide +kernel
theorem dX12_image_0 : decode cX12_image 0 = .ok (.aload_n 0, 1) := by decide +kernel
theorem dX12_image_1 : decode cX12_image 1 = .ok (.iconst 0, 1) := by decide +kernel
theorem dX12_image_2 : decode cX12_image 2 = .ok (.putfield 1, 3) := by decide +kernel
theorem dX12_image_5 : decode cX12_image 5 = .ok (.iload_n 1, 1) := by decide +kernel
theorem dX12_image_6 : decode cX12_image 6 = .ok (.i2l, 1) := by decide +kernel
theorem dX12_image_7 : decode cX12_image 7 = .ok (.lconst 0, 1) := by decide +kernel
theorem dX12_image_8 : decode cX12_image 8 = .ok (.lconst 1, 1) := by decide +kernel
theorem dX12_image_9 : decode cX12_image 9 = .ok (.invokestatic 145, 3) := by decide +kernel
theorem dX12_image_12 : decode cX12_image 12 = .ok (.ifCond .ne 6, 3) := by decide +kernel
theorem dX12_image_15 : decode cX12_image 15 = .ok (.bipush (-2), 2) := by decide +kernel
theorem dX12_image_17 : decode cX12_image 17 = .ok (.ireturn, 1) := by decide +kernel
theorem dX12_image_18 : decode cX12_image 18 = .ok (.iconst 0, 1) := by decide +kernel
theorem dX12_image_19 : decode cX12_image 19 = .ok (.istore_n 2, 1) := by decide +kernel
theorem dX12_image_20 : decode cX12_image 20 = .ok (.iload_n 2, 1) := by decide +kernel
theorem dX12_image_21 : decode cX12_image 21 = .ok (.sipush 198, 3) := by decide +kernel
theorem dX12_image_24 : decode cX12_image 24 = .ok (.if_icmp .ge 29, 3) := by decide +kernel
theorem dX12_image_27 : decode cX12_image 27 = .ok (.aload_n 0, 1) := by decide +kernel
theorem dX12_image_28 : decode cX12_image 28 = .ok (.getfield 13, 3) := by decide +kernel
theorem dX12_image_31 : decode cX12_image 31 = .ok (.sipush 198, 3) := by decide +kernel
theorem dX12_image_34 : decode cX12_image 34 = .ok (.iload_n 1, 1) := by decide +kernel
theorem dX12_image_35 : decode cX12_image 35 = .ok (.iconst 1, 1) := by decide +kernel
theorem dX12_image_36 : decode cX12_image 36 = .ok (.iadd, 1) := by decide +kernel
theorem dX12_image_37 : decode cX12_image 37 = .ok (.imul, 1) := by decide +kernel
theorem dX12_image_38 : decode cX12_image 38 = .ok (.iload_n 2, 1) := by decide +kernel
theorem dX12_image_39 : decode cX12_image 39 = .ok (.iadd, 1) := by decide +kernel
theorem dX12_image_40 : decode cX12_image 40 = .ok (.aload_n 0, 1) := by decide +kernel
theorem dX12_image_41 : decode cX12_image 41 = .ok (.getfield 13, 3) := by decide +kernel
theorem dX12_image_44 : decode cX12_image 44 = .ok (.iload_n 2, 1) := by decide +kernel
theorem dX12_image_45 : decode cX12_image 45 = .ok (.iaload, 1) := by decide +kernel
theorem dX12_image_46 : decode cX12_image 46 = .ok (.iastore, 1) := by decide +kernel
theorem dX12_image_47 : decode cX12_image 47 = .ok (.iinc 2 1, 3) := by decide +kernel
theorem dX12_image_50 : decode cX12_image 50 = .ok (.goto (-30), 3) := by decide +kernel
theorem dX12_image_53 : decode cX12_image 53 = .ok (.aload_n 0, 1) := by decide +kernel
theorem dX12_image_54 : decode cX12_image 54 = .ok (.getfield 17, 3) := by decide +kernel
theorem dX12_image_57 : decode cX12_image 57 = .ok (.iload_n 1, 1) := by decide +kernel
theorem dX12_image_58 : decode cX12_image 58 = .ok (.iconst 1, 1) := by decide +kernel
theorem dX12_image_59 : decode cX12_image 59 = .ok (.bastore, 1) := by decide +kernel
theorem dX12_image_60 : decode cX12_image 60 = .ok (.iconst 0, 1) := by decide +kernel
theorem dX12_image_61 : decode cX12_image 61 = .ok (.ireturn, 1) := by decide +kernel
theorem dX12_restore_0 : decode cX12_restore 0 = .ok (.aload_n 0, 1) := by decide +kernel
theorem dX12_restore_1 : decode cX12_restore 1 = .ok (.iconst 0, 1) := by decide +kernel
theorem dX12_restore_2 : decode cX12_restore 2 = .ok (.putfield 1, 3) := by decide +kernel
theorem dX12_restore_5 : decode cX12_restore 5 = .ok (.iload_n 1, 1) := by decide +kernel
theorem dX12_restore_6 : decode cX12_restore 6 = .ok (.i2l, 1) := by decide +kernel
theorem dX12_restore_7 : decode cX12_restore 7 = .ok (.lconst 0, 1) := by decide +kernel
theorem dX12_restore_8 : decode cX12_restore 8 = .ok (.lconst 1, 1) := by decide +kernel
theorem dX12_restore_9 : decode cX12_restore 9 = .ok (.invokestatic 145, 3) := by decide +kernel
theorem dX12_restore_12 : decode cX12_restore 12 = .ok (.ifCond .ne 6, 3) := by decide +kernel
theorem dX12_restore_15 : decode cX12_restore 15 = .ok (.bipush (-2), 2) := by decide +kernel
theorem dX12_restore_17 : decode cX12_restore 17 = .ok (.ireturn, 1) := by decide +kernel
theorem dX12_restore_18 : decode cX12_restore 18 = .ok (.aload_n 0, 1) := by decide +kernel
theorem dX12_restore_19 : decode cX12_restore 19 = .ok (.getfield 17, 3) := by decide +kernel
theorem dX12_restore_22 : decode cX12_restore 22 = .ok (.iload_n 1, 1) := by decide +kernel
theorem dX12_restore_23 : decode cX12_restore 23 = .ok (.baload, 1) := by decide +kernel
theorem dX12_restore_24 : decode cX12_restore 24 = .ok (.ifCond .ne 6, 3) := by decide +kernel
theorem dX12_restore_27 : decode cX12_restore 27 = .ok (.bipush (-5), 2) := by decide +kernel
theorem dX12_restore_29 : decode cX12_restore 29 = .ok (.ireturn, 1) := by decide +kernel
theorem dX12_restore_30 : decode cX12_restore 30 = .ok (.iconst 0, 1) := by decide +kernel
theorem dX12_restore_31 : decode cX12_restore 31 = .ok (.istore_n 2, 1) := by decide +kernel
theorem dX12_restore_32 : decode cX12_restore 32 = .ok (.iload_n 2, 1) := by decide +kernel
theorem dX12_restore_33 : decode cX12_restore 33 = .ok (.sipush 198, 3) := by decide +kernel
theorem dX12_restore_36 : decode cX12_restore 36 = .ok (.if_icmp .ge 29, 3) := by decide +kernel
theorem dX12_restore_39 : decode cX12_restore 39 = .ok (.aload_n 0, 1) := by decide +kernel
theorem dX12_restore_40 : decode cX12_restore 40 = .ok (.getfield 13, 3) := by decide +kernel
theorem dX12_restore_43 : decode cX12_restore 43 = .ok (.iload_n 2, 1) := by decide +kernel
theorem dX12_restore_44 : decode cX12_restore 44 = .ok (.aload_n 0, 1) := by decide +kernel
theorem dX12_restore_45 : decode cX12_restore 45 = .ok (.getfield 13, 3) := by decide +kernel
theorem dX12_restore_48 : decode cX12_restore 48 = .ok (.sipush 198, 3) := by decide +kernel
theorem dX12_restore_51 : decode cX12_restore 51 = .ok (.iload_n 1, 1) := by decide +kernel
theorem dX12_restore_52 : decode cX12_restore 52 = .ok (.iconst 1, 1) := by decide +kernel
theorem dX12_restore_53 : decode cX12_restore 53 = .ok (.iadd, 1) := by decide +kernel
theorem dX12_restore_54 : decode cX12_restore 54 = .ok (.imul, 1) := by decide +kernel
theorem dX12_restore_55 : decode cX12_restore 55 = .ok (.iload_n 2, 1) := by decide +kernel
theorem dX12_restore_56 : decode cX12_restore 56 = .ok (.iadd, 1) := by decide +kernel
theorem dX12_restore_57 : decode cX12_restore 57 = .ok (.iaload, 1) := by decide +kernel
theorem dX12_restore_58 : decode cX12_restore 58 = .ok (.iastore, 1) := by decide +kernel
theorem dX12_restore_59 : decode cX12_restore 59 = .ok (.iinc 2 1, 3) := by decide +kernel
theorem dX12_restore_62 : decode cX12_restore 62 = .ok (.goto (-30), 3) := by decide +kernel
theorem dX12_restore_65 : decode cX12_restore 65 = .ok (.aload_n 0, 1) := by decide +kernel
theorem dX12_restore_66 : decode cX12_restore 66 = .ok (.getfield 13, 3) := by decide +kernel
theorem dX12_restore_69 : decode cX12_restore 69 = .ok (.bipush 113, 2) := by decide +kernel
theorem dX12_restore_71 : decode cX12_restore 71 = .ok (.iconst 0, 1) := by decide +kernel
theorem dX12_restore_72 : decode cX12_restore 72 = .ok (.iastore, 1) := by decide +kernel
theorem dX12_restore_73 : decode cX12_restore 73 = .ok (.iconst 0, 1) := by decide +kernel
theorem dX12_restore_74 : decode cX12_restore 74 = .ok (.ireturn, 1) := by decide +kernel
theorem dX12_roadMany_0 : decode cX12_roadMany 0 = .ok (.iconst 0, 1) := by decide +kernel
theorem dX12_roadMany_1 : decode cX12_roadMany 1 = .ok (.istore_n 1, 1) := by decide +kernel
theorem dX12_roadMany_2 : decode cX12_roadMany 2 = .ok (.iconst 0, 1) := by decide +kernel
theorem dX12_roadMany_3 : decode cX12_roadMany 3 = .ok (.istore_n 2, 1) := by decide +kernel
theorem dX12_roadMany_4 : decode cX12_roadMany 4 = .ok (.iload_n 2, 1) := by decide +kernel
theorem dX12_roadMany_5 : decode cX12_roadMany 5 = .ok (.aload_n 0, 1) := by decide +kernel
theorem dX12_roadMany_6 : decode cX12_roadMany 6 = .ok (.getfield 13, 3) := by decide +kernel
theorem dX12_roadMany_9 : decode cX12_roadMany 9 = .ok (.iconst 3, 1) := by decide +kernel
theorem dX12_roadMany_10 : decode cX12_roadMany 10 = .ok (.iaload, 1) := by decide +kernel
theorem dX12_roadMany_11 : decode cX12_roadMany 11 = .ok (.if_icmp .ge 24, 3) := by decide +kernel
theorem dX12_roadMany_14 : decode cX12_roadMany 14 = .ok (.iload_n 1, 1) := by decide +kernel
theorem dX12_roadMany_15 : decode cX12_roadMany 15 = .ok (.aload_n 0, 1) := by decide +kernel
theorem dX12_roadMany_16 : decode cX12_roadMany 16 = .ok (.getfield 13, 3) := by decide +kernel
theorem dX12_roadMany_19 : decode cX12_roadMany 19 = .ok (.bipush 91, 2) := by decide +kernel
theorem dX12_roadMany_21 : decode cX12_roadMany 21 = .ok (.iload_n 2, 1) := by decide +kernel
theorem dX12_roadMany_22 : decode cX12_roadMany 22 = .ok (.iadd, 1) := by decide +kernel
theorem dX12_roadMany_23 : decode cX12_roadMany 23 = .ok (.iaload, 1) := by decide +kernel
theorem dX12_roadMany_24 : decode cX12_roadMany 24 = .ok (.invokestatic 266, 3) := by decide +kernel
theorem dX12_roadMany_27 : decode cX12_roadMany 27 = .ok (.iadd, 1) := by decide +kernel
theorem dX12_roadMany_28 : decode cX12_roadMany 28 = .ok (.istore_n 1, 1) := by decide +kernel
theorem dX12_roadMany_29 : decode cX12_roadMany 29 = .ok (.iinc 2 1, 3) := by decide +kernel
theorem dX12_roadMany_32 : decode cX12_roadMany 32 = .ok (.goto (-28), 3) := by decide +kernel
theorem dX12_roadMany_35 : decode cX12_roadMany 35 = .ok (.iload_n 1, 1) := by decide +kernel
theorem dX12_roadMany_36 : decode cX12_roadMany 36 = .ok (.iconst 2, 1) := by decide +kernel
theorem dX12_roadMany_37 : decode cX12_roadMany 37 = .ok (.idiv, 1) := by decide +kernel
theorem dX12_roadMany_38 : decode cX12_roadMany 38 = .ok (.ireturn, 1) := by decide +kernel
theorem dX12_count_0 : decode cX12_count 0 = .ok (.aload_n 0, 1) := by decide +kernel
theorem dX12_count_1 : decode cX12_count 1 = .ok (.iconst 0, 1) := by decide +kernel
theorem dX12_count_2 : decode cX12_count 2 = .ok (.putfield 1, 3) := by decide +kernel
theorem dX12_count_5 : decode cX12_count 5 = .ok (.iload_n 1, 1) := by decide +kernel
theorem dX12_count_6 : decode cX12_count 6 = .ok (.tableswitch 137 0 9 #[54, 61, 68, 75, 95, 103, 108, 116, 125, 130], 54) := by decide +kernel
theorem dX12_count_60 : decode cX12_count 60 = .ok (.aload_n 0, 1) := by decide +kernel
theorem dX12_count_61 : decode cX12_count 61 = .ok (.getfield 13, 3) := by decide +kernel
theorem dX12_count_64 : decode cX12_count 64 = .ok (.iconst 1, 1) := by decide +kernel
theorem dX12_count_65 : decode cX12_count 65 = .ok (.iaload, 1) := by decide +kernel
theorem dX12_count_66 : decode cX12_count 66 = .ok (.ireturn, 1) := by decide +kernel
theorem dX12_count_67 : decode cX12_count 67 = .ok (.aload_n 0, 1) := by decide +kernel
theorem dX12_count_68 : decode cX12_count 68 = .ok (.getfield 13, 3) := by decide +kernel
theorem dX12_count_71 : decode cX12_count 71 = .ok (.iconst 2, 1) := by decide +kernel
theorem dX12_count_72 : decode cX12_count 72 = .ok (.iaload, 1) := by decide +kernel
theorem dX12_count_73 : decode cX12_count 73 = .ok (.ireturn, 1) := by decide +kernel
theorem dX12_count_74 : decode cX12_count 74 = .ok (.aload_n 0, 1) := by decide +kernel
theorem dX12_count_75 : decode cX12_count 75 = .ok (.getfield 13, 3) := by decide +kernel
theorem dX12_count_78 : decode cX12_count 78 = .ok (.iconst 3, 1) := by decide +kernel
theorem dX12_count_79 : decode cX12_count 79 = .ok (.iaload, 1) := by decide +kernel
theorem dX12_count_80 : decode cX12_count 80 = .ok (.ireturn, 1) := by decide +kernel
theorem dX12_count_81 : decode cX12_count 81 = .ok (.aload_n 0, 1) := by decide +kernel
theorem dX12_count_82 : decode cX12_count 82 = .ok (.getfield 13, 3) := by decide +kernel
theorem dX12_count_85 : decode cX12_count 85 = .ok (.iconst 1, 1) := by decide +kernel
theorem dX12_count_86 : decode cX12_count 86 = .ok (.iaload, 1) := by decide +kernel
theorem dX12_count_87 : decode cX12_count 87 = .ok (.ifCond .ne 7, 3) := by decide +kernel
theorem dX12_count_90 : decode cX12_count 90 = .ok (.iconst (-1), 1) := by decide +kernel
theorem dX12_count_91 : decode cX12_count 91 = .ok (.goto 9, 3) := by decide +kernel
theorem dX12_count_94 : decode cX12_count 94 = .ok (.aload_n 0, 1) := by decide +kernel
theorem dX12_count_95 : decode cX12_count 95 = .ok (.getfield 13, 3) := by decide +kernel
theorem dX12_count_98 : decode cX12_count 98 = .ok (.iconst 4, 1) := by decide +kernel
theorem dX12_count_99 : decode cX12_count 99 = .ok (.iaload, 1) := by decide +kernel
theorem dX12_count_100 : decode cX12_count 100 = .ok (.ireturn, 1) := by decide +kernel
theorem dX12_count_101 : decode cX12_count 101 = .ok (.aload_n 0, 1) := by decide +kernel
theorem dX12_count_102 : decode cX12_count 102 = .ok (.getfield 13, 3) := by decide +kernel
theorem dX12_count_105 : decode cX12_count 105 = .ok (.bipush 113, 2) := by decide +kernel
theorem dX12_count_107 : decode cX12_count 107 = .ok (.iaload, 1) := by decide +kernel
theorem dX12_count_108 : decode cX12_count 108 = .ok (.ireturn, 1) := by decide +kernel
theorem dX12_count_109 : decode cX12_count 109 = .ok (.aload_n 0, 1) := by decide +kernel
theorem dX12_count_110 : decode cX12_count 110 = .ok (.invokevirtual 403, 3) := by decide +kernel
theorem dX12_count_113 : decode cX12_count 113 = .ok (.ireturn, 1) := by decide +kernel
theorem dX12_count_114 : decode cX12_count 114 = .ok (.aload_n 0, 1) := by decide +kernel
theorem dX12_count_115 : decode cX12_count 115 = .ok (.invokevirtual 254, 3) := by decide +kernel
theorem dX12_count_118 : decode cX12_count 118 = .ok (.invokestatic 266, 3) := by decide +kernel
theorem dX12_count_121 : decode cX12_count 121 = .ok (.ireturn, 1) := by decide +kernel
theorem dX12_count_122 : decode cX12_count 122 = .ok (.aload_n 0, 1) := by decide +kernel
theorem dX12_count_123 : decode cX12_count 123 = .ok (.aload_n 0, 1) := by decide +kernel
theorem dX12_count_124 : decode cX12_count 124 = .ok (.invokevirtual 226, 3) := by decide +kernel
theorem dX12_count_127 : decode cX12_count 127 = .ok (.invokevirtual 321, 3) := by decide +kernel
theorem dX12_count_130 : decode cX12_count 130 = .ok (.ireturn, 1) := by decide +kernel
theorem dX12_count_131 : decode cX12_count 131 = .ok (.aload_n 0, 1) := by decide +kernel
theorem dX12_count_132 : decode cX12_count 132 = .ok (.getfield 83, 3) := by decide +kernel
theorem dX12_count_135 : decode cX12_count 135 = .ok (.ireturn, 1) := by decide +kernel
theorem dX12_count_136 : decode cX12_count 136 = .ok (.aload_n 0, 1) := by decide +kernel
theorem dX12_count_137 : decode cX12_count 137 = .ok (.getfield 13, 3) := by decide +kernel
theorem dX12_count_140 : decode cX12_count 140 = .ok (.iconst 0, 1) := by decide +kernel
theorem dX12_count_141 : decode cX12_count 141 = .ok (.iaload, 1) := by decide +kernel
theorem dX12_count_142 : decode cX12_count 142 = .ok (.ireturn, 1) := by decide +kernel
theorem dX12_count_143 : decode cX12_count 143 = .ok (.iconst (-1), 1) := by decide +kernel
theorem dX12_count_144 : decode cX12_count 144 = .ok (.ireturn, 1) := by decide +kernel
