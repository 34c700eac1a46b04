theorem dX11_init_0 : decode cX11_init 0 = .ok (.aload_n 0, 1) := by decide +kernel
theorem dX11_init_1 : decode cX11_init 1 = .ok (.invokespecial 3, 3) := by decide +kernel
theorem dX11_init_4 : decode cX11_init 4 = .ok (.aload_n 0, 1) := by decide +kernel
theorem dX11_init_5 : decode cX11_init 5 = .ok (.sipush 900, 3) := by decide +kernel
theorem dX11_init_8 : decode cX11_init 8 = .ok (.newarray .byte, 2) := by decide +kernel
theorem dX11_init_10 : decode cX11_init 10 = .ok (.putfield 9, 3) := by decide +kernel
theorem dX11_init_13 : decode cX11_init 13 = .ok (.aload_n 0, 1) := by decide +kernel
theorem dX11_init_14 : decode cX11_init 14 = .ok (.new 13, 3) := by decide +kernel
theorem dX11_init_17 : decode cX11_init 17 = .ok (.dup, 1) := by decide +kernel
theorem dX11_init_18 : decode cX11_init 18 = .ok (.invokespecial 15, 3) := by decide +kernel
theorem dX11_init_21 : decode cX11_init 21 = .ok (.putfield 16, 3) := by decide +kernel
theorem dX11_init_24 : decode cX11_init 24 = .ok (.aload_n 0, 1) := by decide +kernel
theorem dX11_init_25 : decode cX11_init 25 = .ok (.new 20, 3) := by decide +kernel
theorem dX11_init_28 : decode cX11_init 28 = .ok (.dup, 1) := by decide +kernel
theorem dX11_init_29 : decode cX11_init 29 = .ok (.invokespecial 22, 3) := by decide +kernel
theorem dX11_init_32 : decode cX11_init 32 = .ok (.putfield 23, 3) := by decide +kernel
theorem dX11_init_35 : decode cX11_init 35 = .ok (.aload_n 0, 1) := by decide +kernel
theorem dX11_init_36 : decode cX11_init 36 = .ok (.new 27, 3) := by decide +kernel
theorem dX11_init_39 : decode cX11_init 39 = .ok (.dup, 1) := by decide +kernel
theorem dX11_init_40 : decode cX11_init 40 = .ok (.invokespecial 29, 3) := by decide +kernel
theorem dX11_init_43 : decode cX11_init 43 = .ok (.putfield 30, 3) := by decide +kernel
theorem dX11_init_46 : decode cX11_init 46 = .ok (.aload_n 0, 1) := by decide +kernel
theorem dX11_init_47 : decode cX11_init 47 = .ok (.new 27, 3) := by decide +kernel
theorem dX11_init_50 : decode cX11_init 50 = .ok (.dup, 1) := by decide +kernel
theorem dX11_init_51 : decode cX11_init 51 = .ok (.invokespecial 29, 3) := by decide +kernel
theorem dX11_init_54 : decode cX11_init 54 = .ok (.putfield 34, 3) := by decide +kernel
theorem dX11_init_57 : decode cX11_init 57 = .ok (.aload_n 0, 1) := by decide +kernel
theorem dX11_init_58 : decode cX11_init 58 = .ok (.new 37, 3) := by decide +kernel
theorem dX11_init_61 : decode cX11_init 61 = .ok (.dup, 1) := by decide +kernel
theorem dX11_init_62 : decode cX11_init 62 = .ok (.invokespecial 39, 3) := by decide +kernel
theorem dX11_init_65 : decode cX11_init 65 = .ok (.putfield 40, 3) := by decide +kernel
theorem dX11_init_68 : decode cX11_init 68 = .ok (.aload_n 0, 1) := by decide +kernel
theorem dX11_init_69 : decode cX11_init 69 = .ok (.new 44, 3) := by decide +kernel
theorem dX11_init_72 : decode cX11_init 72 = .ok (.dup, 1) := by decide +kernel
theorem dX11_init_73 : decode cX11_init 73 = .ok (.invokespecial 46, 3) := by decide +kernel
theorem dX11_init_76 : decode cX11_init 76 = .ok (.putfield 47, 3) := by decide +kernel
theorem dX11_init_79 : decode cX11_init 79 = .ok (.aload_n 0, 1) := by decide +kernel
theorem dX11_init_80 : decode cX11_init 80 = .ok (.new 51, 3) := by decide +kernel
theorem dX11_init_83 : decode cX11_init 83 = .ok (.dup, 1) := by decide +kernel
theorem dX11_init_84 : decode cX11_init 84 = .ok (.invokespecial 53, 3) := by decide +kernel
theorem dX11_init_87 : decode cX11_init 87 = .ok (.putfield 54, 3) := by decide +kernel
theorem dX11_init_90 : decode cX11_init 90 = .ok (.aload_n 0, 1) := by decide +kernel
theorem dX11_init_91 : decode cX11_init 91 = .ok (.new 58, 3) := by decide +kernel
theorem dX11_init_94 : decode cX11_init 94 = .ok (.dup, 1) := by decide +kernel
theorem dX11_init_95 : decode cX11_init 95 = .ok (.invokespecial 60, 3) := by decide +kernel
theorem dX11_init_98 : decode cX11_init 98 = .ok (.putfield 61, 3) := by decide +kernel
theorem dX11_init_101 : decode cX11_init 101 = .ok (.aload_n 0, 1) := by decide +kernel
theorem dX11_init_102 : decode cX11_init 102 = .ok (.iconst 4, 1) := by decide +kernel
theorem dX11_init_103 : decode cX11_init 103 = .ok (.anewarray 65, 3) := by decide +kernel
theorem dX11_init_106 : decode cX11_init 106 = .ok (.putfield 67, 3) := by decide +kernel
theorem dX11_init_109 : decode cX11_init 109 = .ok (.aload_n 0, 1) := by decide +kernel
theorem dX11_init_110 : decode cX11_init 110 = .ok (.iconst 2, 1) := by decide +kernel
theorem dX11_init_111 : decode cX11_init 111 = .ok (.anewarray 71, 3) := by decide +kernel
theorem dX11_init_114 : decode cX11_init 114 = .ok (.putfield 73, 3) := by decide +kernel
theorem dX11_init_117 : decode cX11_init 117 = .ok (.iconst 0, 1) := by decide +kernel
theorem dX11_init_118 : decode cX11_init 118 = .ok (.istore_n 1, 1) := by decide +kernel
theorem dX11_init_119 : decode cX11_init 119 = .ok (.iload_n 1, 1) := by decide +kernel
theorem dX11_init_120 : decode cX11_init 120 = .ok (.iconst 4, 1) := by decide +kernel
theorem dX11_init_121 : decode cX11_init 121 = .ok (.if_icmp .ge 22, 3) := by decide +kernel
theorem dX11_init_124 : decode cX11_init 124 = .ok (.aload_n 0, 1) := by decide +kernel
theorem dX11_init_125 : decode cX11_init 125 = .ok (.getfield 67, 3) := by decide +kernel
theorem dX11_init_128 : decode cX11_init 128 = .ok (.iload_n 1, 1) := by decide +kernel
theorem dX11_init_129 : decode cX11_init 129 = .ok (.new 65, 3) := by decide +kernel
theorem dX11_init_132 : decode cX11_init 132 = .ok (.dup, 1) := by decide +kernel
theorem dX11_init_133 : decode cX11_init 133 = .ok (.invokespecial 77, 3) := by decide +kernel
theorem dX11_init_136 : decode cX11_init 136 = .ok (.aastore, 1) := by decide +kernel
theorem dX11_init_137 : decode cX11_init 137 = .ok (.iinc 1 1, 3) := by decide +kernel
theorem dX11_init_140 : decode cX11_init 140 = .ok (.goto (-21), 3) := by decide +kernel
theorem dX11_init_143 : decode cX11_init 143 = .ok (.iconst 0, 1) := by decide +kernel
theorem dX11_init_144 : decode cX11_init 144 = .ok (.istore_n 1, 1) := by decide +kernel
theorem dX11_init_145 : decode cX11_init 145 = .ok (.iload_n 1, 1) := by decide +kernel
theorem dX11_init_146 : decode cX11_init 146 = .ok (.iconst 2, 1) := by decide +kernel
theorem dX11_init_147 : decode cX11_init 147 = .ok (.if_icmp .ge 22, 3) := by decide +kernel
theorem dX11_init_150 : decode cX11_init 150 = .ok (.aload_n 0, 1) := by decide +kernel
theorem dX11_init_151 : decode cX11_init 151 = .ok (.getfield 73, 3) := by decide +kernel
theorem dX11_init_154 : decode cX11_init 154 = .ok (.iload_n 1, 1) := by decide +kernel
theorem dX11_init_155 : decode cX11_init 155 = .ok (.new 71, 3) := by decide +kernel
theorem dX11_init_158 : decode cX11_init 158 = .ok (.dup, 1) := by decide +kernel
theorem dX11_init_159 : decode cX11_init 159 = .ok (.invokespecial 78, 3) := by decide +kernel
theorem dX11_init_162 : decode cX11_init 162 = .ok (.aastore, 1) := by decide +kernel
theorem dX11_init_163 : decode cX11_init 163 = .ok (.iinc 1 1, 3) := by decide +kernel
theorem dX11_init_166 : decode cX11_init 166 = .ok (.goto (-21), 3) := by decide +kernel
theorem dX11_init_169 : decode cX11_init 169 = .ok (.return_, 1) := by decide +kernel
theorem dX11_feed_0 : decode cX11_feed 0 = .ok (.aload_n 0, 1) := by decide +kernel
theorem dX11_feed_1 : decode cX11_feed 1 = .ok (.getfield 79, 3) := by decide +kernel
theorem dX11_feed_4 : decode cX11_feed 4 = .ok (.bipush 20, 2) := by decide +kernel
theorem dX11_feed_6 : decode cX11_feed 6 = .ok (.iadd, 1) := by decide +kernel
theorem dX11_feed_7 : decode cX11_feed 7 = .ok (.sipush 900, 3) := by decide +kernel
theorem dX11_feed_10 : decode cX11_feed 10 = .ok (.if_icmp .le 6, 3) := by decide +kernel
theorem dX11_feed_13 : decode cX11_feed 13 = .ok (.bipush (-5), 2) := by decide +kernel
theorem dX11_feed_15 : decode cX11_feed 15 = .ok (.ireturn, 1) := by decide +kernel
theorem dX11_feed_16 : decode cX11_feed 16 = .ok (.aload_n 0, 1) := by decide +kernel
theorem dX11_feed_17 : decode cX11_feed 17 = .ok (.iload_n 1, 1) := by decide +kernel
theorem dX11_feed_18 : decode cX11_feed 18 = .ok (.invokevirtual 83, 3) := by decide +kernel
theorem dX11_feed_21 : decode cX11_feed 21 = .ok (.aload_n 0, 1) := by decide +kernel
theorem dX11_feed_22 : decode cX11_feed 22 = .ok (.iload_n 2, 1) := by decide +kernel
theorem dX11_feed_23 : decode cX11_feed 23 = .ok (.invokevirtual 83, 3) := by decide +kernel
theorem dX11_feed_26 : decode cX11_feed 26 = .ok (.aload_n 0, 1) := by decide +kernel
theorem dX11_feed_27 : decode cX11_feed 27 = .ok (.iload_n 3, 1) := by decide +kernel
theorem dX11_feed_28 : decode cX11_feed 28 = .ok (.invokevirtual 83, 3) := by decide +kernel
theorem dX11_feed_31 : decode cX11_feed 31 = .ok (.aload_n 0, 1) := by decide +kernel
theorem dX11_feed_32 : decode cX11_feed 32 = .ok (.iload 4, 2) := by decide +kernel
theorem dX11_feed_34 : decode cX11_feed 34 = .ok (.invokevirtual 83, 3) := by decide +kernel
theorem dX11_feed_37 : decode cX11_feed 37 = .ok (.aload_n 0, 1) := by decide +kernel
theorem dX11_feed_38 : decode cX11_feed 38 = .ok (.iload 5, 2) := by decide +kernel
theorem dX11_feed_40 : decode cX11_feed 40 = .ok (.invokevirtual 83, 3) := by decide +kernel
theorem dX11_feed_43 : decode cX11_feed 43 = .ok (.aload_n 0, 1) := by decide +kernel
theorem dX11_feed_44 : decode cX11_feed 44 = .ok (.getfield 79, 3) := by decide +kernel
theorem dX11_feed_47 : decode cX11_feed 47 = .ok (.ireturn, 1) := by decide +kernel
theorem dX11_putOnTape_0 : decode cX11_putOnTape 0 = .ok (.bipush 24, 2) := by decide +kernel
theorem dX11_putOnTape_2 : decode cX11_putOnTape 2 = .ok (.istore_n 2, 1) := by decide +kernel
theorem dX11_putOnTape_3 : decode cX11_putOnTape 3 = .ok (.iload_n 2, 1) := by decide +kernel
theorem dX11_putOnTape_4 : decode cX11_putOnTape 4 = .ok (.ifCond .lt 42, 3) := by decide +kernel
theorem dX11_putOnTape_7 : decode cX11_putOnTape 7 = .ok (.aload_n 0, 1) := by decide +kernel
theorem dX11_putOnTape_8 : decode cX11_putOnTape 8 = .ok (.getfield 79, 3) := by decide +kernel
theorem dX11_putOnTape_11 : decode cX11_putOnTape 11 = .ok (.sipush 900, 3) := by decide +kernel
theorem dX11_putOnTape_14 : decode cX11_putOnTape 14 = .ok (.if_icmp .ge 32, 3) := by decide +kernel
theorem dX11_putOnTape_17 : decode cX11_putOnTape 17 = .ok (.aload_n 0, 1) := by decide +kernel
theorem dX11_putOnTape_18 : decode cX11_putOnTape 18 = .ok (.getfield 9, 3) := by decide +kernel
theorem dX11_putOnTape_21 : decode cX11_putOnTape 21 = .ok (.aload_n 0, 1) := by decide +kernel
theorem dX11_putOnTape_22 : decode cX11_putOnTape 22 = .ok (.getfield 79, 3) := by decide +kernel
theorem dX11_putOnTape_25 : decode cX11_putOnTape 25 = .ok (.iload_n 1, 1) := by decide +kernel
theorem dX11_putOnTape_26 : decode cX11_putOnTape 26 = .ok (.iload_n 2, 1) := by decide +kernel
theorem dX11_putOnTape_27 : decode cX11_putOnTape 27 = .ok (.ishr, 1) := by decide +kernel
theorem dX11_putOnTape_28 : decode cX11_putOnTape 28 = .ok (.i2b, 1) := by decide +kernel
theorem dX11_putOnTape_29 : decode cX11_putOnTape 29 = .ok (.bastore, 1) := by decide +kernel
theorem dX11_putOnTape_30 : decode cX11_putOnTape 30 = .ok (.aload_n 0, 1) := by decide +kernel
theorem dX11_putOnTape_31 : decode cX11_putOnTape 31 = .ok (.dup, 1) := by decide +kernel
theorem dX11_putOnTape_32 : decode cX11_putOnTape 32 = .ok (.getfield 79, 3) := by decide +kernel
theorem dX11_putOnTape_35 : decode cX11_putOnTape 35 = .ok (.iconst 1, 1) := by decide +kernel
theorem dX11_putOnTape_36 : decode cX11_putOnTape 36 = .ok (.iadd, 1) := by decide +kernel
theorem dX11_putOnTape_37 : decode cX11_putOnTape 37 = .ok (.putfield 79, 3) := by decide +kernel
theorem dX11_putOnTape_40 : decode cX11_putOnTape 40 = .ok (.iinc 2 (-8), 3) := by decide +kernel
theorem dX11_putOnTape_43 : decode cX11_putOnTape 43 = .ok (.goto (-40), 3) := by decide +kernel
theorem dX11_putOnTape_46 : decode cX11_putOnTape 46 = .ok (.return_, 1) := by decide +kernel
theorem dX11_land_0 : decode cX11_land 0 = .ok (.iload_n 1, 1) := by decide +kernel
theorem dX11_land_1 : decode cX11_land 1 = .ok (.ifCond .lt 11, 3) := by decide +kernel
theorem dX11_land_4 : decode cX11_land 4 = .ok (.iload_n 1, 1) := by decide +kernel
theorem dX11_land_5 : decode cX11_land 5 = .ok (.aload_n 0, 1) := by decide +kernel
theorem dX11_land_6 : decode cX11_land 6 = .ok (.getfield 79, 3) := by decide +kernel
theorem dX11_land_9 : decode cX11_land 9 = .ok (.if_icmp .le 6, 3) := by decide +kernel
theorem dX11_land_12 : decode cX11_land 12 = .ok (.bipush (-3), 2) := by decide +kernel
theorem dX11_land_14 : decode cX11_land 14 = .ok (.ireturn, 1) := by decide +kernel
theorem dX11_land_15 : decode cX11_land 15 = .ok (.aload_n 0, 1) := by decide +kernel
theorem dX11_land_16 : decode cX11_land 16 = .ok (.iconst 0, 1) := by decide +kernel
theorem dX11_land_17 : decode cX11_land 17 = .ok (.putfield 79, 3) := by decide +kernel
theorem dX11_land_20 : decode cX11_land 20 = .ok (.aload_n 0, 1) := by decide +kernel
theorem dX11_land_21 : decode cX11_land 21 = .ok (.getfield 16, 3) := by decide +kernel
theorem dX11_land_24 : decode cX11_land 24 = .ok (.aload_n 0, 1) := by decide +kernel
theorem dX11_land_25 : decode cX11_land 25 = .ok (.getfield 9, 3) := by decide +kernel
theorem dX11_land_28 : decode cX11_land 28 = .ok (.iload_n 1, 1) := by decide +kernel
theorem dX11_land_29 : decode cX11_land 29 = .ok (.invokevirtual 87, 3) := by decide +kernel
theorem dX11_land_32 : decode cX11_land 32 = .ok (.ifCond .eq 14, 3) := by decide +kernel
theorem dX11_land_35 : decode cX11_land 35 = .ok (.bipush (-30), 2) := by decide +kernel
theorem dX11_land_37 : decode cX11_land 37 = .ok (.aload_n 0, 1) := by decide +kernel
theorem dX11_land_38 : decode cX11_land 38 = .ok (.getfield 16, 3) := by decide +kernel
theorem dX11_land_41 : decode cX11_land 41 = .ok (.getfield 91, 3) := by decide +kernel
theorem dX11_land_44 : decode cX11_land 44 = .ok (.isub, 1) := by decide +kernel
theorem dX11_land_45 : decode cX11_land 45 = .ok (.ireturn, 1) := by decide +kernel
theorem dX11_land_46 : decode cX11_land 46 = .ok (.aload_n 0, 1) := by decide +kernel
theorem dX11_land_47 : decode cX11_land 47 = .ok (.getfield 23, 3) := by decide +kernel
theorem dX11_land_50 : decode cX11_land 50 = .ok (.aload_n 0, 1) := by decide +kernel
theorem dX11_land_51 : decode cX11_land 51 = .ok (.getfield 16, 3) := by decide +kernel
theorem dX11_land_54 : decode cX11_land 54 = .ok (.getfield 94, 3) := by decide +kernel
theorem dX11_land_57 : decode cX11_land 57 = .ok (.invokevirtual 95, 3) := by decide +kernel
theorem dX11_land_60 : decode cX11_land 60 = .ok (.aload_n 0, 1) := by decide +kernel
theorem dX11_land_61 : decode cX11_land 61 = .ok (.getfield 30, 3) := by decide +kernel
theorem dX11_land_64 : decode cX11_land 64 = .ok (.aload_n 0, 1) := by decide +kernel
theorem dX11_land_65 : decode cX11_land 65 = .ok (.getfield 16, 3) := by decide +kernel
theorem dX11_land_68 : decode cX11_land 68 = .ok (.getfield 99, 3) := by decide +kernel
theorem dX11_land_71 : decode cX11_land 71 = .ok (.invokevirtual 100, 3) := by decide +kernel
theorem dX11_land_74 : decode cX11_land 74 = .ok (.aload_n 0, 1) := by decide +kernel
theorem dX11_land_75 : decode cX11_land 75 = .ok (.getfield 40, 3) := by decide +kernel
theorem dX11_land_78 : decode cX11_land 78 = .ok (.invokevirtual 103, 3) := by decide +kernel
theorem dX11_land_81 : decode cX11_land 81 = .ok (.aload_n 0, 1) := by decide +kernel
theorem dX11_land_82 : decode cX11_land 82 = .ok (.getfield 23, 3) := by decide +kernel
theorem dX11_land_85 : decode cX11_land 85 = .ok (.getfield 106, 3) := by decide +kernel
theorem dX11_land_88 : decode cX11_land 88 = .ok (.ireturn, 1) := by decide +kernel
theorem dX11_fault_0 : decode cX11_fault 0 = .ok (.iload_n 1, 1) := by decide +kernel
theorem dX11_fault_1 : decode cX11_fault 1 = .ok (.ifCond .ne 11, 3) := by decide +kernel
theorem dX11_fault_4 : decode cX11_fault 4 = .ok (.aload_n 0, 1) := by decide +kernel
theorem dX11_fault_5 : decode cX11_fault 5 = .ok (.getfield 16, 3) := by decide +kernel
theorem dX11_fault_8 : decode cX11_fault 8 = .ok (.getfield 91, 3) := by decide +kernel
theorem dX11_fault_11 : decode cX11_fault 11 = .ok (.ireturn, 1) := by decide +kernel
theorem dX11_fault_12 : decode cX11_fault 12 = .ok (.iload_n 1, 1) := by decide +kernel
theorem dX11_fault_13 : decode cX11_fault 13 = .ok (.iconst 1, 1) := by decide +kernel
theorem dX11_fault_14 : decode cX11_fault 14 = .ok (.if_icmp .ne 13, 3) := by decide +kernel
theorem dX11_fault_17 : decode cX11_fault 17 = .ok (.aload_n 0, 1) := by decide +kernel
theorem dX11_fault_18 : decode cX11_fault 18 = .ok (.getfield 16, 3) := by decide +kernel
theorem dX11_fault_21 : decode cX11_fault 21 = .ok (.getfield 109, 3) := by decide +kernel
theorem dX11_fault_24 : decode cX11_fault 24 = .ok (.goto 4, 3) := by decide +kernel
theorem dX11_fault_27 : decode cX11_fault 27 = .ok (.iconst (-1), 1) := by decide +kernel
theorem dX11_fault_28 : decode cX11_fault 28 = .ok (.ireturn, 1) := by decide +kernel
theorem dX11_world_0 : decode cX11_world 0 = .ok (.aload_n 0, 1) := by decide +kernel
theorem dX11_world_1 : decode cX11_world 1 = .ok (.iload_n 1, 1) := by decide +kernel
theorem dX11_world_2 : decode cX11_world 2 = .ok (.invokevirtual 112, 3) := by decide +kernel
theorem dX11_world_5 : decode cX11_world 5 = .ok (.ifCond .eq 12, 3) := by decide +kernel
theorem dX11_world_8 : decode cX11_world 8 = .ok (.iload_n 2, 1) := by decide +kernel
theorem dX11_world_9 : decode cX11_world 9 = .ok (.ifCond .lt 8, 3) := by decide +kernel
theorem dX11_world_12 : decode cX11_world 12 = .ok (.iload_n 2, 1) := by decide +kernel
theorem dX11_world_13 : decode cX11_world 13 = .ok (.iconst 5, 1) := by decide +kernel
theorem dX11_world_14 : decode cX11_world 14 = .ok (.if_icmp .le 6, 3) := by decide +kernel
theorem dX11_world_17 : decode cX11_world 17 = .ok (.bipush (-2), 2) := by decide +kernel
theorem dX11_world_19 : decode cX11_world 19 = .ok (.ireturn, 1) := by decide +kernel
theorem dX11_world_20 : decode cX11_world 20 = .ok (.iload_n 2, 1) := by decide +kernel
theorem dX11_world_21 : decode cX11_world 21 = .ok (.iconst 3, 1) := by decide +kernel
theorem dX11_world_22 : decode cX11_world 22 = .ok (.if_icmp .ge 17, 3) := by decide +kernel
theorem dX11_world_25 : decode cX11_world 25 = .ok (.aload_n 0, 1) := by decide +kernel
theorem dX11_world_26 : decode cX11_world 26 = .ok (.getfield 23, 3) := by decide +kernel
theorem dX11_world_29 : decode cX11_world 29 = .ok (.getfield 116, 3) := by decide +kernel
theorem dX11_world_32 : decode cX11_world 32 = .ok (.iconst 3, 1) := by decide +kernel
theorem dX11_world_33 : decode cX11_world 33 = .ok (.iload_n 1, 1) := by decide +kernel
theorem dX11_world_34 : decode cX11_world 34 = .ok (.imul, 1) := by decide +kernel
theorem dX11_world_35 : decode cX11_world 35 = .ok (.iload_n 2, 1) := by decide +kernel
theorem dX11_world_36 : decode cX11_world 36 = .ok (.iadd, 1) := by decide +kernel
theorem dX11_world_37 : decode cX11_world 37 = .ok (.iaload, 1) := by decide +kernel
theorem dX11_world_38 : decode cX11_world 38 = .ok (.ireturn, 1) := by decide +kernel
theorem dX11_world_39 : decode cX11_world 39 = .ok (.iload_n 2, 1) := by decide +kernel
theorem dX11_world_40 : decode cX11_world 40 = .ok (.iconst 3, 1) := by decide +kernel
theorem dX11_world_41 : decode cX11_world 41 = .ok (.if_icmp .ne 13, 3) := by decide +kernel
theorem dX11_world_44 : decode cX11_world 44 = .ok (.aload_n 0, 1) := by decide +kernel
theorem dX11_world_45 : decode cX11_world 45 = .ok (.getfield 23, 3) := by decide +kernel
theorem dX11_world_48 : decode cX11_world 48 = .ok (.getfield 120, 3) := by decide +kernel
theorem dX11_world_51 : decode cX11_world 51 = .ok (.iload_n 1, 1) := by decide +kernel
theorem dX11_world_52 : decode cX11_world 52 = .ok (.iaload, 1) := by decide +kernel
theorem dX11_world_53 : decode cX11_world 53 = .ok (.ireturn, 1) := by decide +kernel
theorem dX11_world_54 : decode cX11_world 54 = .ok (.iload_n 2, 1) := by decide +kernel
theorem dX11_world_55 : decode cX11_world 55 = .ok (.iconst 4, 1) := by decide +kernel
theorem dX11_world_56 : decode cX11_world 56 = .ok (.if_icmp .ne 17, 3) := by decide +kernel
theorem dX11_world_59 : decode cX11_world 59 = .ok (.aload_n 0, 1) := by decide +kernel
theorem dX11_world_60 : decode cX11_world 60 = .ok (.getfield 23, 3) := by decide +kernel
theorem dX11_world_63 : decode cX11_world 63 = .ok (.getfield 123, 3) := by decide +kernel
theorem dX11_world_66 : decode cX11_world 66 = .ok (.iload_n 1, 1) := by decide +kernel
theorem dX11_world_67 : decode cX11_world 67 = .ok (.ishr, 1) := by decide +kernel
theorem dX11_world_68 : decode cX11_world 68 = .ok (.iconst 1, 1) := by decide +kernel
theorem dX11_world_69 : decode cX11_world 69 = .ok (.iand, 1) := by decide +kernel
theorem dX11_world_70 : decode cX11_world 70 = .ok (.goto 11, 3) := by decide +kernel
theorem dX11_world_73 : decode cX11_world 73 = .ok (.aload_n 0, 1) := by decide +kernel
theorem dX11_world_74 : decode cX11_world 74 = .ok (.getfield 23, 3) := by decide +kernel
theorem dX11_world_77 : decode cX11_world 77 = .ok (.iload_n 1, 1) := by decide +kernel
theorem dX11_world_78 : decode cX11_world 78 = .ok (.invokevirtual 126, 3) := by decide +kernel
theorem dX11_world_81 : decode cX11_world 81 = .ok (.ireturn, 1) := by decide +kernel
theorem dX11_fact_0 : decode cX11_fact 0 = .ok (.aload_n 0, 1) := by decide +kernel
theorem dX11_fact_1 : decode cX11_fact 1 = .ok (.iload_n 1, 1) := by decide +kernel
theorem dX11_fact_2 : decode cX11_fact 2 = .ok (.invokevirtual 130, 3) := by decide +kernel
theorem dX11_fact_5 : decode cX11_fact 5 = .ok (.ifCond .eq 15, 3) := by decide +kernel
theorem dX11_fact_8 : decode cX11_fact 8 = .ok (.aload_n 0, 1) := by decide +kernel
theorem dX11_fact_9 : decode cX11_fact 9 = .ok (.getfield 23, 3) := by decide +kernel
theorem dX11_fact_12 : decode cX11_fact 12 = .ok (.getfield 133, 3) := by decide +kernel
theorem dX11_fact_15 : decode cX11_fact 15 = .ok (.iload_n 1, 1) := by decide +kernel
theorem dX11_fact_16 : decode cX11_fact 16 = .ok (.iaload, 1) := by decide +kernel
theorem dX11_fact_17 : decode cX11_fact 17 = .ok (.goto 5, 3) := by decide +kernel
theorem dX11_fact_20 : decode cX11_fact 20 = .ok (.bipush (-2), 2) := by decide +kernel
theorem dX11_fact_22 : decode cX11_fact 22 = .ok (.ireturn, 1) := by decide +kernel
theorem dX11_person_0 : decode cX11_person 0 = .ok (.aload_n 0, 1) := by decide +kernel
theorem dX11_person_1 : decode cX11_person 1 = .ok (.iload_n 1, 1) := by decide +kernel
theorem dX11_person_2 : decode cX11_person 2 = .ok (.invokevirtual 136, 3) := by decide +kernel
theorem dX11_person_5 : decode cX11_person 5 = .ok (.ifCond .ne 6, 3) := by decide +kernel
theorem dX11_person_8 : decode cX11_person 8 = .ok (.bipush (-2), 2) := by decide +kernel
theorem dX11_person_10 : decode cX11_person 10 = .ok (.ireturn, 1) := by decide +kernel
theorem dX11_person_11 : decode cX11_person 11 = .ok (.aload_n 0, 1) := by decide +kernel
theorem dX11_person_12 : decode cX11_person 12 = .ok (.iload_n 1, 1) := by decide +kernel
theorem dX11_person_13 : decode cX11_person 13 = .ok (.invokevirtual 139, 3) := by decide +kernel
theorem dX11_person_16 : decode cX11_person 16 = .ok (.istore_n 3, 1) := by decide +kernel
theorem dX11_person_17 : decode cX11_person 17 = .ok (.iload_n 2, 1) := by decide +kernel
theorem dX11_person_18 : decode cX11_person 18 = .ok (.tableswitch 82 0 4 #[34, 44, 46, 55, 72], 34) := by decide +kernel
theorem dX11_person_52 : decode cX11_person 52 = .ok (.aload_n 0, 1) := by decide +kernel
theorem dX11_person_53 : decode cX11_person 53 = .ok (.getfield 30, 3) := by decide +kernel
theorem dX11_person_56 : decode cX11_person 56 = .ok (.getfield 142, 3) := by decide +kernel
theorem dX11_person_59 : decode cX11_person 59 = .ok (.iload_n 1, 1) := by decide +kernel
theorem dX11_person_60 : decode cX11_person 60 = .ok (.iaload, 1) := by decide +kernel
theorem dX11_person_61 : decode cX11_person 61 = .ok (.ireturn, 1) := by decide +kernel
theorem dX11_person_62 : decode cX11_person 62 = .ok (.iload_n 3, 1) := by decide +kernel
theorem dX11_person_63 : decode cX11_person 63 = .ok (.ireturn, 1) := by decide +kernel
theorem dX11_person_64 : decode cX11_person 64 = .ok (.aload_n 0, 1) := by decide +kernel
theorem dX11_person_65 : decode cX11_person 65 = .ok (.getfield 23, 3) := by decide +kernel
theorem dX11_person_68 : decode cX11_person 68 = .ok (.iload_n 3, 1) := by decide +kernel
theorem dX11_person_69 : decode cX11_person 69 = .ok (.invokevirtual 145, 3) := by decide +kernel
theorem dX11_person_72 : decode cX11_person 72 = .ok (.ireturn, 1) := by decide +kernel
theorem dX11_person_73 : decode cX11_person 73 = .ok (.aload_n 0, 1) := by decide +kernel
theorem dX11_person_74 : decode cX11_person 74 = .ok (.getfield 23, 3) := by decide +kernel
theorem dX11_person_77 : decode cX11_person 77 = .ok (.iload_n 3, 1) := by decide +kernel
theorem dX11_person_78 : decode cX11_person 78 = .ok (.invokevirtual 148, 3) := by decide +kernel
theorem dX11_person_81 : decode cX11_person 81 = .ok (.ifCond .eq 7, 3) := by decide +kernel
theorem dX11_person_84 : decode cX11_person 84 = .ok (.iconst 1, 1) := by decide +kernel
theorem dX11_person_85 : decode cX11_person 85 = .ok (.goto 4, 3) := by decide +kernel
theorem dX11_person_88 : decode cX11_person 88 = .ok (.iconst 0, 1) := by decide +kernel
theorem dX11_person_89 : decode cX11_person 89 = .ok (.ireturn, 1) := by decide +kernel
theorem dX11_person_90 : decode cX11_person 90 = .ok (.aload_n 0, 1) := by decide +kernel
theorem dX11_person_91 : decode cX11_person 91 = .ok (.getfield 23, 3) := by decide +kernel
theorem dX11_person_94 : decode cX11_person 94 = .ok (.getfield 151, 3) := by decide +kernel
theorem dX11_person_97 : decode cX11_person 97 = .ok (.iload_n 1, 1) := by decide +kernel
theorem dX11_person_98 : decode cX11_person 98 = .ok (.iaload, 1) := by decide +kernel
theorem dX11_person_99 : decode cX11_person 99 = .ok (.ireturn, 1) := by decide +kernel
theorem dX11_person_100 : decode cX11_person 100 = .ok (.bipush (-2), 2) := by decide +kernel
theorem dX11_person_102 : decode cX11_person 102 = .ok (.ireturn, 1) := by decide +kernel
theorem dX11_hints_0 : decode cX11_hints 0 = .ok (.aload_n 0, 1) := by decide +kernel
theorem dX11_hints_1 : decode cX11_hints 1 = .ok (.iload_n 1, 1) := by decide +kernel
theorem dX11_hints_2 : decode cX11_hints 2 = .ok (.invokevirtual 130, 3) := by decide +kernel
theorem dX11_hints_5 : decode cX11_hints 5 = .ok (.ifCond .eq 15, 3) := by decide +kernel
theorem dX11_hints_8 : decode cX11_hints 8 = .ok (.aload_n 0, 1) := by decide +kernel
theorem dX11_hints_9 : decode cX11_hints 9 = .ok (.getfield 23, 3) := by decide +kernel
theorem dX11_hints_12 : decode cX11_hints 12 = .ok (.getfield 154, 3) := by decide +kernel
theorem dX11_hints_15 : decode cX11_hints 15 = .ok (.iload_n 1, 1) := by decide +kernel
theorem dX11_hints_16 : decode cX11_hints 16 = .ok (.iaload, 1) := by decide +kernel
theorem dX11_hints_17 : decode cX11_hints 17 = .ok (.goto 5, 3) := by decide +kernel
theorem dX11_hints_20 : decode cX11_hints 20 = .ok (.bipush (-2), 2) := by decide +kernel
theorem dX11_hints_22 : decode cX11_hints 22 = .ok (.ireturn, 1) := by decide +kernel
theorem dX11_knows_0 : decode cX11_knows 0 = .ok (.aload_n 0, 1) := by decide +kernel
theorem dX11_knows_1 : decode cX11_knows 1 = .ok (.iload_n 1, 1) := by decide +kernel
theorem dX11_knows_2 : decode cX11_knows 2 = .ok (.invokevirtual 136, 3) := by decide +kernel
theorem dX11_knows_5 : decode cX11_knows 5 = .ok (.ifCond .eq 11, 3) := by decide +kernel
theorem dX11_knows_8 : decode cX11_knows 8 = .ok (.aload_n 0, 1) := by decide +kernel
theorem dX11_knows_9 : decode cX11_knows 9 = .ok (.iload_n 2, 1) := by decide +kernel
theorem dX11_knows_10 : decode cX11_knows 10 = .ok (.invokevirtual 130, 3) := by decide +kernel
theorem dX11_knows_13 : decode cX11_knows 13 = .ok (.ifCond .ne 6, 3) := by decide +kernel
theorem dX11_knows_16 : decode cX11_knows 16 = .ok (.bipush (-2), 2) := by decide +kernel
theorem dX11_knows_18 : decode cX11_knows 18 = .ok (.ireturn, 1) := by decide +kernel
theorem dX11_knows_19 : decode cX11_knows 19 = .ok (.aload_n 0, 1) := by decide +kernel
theorem dX11_knows_20 : decode cX11_knows 20 = .ok (.iload_n 1, 1) := by decide +kernel
theorem dX11_knows_21 : decode cX11_knows 21 = .ok (.invokevirtual 139, 3) := by decide +kernel
theorem dX11_knows_24 : decode cX11_knows 24 = .ok (.istore_n 3, 1) := by decide +kernel
theorem dX11_knows_25 : decode cX11_knows 25 = .ok (.aload_n 0, 1) := by decide +kernel
theorem dX11_knows_26 : decode cX11_knows 26 = .ok (.getfield 23, 3) := by decide +kernel
theorem dX11_knows_29 : decode cX11_knows 29 = .ok (.iload_n 2, 1) := by decide +kernel
theorem dX11_knows_30 : decode cX11_knows 30 = .ok (.iload_n 3, 1) := by decide +kernel
theorem dX11_knows_31 : decode cX11_knows 31 = .ok (.invokevirtual 157, 3) := by decide +kernel
theorem dX11_knows_34 : decode cX11_knows 34 = .ok (.ifCond .ne 5, 3) := by decide +kernel
theorem dX11_knows_37 : decode cX11_knows 37 = .ok (.iconst (-1), 1) := by decide +kernel
theorem dX11_knows_38 : decode cX11_knows 38 = .ok (.ireturn, 1) := by decide +kernel
theorem dX11_knows_39 : decode cX11_knows 39 = .ok (.iload_n 3, 1) := by decide +kernel
theorem dX11_knows_40 : decode cX11_knows 40 = .ok (.aload_n 0, 1) := by decide +kernel
theorem dX11_knows_41 : decode cX11_knows 41 = .ok (.getfield 23, 3) := by decide +kernel
theorem dX11_knows_44 : decode cX11_knows 44 = .ok (.getfield 133, 3) := by decide +kernel
theorem dX11_knows_47 : decode cX11_knows 47 = .ok (.iload_n 2, 1) := by decide +kernel
theorem dX11_knows_48 : decode cX11_knows 48 = .ok (.iaload, 1) := by decide +kernel
theorem dX11_knows_49 : decode cX11_knows 49 = .ok (.iand, 1) := by decide +kernel
theorem dX11_knows_50 : decode cX11_knows 50 = .ok (.iload_n 3, 1) := by decide +kernel
theorem dX11_knows_51 : decode cX11_knows 51 = .ok (.if_icmp .ne 7, 3) := by decide +kernel
theorem dX11_knows_54 : decode cX11_knows 54 = .ok (.iconst 1, 1) := by decide +kernel
theorem dX11_knows_55 : decode cX11_knows 55 = .ok (.goto 4, 3) := by decide +kernel
theorem dX11_knows_58 : decode cX11_knows 58 = .ok (.iconst 0, 1) := by decide +kernel
theorem dX11_knows_59 : decode cX11_knows 59 = .ok (.ireturn, 1) := by decide +kernel
theorem dX11_cell_0 : decode cX11_cell 0 = .ok (.aload_n 0, 1) := by decide +kernel
theorem dX11_cell_1 : decode cX11_cell 1 = .ok (.iload_n 1, 1) := by decide +kernel
theorem dX11_cell_2 : decode cX11_cell 2 = .ok (.invokevirtual 136, 3) := by decide +kernel
theorem dX11_cell_5 : decode cX11_cell 5 = .ok (.ifCond .eq 11, 3) := by decide +kernel
theorem dX11_cell_8 : decode cX11_cell 8 = .ok (.aload_n 0, 1) := by decide +kernel
theorem dX11_cell_9 : decode cX11_cell 9 = .ok (.iload_n 2, 1) := by decide +kernel
theorem dX11_cell_10 : decode cX11_cell 10 = .ok (.invokevirtual 112, 3) := by decide +kernel
theorem dX11_cell_13 : decode cX11_cell 13 = .ok (.ifCond .ne 6, 3) := by decide +kernel
theorem dX11_cell_16 : decode cX11_cell 16 = .ok (.bipush (-2), 2) := by decide +kernel
theorem dX11_cell_18 : decode cX11_cell 18 = .ok (.ireturn, 1) := by decide +kernel
theorem dX11_cell_19 : decode cX11_cell 19 = .ok (.aload_n 0, 1) := by decide +kernel
theorem dX11_cell_20 : decode cX11_cell 20 = .ok (.getfield 23, 3) := by decide +kernel
theorem dX11_cell_23 : decode cX11_cell 23 = .ok (.aload_n 0, 1) := by decide +kernel
theorem dX11_cell_24 : decode cX11_cell 24 = .ok (.getfield 30, 3) := by decide +kernel
theorem dX11_cell_27 : decode cX11_cell 27 = .ok (.getfield 142, 3) := by decide +kernel
theorem dX11_cell_30 : decode cX11_cell 30 = .ok (.iload_n 1, 1) := by decide +kernel
theorem dX11_cell_31 : decode cX11_cell 31 = .ok (.iaload, 1) := by decide +kernel
theorem dX11_cell_32 : decode cX11_cell 32 = .ok (.iload_n 2, 1) := by decide +kernel
theorem dX11_cell_33 : decode cX11_cell 33 = .ok (.invokevirtual 161, 3) := by decide +kernel
theorem dX11_cell_36 : decode cX11_cell 36 = .ok (.ireturn, 1) := by decide +kernel
theorem dX11_isWorld_0 : decode cX11_isWorld 0 = .ok (.iload_n 1, 1) := by decide +kernel
theorem dX11_isWorld_1 : decode cX11_isWorld 1 = .ok (.ifCond .lt 18, 3) := by decide +kernel
theorem dX11_isWorld_4 : decode cX11_isWorld 4 = .ok (.iload_n 1, 1) := by decide +kernel
theorem dX11_isWorld_5 : decode cX11_isWorld 5 = .ok (.aload_n 0, 1) := by decide +kernel
theorem dX11_isWorld_6 : decode cX11_isWorld 6 = .ok (.getfield 23, 3) := by decide +kernel
theorem dX11_isWorld_9 : decode cX11_isWorld 9 = .ok (.getfield 165, 3) := by decide +kernel
theorem dX11_isWorld_12 : decode cX11_isWorld 12 = .ok (.if_icmp .ge 7, 3) := by decide +kernel
theorem dX11_isWorld_15 : decode cX11_isWorld 15 = .ok (.iconst 1, 1) := by decide +kernel
theorem dX11_isWorld_16 : decode cX11_isWorld 16 = .ok (.goto 4, 3) := by decide +kernel
theorem dX11_isWorld_19 : decode cX11_isWorld 19 = .ok (.iconst 0, 1) := by decide +kernel
theorem dX11_isWorld_20 : decode cX11_isWorld 20 = .ok (.ireturn, 1) := by decide +kernel
theorem dX11_isFact_0 : decode cX11_isFact 0 = .ok (.iload_n 1, 1) := by decide +kernel
theorem dX11_isFact_1 : decode cX11_isFact 1 = .ok (.ifCond .lt 18, 3) := by decide +kernel
theorem dX11_isFact_4 : decode cX11_isFact 4 = .ok (.iload_n 1, 1) := by decide +kernel
theorem dX11_isFact_5 : decode cX11_isFact 5 = .ok (.aload_n 0, 1) := by decide +kernel
theorem dX11_isFact_6 : decode cX11_isFact 6 = .ok (.getfield 23, 3) := by decide +kernel
theorem dX11_isFact_9 : decode cX11_isFact 9 = .ok (.getfield 168, 3) := by decide +kernel
theorem dX11_isFact_12 : decode cX11_isFact 12 = .ok (.if_icmp .ge 7, 3) := by decide +kernel
theorem dX11_isFact_15 : decode cX11_isFact 15 = .ok (.iconst 1, 1) := by decide +kernel
theorem dX11_isFact_16 : decode cX11_isFact 16 = .ok (.goto 4, 3) := by decide +kernel
theorem dX11_isFact_19 : decode cX11_isFact 19 = .ok (.iconst 0, 1) := by decide +kernel
theorem dX11_isFact_20 : decode cX11_isFact 20 = .ok (.ireturn, 1) := by decide +kernel
theorem dX11_isPerson_0 : decode cX11_isPerson 0 = .ok (.iload_n 1, 1) := by decide +kernel
theorem dX11_isPerson_1 : decode cX11_isPerson 1 = .ok (.ifCond .lt 18, 3) := by decide +kernel
theorem dX11_isPerson_4 : decode cX11_isPerson 4 = .ok (.iload_n 1, 1) := by decide +kernel
theorem dX11_isPerson_5 : decode cX11_isPerson 5 = .ok (.aload_n 0, 1) := by decide +kernel
theorem dX11_isPerson_6 : decode cX11_isPerson 6 = .ok (.getfield 23, 3) := by decide +kernel
theorem dX11_isPerson_9 : decode cX11_isPerson 9 = .ok (.getfield 171, 3) := by decide +kernel
theorem dX11_isPerson_12 : decode cX11_isPerson 12 = .ok (.if_icmp .ge 7, 3) := by decide +kernel
theorem dX11_isPerson_15 : decode cX11_isPerson 15 = .ok (.iconst 1, 1) := by decide +kernel
theorem dX11_isPerson_16 : decode cX11_isPerson 16 = .ok (.goto 4, 3) := by decide +kernel
theorem dX11_isPerson_19 : decode cX11_isPerson 19 = .ok (.iconst 0, 1) := by decide +kernel
theorem dX11_isPerson_20 : decode cX11_isPerson 20 = .ok (.ireturn, 1) := by decide +kernel
theorem dX11_isMeasure_0 : decode cX11_isMeasure 0 = .ok (.iload_n 0, 1) := by decide +kernel
theorem dX11_isMeasure_1 : decode cX11_isMeasure 1 = .ok (.ifCond .lt 12, 3) := by decide +kernel
theorem dX11_isMeasure_4 : decode cX11_isMeasure 4 = .ok (.iload_n 0, 1) := by decide +kernel
theorem dX11_isMeasure_5 : decode cX11_isMeasure 5 = .ok (.iconst 4, 1) := by decide +kernel
theorem dX11_isMeasure_6 : decode cX11_isMeasure 6 = .ok (.if_icmp .ge 7, 3) := by decide +kernel
theorem dX11_isMeasure_9 : decode cX11_isMeasure 9 = .ok (.iconst 1, 1) := by decide +kernel
theorem dX11_isMeasure_10 : decode cX11_isMeasure 10 = .ok (.goto 4, 3) := by decide +kernel
theorem dX11_isMeasure_13 : decode cX11_isMeasure 13 = .ok (.iconst 0, 1) := by decide +kernel
theorem dX11_isMeasure_14 : decode cX11_isMeasure 14 = .ok (.ireturn, 1) := by decide +kernel
theorem dX11_isRow_0 : decode cX11_isRow 0 = .ok (.iload_n 0, 1) := by decide +kernel
theorem dX11_isRow_1 : decode cX11_isRow 1 = .ok (.ifCond .lt 12, 3) := by decide +kernel
theorem dX11_isRow_4 : decode cX11_isRow 4 = .ok (.iload_n 0, 1) := by decide +kernel
theorem dX11_isRow_5 : decode cX11_isRow 5 = .ok (.iconst 4, 1) := by decide +kernel
theorem dX11_isRow_6 : decode cX11_isRow 6 = .ok (.if_icmp .ge 7, 3) := by decide +kernel
theorem dX11_isRow_9 : decode cX11_isRow 9 = .ok (.iconst 1, 1) := by decide +kernel
theorem dX11_isRow_10 : decode cX11_isRow 10 = .ok (.goto 4, 3) := by decide +kernel
theorem dX11_isRow_13 : decode cX11_isRow 13 = .ok (.iconst 0, 1) := by decide +kernel
theorem dX11_isRow_14 : decode cX11_isRow 14 = .ok (.ireturn, 1) := by decide +kernel
theorem dX11_possibleTo_0 : decode cX11_possibleTo 0 = .ok (.aload_n 0, 1) := by decide +kernel
theorem dX11_possibleTo_1 : decode cX11_possibleTo 1 = .ok (.getfield 23, 3) := by decide +kernel
theorem dX11_possibleTo_4 : decode cX11_possibleTo 4 = .ok (.aload_n 0, 1) := by decide +kernel
theorem dX11_possibleTo_5 : decode cX11_possibleTo 5 = .ok (.getfield 30, 3) := by decide +kernel
theorem dX11_possibleTo_8 : decode cX11_possibleTo 8 = .ok (.getfield 142, 3) := by decide +kernel
theorem dX11_possibleTo_11 : decode cX11_possibleTo 11 = .ok (.iload_n 1, 1) := by decide +kernel
theorem dX11_possibleTo_12 : decode cX11_possibleTo 12 = .ok (.iaload, 1) := by decide +kernel
theorem dX11_possibleTo_13 : decode cX11_possibleTo 13 = .ok (.aload_n 0, 1) := by decide +kernel
theorem dX11_possibleTo_14 : decode cX11_possibleTo 14 = .ok (.getfield 30, 3) := by decide +kernel
theorem dX11_possibleTo_17 : decode cX11_possibleTo 17 = .ok (.getfield 174, 3) := by decide +kernel
theorem dX11_possibleTo_20 : decode cX11_possibleTo 20 = .ok (.invokevirtual 161, 3) := by decide +kernel
theorem dX11_possibleTo_23 : decode cX11_possibleTo 23 = .ok (.ireturn, 1) := by decide +kernel
theorem dX11_tell_0 : decode cX11_tell 0 = .ok (.aload_n 0, 1) := by decide +kernel
theorem dX11_tell_1 : decode cX11_tell 1 = .ok (.iload_n 1, 1) := by decide +kernel
theorem dX11_tell_2 : decode cX11_tell 2 = .ok (.invokevirtual 136, 3) := by decide +kernel
theorem dX11_tell_5 : decode cX11_tell 5 = .ok (.ifCond .eq 11, 3) := by decide +kernel
theorem dX11_tell_8 : decode cX11_tell 8 = .ok (.aload_n 0, 1) := by decide +kernel
theorem dX11_tell_9 : decode cX11_tell 9 = .ok (.iload_n 2, 1) := by decide +kernel
theorem dX11_tell_10 : decode cX11_tell 10 = .ok (.invokevirtual 130, 3) := by decide +kernel
theorem dX11_tell_13 : decode cX11_tell 13 = .ok (.ifCond .ne 6, 3) := by decide +kernel
theorem dX11_tell_16 : decode cX11_tell 16 = .ok (.bipush (-2), 2) := by decide +kernel
theorem dX11_tell_18 : decode cX11_tell 18 = .ok (.ireturn, 1) := by decide +kernel
theorem dX11_tell_19 : decode cX11_tell 19 = .ok (.aload_n 0, 1) := by decide +kernel
theorem dX11_tell_20 : decode cX11_tell 20 = .ok (.getfield 40, 3) := by decide +kernel
theorem dX11_tell_23 : decode cX11_tell 23 = .ok (.aload_n 0, 1) := by decide +kernel
theorem dX11_tell_24 : decode cX11_tell 24 = .ok (.getfield 30, 3) := by decide +kernel
theorem dX11_tell_27 : decode cX11_tell 27 = .ok (.invokevirtual 177, 3) := by decide +kernel
theorem dX11_tell_30 : decode cX11_tell 30 = .ok (.aload_n 0, 1) := by decide +kernel
theorem dX11_tell_31 : decode cX11_tell 31 = .ok (.getfield 30, 3) := by decide +kernel
theorem dX11_tell_34 : decode cX11_tell 34 = .ok (.getfield 142, 3) := by decide +kernel
theorem dX11_tell_37 : decode cX11_tell 37 = .ok (.iload_n 1, 1) := by decide +kernel
theorem dX11_tell_38 : decode cX11_tell 38 = .ok (.dup2, 1) := by decide +kernel
theorem dX11_tell_39 : decode cX11_tell 39 = .ok (.iaload, 1) := by decide +kernel
theorem dX11_tell_40 : decode cX11_tell 40 = .ok (.iconst 1, 1) := by decide +kernel
theorem dX11_tell_41 : decode cX11_tell 41 = .ok (.iload_n 2, 1) := by decide +kernel
theorem dX11_tell_42 : decode cX11_tell 42 = .ok (.ishl, 1) := by decide +kernel
theorem dX11_tell_43 : decode cX11_tell 43 = .ok (.ior, 1) := by decide +kernel
theorem dX11_tell_44 : decode cX11_tell 44 = .ok (.iastore, 1) := by decide +kernel
theorem dX11_tell_45 : decode cX11_tell 45 = .ok (.aload_n 0, 1) := by decide +kernel
theorem dX11_tell_46 : decode cX11_tell 46 = .ok (.iload_n 1, 1) := by decide +kernel
theorem dX11_tell_47 : decode cX11_tell 47 = .ok (.invokevirtual 139, 3) := by decide +kernel
theorem dX11_tell_50 : decode cX11_tell 50 = .ok (.invokestatic 180, 3) := by decide +kernel
theorem dX11_tell_53 : decode cX11_tell 53 = .ok (.ireturn, 1) := by decide +kernel
theorem dX11_ask_0 : decode cX11_ask 0 = .ok (.aload_n 0, 1) := by decide +kernel
theorem dX11_ask_1 : decode cX11_ask 1 = .ok (.iload_n 1, 1) := by decide +kernel
theorem dX11_ask_2 : decode cX11_ask 2 = .ok (.invokevirtual 136, 3) := by decide +kernel
theorem dX11_ask_5 : decode cX11_ask 5 = .ok (.ifCond .eq 11, 3) := by decide +kernel
theorem dX11_ask_8 : decode cX11_ask 8 = .ok (.aload_n 0, 1) := by decide +kernel
theorem dX11_ask_9 : decode cX11_ask 9 = .ok (.iload_n 2, 1) := by decide +kernel
theorem dX11_ask_10 : decode cX11_ask 10 = .ok (.invokevirtual 130, 3) := by decide +kernel
theorem dX11_ask_13 : decode cX11_ask 13 = .ok (.ifCond .ne 6, 3) := by decide +kernel
theorem dX11_ask_16 : decode cX11_ask 16 = .ok (.bipush (-2), 2) := by decide +kernel
theorem dX11_ask_18 : decode cX11_ask 18 = .ok (.ireturn, 1) := by decide +kernel
theorem dX11_ask_19 : decode cX11_ask 19 = .ok (.aload_n 0, 1) := by decide +kernel
theorem dX11_ask_20 : decode cX11_ask 20 = .ok (.getfield 40, 3) := by decide +kernel
theorem dX11_ask_23 : decode cX11_ask 23 = .ok (.aload_n 0, 1) := by decide +kernel
theorem dX11_ask_24 : decode cX11_ask 24 = .ok (.getfield 30, 3) := by decide +kernel
theorem dX11_ask_27 : decode cX11_ask 27 = .ok (.invokevirtual 177, 3) := by decide +kernel
theorem dX11_ask_30 : decode cX11_ask 30 = .ok (.aload_n 0, 1) := by decide +kernel
theorem dX11_ask_31 : decode cX11_ask 31 = .ok (.getfield 30, 3) := by decide +kernel
theorem dX11_ask_34 : decode cX11_ask 34 = .ok (.aload_n 0, 1) := by decide +kernel
theorem dX11_ask_35 : decode cX11_ask 35 = .ok (.getfield 23, 3) := by decide +kernel
theorem dX11_ask_38 : decode cX11_ask 38 = .ok (.iload_n 1, 1) := by decide +kernel
theorem dX11_ask_39 : decode cX11_ask 39 = .ok (.iload_n 2, 1) := by decide +kernel
theorem dX11_ask_40 : decode cX11_ask 40 = .ok (.invokevirtual 185, 3) := by decide +kernel
theorem dX11_ask_43 : decode cX11_ask 43 = .ok (.ifCond .eq 7, 3) := by decide +kernel
theorem dX11_ask_46 : decode cX11_ask 46 = .ok (.iconst 1, 1) := by decide +kernel
theorem dX11_ask_47 : decode cX11_ask 47 = .ok (.goto 4, 3) := by decide +kernel
theorem dX11_ask_50 : decode cX11_ask 50 = .ok (.iconst 0, 1) := by decide +kernel
theorem dX11_ask_51 : decode cX11_ask 51 = .ok (.ireturn, 1) := by decide +kernel
theorem dX11_days_0 : decode cX11_days 0 = .ok (.iload_n 1, 1) := by decide +kernel
theorem dX11_days_1 : decode cX11_days 1 = .ok (.iconst 1, 1) := by decide +kernel
theorem dX11_days_2 : decode cX11_days 2 = .ok (.if_icmp .lt 9, 3) := by decide +kernel
theorem dX11_days_5 : decode cX11_days 5 = .ok (.iload_n 1, 1) := by decide +kernel
theorem dX11_days_6 : decode cX11_days 6 = .ok (.bipush 60, 2) := by decide +kernel
theorem dX11_days_8 : decode cX11_days 8 = .ok (.if_icmp .le 6, 3) := by decide +kernel
theorem dX11_days_11 : decode cX11_days 11 = .ok (.bipush (-3), 2) := by decide +kernel
theorem dX11_days_13 : decode cX11_days 13 = .ok (.ireturn, 1) := by decide +kernel
theorem dX11_days_14 : decode cX11_days 14 = .ok (.aload_n 0, 1) := by decide +kernel
theorem dX11_days_15 : decode cX11_days 15 = .ok (.getfield 40, 3) := by decide +kernel
theorem dX11_days_18 : decode cX11_days 18 = .ok (.aload_n 0, 1) := by decide +kernel
theorem dX11_days_19 : decode cX11_days 19 = .ok (.getfield 30, 3) := by decide +kernel
theorem dX11_days_22 : decode cX11_days 22 = .ok (.invokevirtual 177, 3) := by decide +kernel
theorem dX11_days_25 : decode cX11_days 25 = .ok (.aload_n 0, 1) := by decide +kernel
theorem dX11_days_26 : decode cX11_days 26 = .ok (.getfield 34, 3) := by decide +kernel
theorem dX11_days_29 : decode cX11_days 29 = .ok (.aload_n 0, 1) := by decide +kernel
theorem dX11_days_30 : decode cX11_days 30 = .ok (.getfield 30, 3) := by decide +kernel
theorem dX11_days_33 : decode cX11_days 33 = .ok (.invokevirtual 100, 3) := by decide +kernel
theorem dX11_days_36 : decode cX11_days 36 = .ok (.aload_n 0, 1) := by decide +kernel
theorem dX11_days_37 : decode cX11_days 37 = .ok (.getfield 30, 3) := by decide +kernel
theorem dX11_days_40 : decode cX11_days 40 = .ok (.aload_n 0, 1) := by decide +kernel
theorem dX11_days_41 : decode cX11_days 41 = .ok (.getfield 23, 3) := by decide +kernel
theorem dX11_days_44 : decode cX11_days 44 = .ok (.iload_n 1, 1) := by decide +kernel
theorem dX11_days_45 : decode cX11_days 45 = .ok (.invokevirtual 189, 3) := by decide +kernel
theorem dX11_days_48 : decode cX11_days 48 = .ok (.pop, 1) := by decide +kernel
theorem dX11_days_49 : decode cX11_days 49 = .ok (.iconst 0, 1) := by decide +kernel
theorem dX11_days_50 : decode cX11_days 50 = .ok (.istore_n 2, 1) := by decide +kernel
theorem dX11_days_51 : decode cX11_days 51 = .ok (.iconst 0, 1) := by decide +kernel
theorem dX11_days_52 : decode cX11_days 52 = .ok (.istore_n 3, 1) := by decide +kernel
theorem dX11_days_53 : decode cX11_days 53 = .ok (.iload_n 3, 1) := by decide +kernel
theorem dX11_days_54 : decode cX11_days 54 = .ok (.aload_n 0, 1) := by decide +kernel
theorem dX11_days_55 : decode cX11_days 55 = .ok (.getfield 23, 3) := by decide +kernel
theorem dX11_days_58 : decode cX11_days 58 = .ok (.getfield 171, 3) := by decide +kernel
theorem dX11_days_61 : decode cX11_days 61 = .ok (.if_icmp .ge 33, 3) := by decide +kernel
theorem dX11_days_64 : decode cX11_days 64 = .ok (.aload_n 0, 1) := by decide +kernel
theorem dX11_days_65 : decode cX11_days 65 = .ok (.getfield 30, 3) := by decide +kernel
theorem dX11_days_68 : decode cX11_days 68 = .ok (.getfield 142, 3) := by decide +kernel
theorem dX11_days_71 : decode cX11_days 71 = .ok (.iload_n 3, 1) := by decide +kernel
theorem dX11_days_72 : decode cX11_days 72 = .ok (.iaload, 1) := by decide +kernel
theorem dX11_days_73 : decode cX11_days 73 = .ok (.aload_n 0, 1) := by decide +kernel
theorem dX11_days_74 : decode cX11_days 74 = .ok (.getfield 34, 3) := by decide +kernel
theorem dX11_days_77 : decode cX11_days 77 = .ok (.getfield 142, 3) := by decide +kernel
theorem dX11_days_80 : decode cX11_days 80 = .ok (.iload_n 3, 1) := by decide +kernel
theorem dX11_days_81 : decode cX11_days 81 = .ok (.iaload, 1) := by decide +kernel
theorem dX11_days_82 : decode cX11_days 82 = .ok (.if_icmp .eq 6, 3) := by decide +kernel
theorem dX11_days_85 : decode cX11_days 85 = .ok (.iinc 2 1, 3) := by decide +kernel
theorem dX11_days_88 : decode cX11_days 88 = .ok (.iinc 3 1, 3) := by decide +kernel
theorem dX11_days_91 : decode cX11_days 91 = .ok (.goto (-38), 3) := by decide +kernel
theorem dX11_days_94 : decode cX11_days 94 = .ok (.iload_n 2, 1) := by decide +kernel
theorem dX11_days_95 : decode cX11_days 95 = .ok (.ireturn, 1) := by decide +kernel
theorem dX11_isTrue_0 : decode cX11_isTrue 0 = .ok (.aload_n 0, 1) := by decide +kernel
theorem dX11_isTrue_1 : decode cX11_isTrue 1 = .ok (.iload_n 1, 1) := by decide +kernel
theorem dX11_isTrue_2 : decode cX11_isTrue 2 = .ok (.invokevirtual 112, 3) := by decide +kernel
theorem dX11_isTrue_5 : decode cX11_isTrue 5 = .ok (.ifCond .ne 6, 3) := by decide +kernel
theorem dX11_isTrue_8 : decode cX11_isTrue 8 = .ok (.bipush (-2), 2) := by decide +kernel
theorem dX11_isTrue_10 : decode cX11_isTrue 10 = .ok (.ireturn, 1) := by decide +kernel
theorem dX11_isTrue_11 : decode cX11_isTrue 11 = .ok (.aload_n 0, 1) := by decide +kernel
theorem dX11_isTrue_12 : decode cX11_isTrue 12 = .ok (.getfield 40, 3) := by decide +kernel
theorem dX11_isTrue_15 : decode cX11_isTrue 15 = .ok (.aload_n 0, 1) := by decide +kernel
theorem dX11_isTrue_16 : decode cX11_isTrue 16 = .ok (.getfield 30, 3) := by decide +kernel
theorem dX11_isTrue_19 : decode cX11_isTrue 19 = .ok (.invokevirtual 177, 3) := by decide +kernel
theorem dX11_isTrue_22 : decode cX11_isTrue 22 = .ok (.aload_n 0, 1) := by decide +kernel
theorem dX11_isTrue_23 : decode cX11_isTrue 23 = .ok (.getfield 30, 3) := by decide +kernel
theorem dX11_isTrue_26 : decode cX11_isTrue 26 = .ok (.getfield 174, 3) := by decide +kernel
theorem dX11_isTrue_29 : decode cX11_isTrue 29 = .ok (.istore_n 2, 1) := by decide +kernel
theorem dX11_isTrue_30 : decode cX11_isTrue 30 = .ok (.aload_n 0, 1) := by decide +kernel
theorem dX11_isTrue_31 : decode cX11_isTrue 31 = .ok (.getfield 30, 3) := by decide +kernel
theorem dX11_isTrue_34 : decode cX11_isTrue 34 = .ok (.iload_n 1, 1) := by decide +kernel
theorem dX11_isTrue_35 : decode cX11_isTrue 35 = .ok (.putfield 174, 3) := by decide +kernel
theorem dX11_isTrue_38 : decode cX11_isTrue 38 = .ok (.iload_n 2, 1) := by decide +kernel
theorem dX11_isTrue_39 : decode cX11_isTrue 39 = .ok (.ireturn, 1) := by decide +kernel
theorem dX11_undo_0 : decode cX11_undo 0 = .ok (.iload_n 1, 1) := by decide +kernel
theorem dX11_undo_1 : decode cX11_undo 1 = .ok (.iconst 1, 1) := by decide +kernel
theorem dX11_undo_2 : decode cX11_undo 2 = .ok (.if_icmp .lt 14, 3) := by decide +kernel
theorem dX11_undo_5 : decode cX11_undo 5 = .ok (.iload_n 1, 1) := by decide +kernel
theorem dX11_undo_6 : decode cX11_undo 6 = .ok (.aload_n 0, 1) := by decide +kernel
theorem dX11_undo_7 : decode cX11_undo 7 = .ok (.getfield 40, 3) := by decide +kernel
theorem dX11_undo_10 : decode cX11_undo 10 = .ok (.getfield 193, 3) := by decide +kernel
theorem dX11_undo_13 : decode cX11_undo 13 = .ok (.if_icmp .le 6, 3) := by decide +kernel
theorem dX11_undo_16 : decode cX11_undo 16 = .ok (.bipush (-3), 2) := by decide +kernel
theorem dX11_undo_18 : decode cX11_undo 18 = .ok (.ireturn, 1) := by decide +kernel
theorem dX11_undo_19 : decode cX11_undo 19 = .ok (.aload_n 0, 1) := by decide +kernel
theorem dX11_undo_20 : decode cX11_undo 20 = .ok (.getfield 40, 3) := by decide +kernel
theorem dX11_undo_23 : decode cX11_undo 23 = .ok (.aload_n 0, 1) := by decide +kernel
theorem dX11_undo_24 : decode cX11_undo 24 = .ok (.getfield 30, 3) := by decide +kernel
theorem dX11_undo_27 : decode cX11_undo 27 = .ok (.iload_n 1, 1) := by decide +kernel
theorem dX11_undo_28 : decode cX11_undo 28 = .ok (.invokevirtual 196, 3) := by decide +kernel
theorem dX11_undo_31 : decode cX11_undo 31 = .ok (.aload_n 0, 1) := by decide +kernel
theorem dX11_undo_32 : decode cX11_undo 32 = .ok (.getfield 40, 3) := by decide +kernel
theorem dX11_undo_35 : decode cX11_undo 35 = .ok (.getfield 193, 3) := by decide +kernel
theorem dX11_undo_38 : decode cX11_undo 38 = .ok (.ireturn, 1) := by decide +kernel
theorem dX11_judge_0 : decode cX11_judge 0 = .ok (.iload_n 1, 1) := by decide +kernel
theorem dX11_judge_1 : decode cX11_judge 1 = .ok (.invokestatic 200, 3) := by decide +kernel
theorem dX11_judge_4 : decode cX11_judge 4 = .ok (.ifCond .eq 12, 3) := by decide +kernel
theorem dX11_judge_7 : decode cX11_judge 7 = .ok (.iload_n 2, 1) := by decide +kernel
theorem dX11_judge_8 : decode cX11_judge 8 = .ok (.ifCond .lt 8, 3) := by decide +kernel
theorem dX11_judge_11 : decode cX11_judge 11 = .ok (.iload_n 2, 1) := by decide +kernel
theorem dX11_judge_12 : decode cX11_judge 12 = .ok (.iconst 3, 1) := by decide +kernel
theorem dX11_judge_13 : decode cX11_judge 13 = .ok (.if_icmp .le 6, 3) := by decide +kernel
theorem dX11_judge_16 : decode cX11_judge 16 = .ok (.bipush (-2), 2) := by decide +kernel
theorem dX11_judge_18 : decode cX11_judge 18 = .ok (.ireturn, 1) := by decide +kernel
theorem dX11_judge_19 : decode cX11_judge 19 = .ok (.aload_n 0, 1) := by decide +kernel
theorem dX11_judge_20 : decode cX11_judge 20 = .ok (.getfield 67, 3) := by decide +kernel
theorem dX11_judge_23 : decode cX11_judge 23 = .ok (.iload_n 1, 1) := by decide +kernel
theorem dX11_judge_24 : decode cX11_judge 24 = .ok (.aaload, 1) := by decide +kernel
theorem dX11_judge_25 : decode cX11_judge 25 = .ok (.invokevirtual 203, 3) := by decide +kernel
theorem dX11_judge_28 : decode cX11_judge 28 = .ok (.ifCond .eq 6, 3) := by decide +kernel
theorem dX11_judge_31 : decode cX11_judge 31 = .ok (.bipush (-6), 2) := by decide +kernel
theorem dX11_judge_33 : decode cX11_judge 33 = .ok (.ireturn, 1) := by decide +kernel
theorem dX11_judge_34 : decode cX11_judge 34 = .ok (.aload_n 0, 1) := by decide +kernel
theorem dX11_judge_35 : decode cX11_judge 35 = .ok (.getfield 23, 3) := by decide +kernel
theorem dX11_judge_38 : decode cX11_judge 38 = .ok (.aload_n 0, 1) := by decide +kernel
theorem dX11_judge_39 : decode cX11_judge 39 = .ok (.getfield 67, 3) := by decide +kernel
theorem dX11_judge_42 : decode cX11_judge 42 = .ok (.iload_n 1, 1) := by decide +kernel
theorem dX11_judge_43 : decode cX11_judge 43 = .ok (.aaload, 1) := by decide +kernel
theorem dX11_judge_44 : decode cX11_judge 44 = .ok (.invokevirtual 207, 3) := by decide +kernel
theorem dX11_judge_47 : decode cX11_judge 47 = .ok (.istore_n 3, 1) := by decide +kernel
theorem dX11_judge_48 : decode cX11_judge 48 = .ok (.iload_n 2, 1) := by decide +kernel
theorem dX11_judge_49 : decode cX11_judge 49 = .ok (.ifCond .ne 22, 3) := by decide +kernel
theorem dX11_judge_52 : decode cX11_judge 52 = .ok (.iload_n 3, 1) := by decide +kernel
theorem dX11_judge_53 : decode cX11_judge 53 = .ok (.aload_n 0, 1) := by decide +kernel
theorem dX11_judge_54 : decode cX11_judge 54 = .ok (.getfield 67, 3) := by decide +kernel
theorem dX11_judge_57 : decode cX11_judge 57 = .ok (.iload_n 1, 1) := by decide +kernel
theorem dX11_judge_58 : decode cX11_judge 58 = .ok (.aaload, 1) := by decide +kernel
theorem dX11_judge_59 : decode cX11_judge 59 = .ok (.getfield 211, 3) := by decide +kernel
theorem dX11_judge_62 : decode cX11_judge 62 = .ok (.if_icmp .ge 7, 3) := by decide +kernel
theorem dX11_judge_65 : decode cX11_judge 65 = .ok (.iload_n 3, 1) := by decide +kernel
theorem dX11_judge_66 : decode cX11_judge 66 = .ok (.goto 4, 3) := by decide +kernel
theorem dX11_judge_69 : decode cX11_judge 69 = .ok (.iconst (-1), 1) := by decide +kernel
theorem dX11_judge_70 : decode cX11_judge 70 = .ok (.ireturn, 1) := by decide +kernel
theorem dX11_judge_71 : decode cX11_judge 71 = .ok (.iload_n 2, 1) := by decide +kernel
theorem dX11_judge_72 : decode cX11_judge 72 = .ok (.iconst 1, 1) := by decide +kernel
theorem dX11_judge_73 : decode cX11_judge 73 = .ok (.if_icmp .ne 5, 3) := by decide +kernel
theorem dX11_judge_76 : decode cX11_judge 76 = .ok (.iload_n 3, 1) := by decide +kernel
theorem dX11_judge_77 : decode cX11_judge 77 = .ok (.ireturn, 1) := by decide +kernel
theorem dX11_judge_78 : decode cX11_judge 78 = .ok (.aload_n 0, 1) := by decide +kernel
theorem dX11_judge_79 : decode cX11_judge 79 = .ok (.getfield 34, 3) := by decide +kernel
theorem dX11_judge_82 : decode cX11_judge 82 = .ok (.aload_n 0, 1) := by decide +kernel
theorem dX11_judge_83 : decode cX11_judge 83 = .ok (.getfield 30, 3) := by decide +kernel
theorem dX11_judge_86 : decode cX11_judge 86 = .ok (.invokevirtual 100, 3) := by decide +kernel
theorem dX11_judge_89 : decode cX11_judge 89 = .ok (.aload_n 0, 1) := by decide +kernel
theorem dX11_judge_90 : decode cX11_judge 90 = .ok (.getfield 34, 3) := by decide +kernel
theorem dX11_judge_93 : decode cX11_judge 93 = .ok (.aload_n 0, 1) := by decide +kernel
theorem dX11_judge_94 : decode cX11_judge 94 = .ok (.getfield 23, 3) := by decide +kernel
theorem dX11_judge_97 : decode cX11_judge 97 = .ok (.aload_n 0, 1) := by decide +kernel
theorem dX11_judge_98 : decode cX11_judge 98 = .ok (.getfield 67, 3) := by decide +kernel
theorem dX11_judge_101 : decode cX11_judge 101 = .ok (.iload_n 1, 1) := by decide +kernel
theorem dX11_judge_102 : decode cX11_judge 102 = .ok (.aaload, 1) := by decide +kernel
theorem dX11_judge_103 : decode cX11_judge 103 = .ok (.iload_n 3, 1) := by decide +kernel
theorem dX11_judge_104 : decode cX11_judge 104 = .ok (.invokevirtual 214, 3) := by decide +kernel
theorem dX11_judge_107 : decode cX11_judge 107 = .ok (.istore 4, 2) := by decide +kernel
theorem dX11_judge_109 : decode cX11_judge 109 = .ok (.iload_n 2, 1) := by decide +kernel
theorem dX11_judge_110 : decode cX11_judge 110 = .ok (.iconst 2, 1) := by decide +kernel
theorem dX11_judge_111 : decode cX11_judge 111 = .ok (.if_icmp .ne 28, 3) := by decide +kernel
theorem dX11_judge_114 : decode cX11_judge 114 = .ok (.aload_n 0, 1) := by decide +kernel
theorem dX11_judge_115 : decode cX11_judge 115 = .ok (.getfield 23, 3) := by decide +kernel
theorem dX11_judge_118 : decode cX11_judge 118 = .ok (.iconst 0, 1) := by decide +kernel
theorem dX11_judge_119 : decode cX11_judge 119 = .ok (.aload_n 0, 1) := by decide +kernel
theorem dX11_judge_120 : decode cX11_judge 120 = .ok (.getfield 34, 3) := by decide +kernel
theorem dX11_judge_123 : decode cX11_judge 123 = .ok (.getfield 142, 3) := by decide +kernel
theorem dX11_judge_126 : decode cX11_judge 126 = .ok (.aload_n 0, 1) := by decide +kernel
theorem dX11_judge_127 : decode cX11_judge 127 = .ok (.getfield 34, 3) := by decide +kernel
theorem dX11_judge_130 : decode cX11_judge 130 = .ok (.getfield 174, 3) := by decide +kernel
theorem dX11_judge_133 : decode cX11_judge 133 = .ok (.invokevirtual 218, 3) := by decide +kernel
theorem dX11_judge_136 : decode cX11_judge 136 = .ok (.goto 5, 3) := by decide +kernel
theorem dX11_judge_139 : decode cX11_judge 139 = .ok (.iload 4, 2) := by decide +kernel
theorem dX11_judge_141 : decode cX11_judge 141 = .ok (.ireturn, 1) := by decide +kernel
theorem dX11_perform_0 : decode cX11_perform 0 = .ok (.iload_n 1, 1) := by decide +kernel
theorem dX11_perform_1 : decode cX11_perform 1 = .ok (.invokestatic 200, 3) := by decide +kernel
theorem dX11_perform_4 : decode cX11_perform 4 = .ok (.ifCond .ne 6, 3) := by decide +kernel
theorem dX11_perform_7 : decode cX11_perform 7 = .ok (.bipush (-2), 2) := by decide +kernel
theorem dX11_perform_9 : decode cX11_perform 9 = .ok (.ireturn, 1) := by decide +kernel
theorem dX11_perform_10 : decode cX11_perform 10 = .ok (.aload_n 0, 1) := by decide +kernel
theorem dX11_perform_11 : decode cX11_perform 11 = .ok (.getfield 67, 3) := by decide +kernel
theorem dX11_perform_14 : decode cX11_perform 14 = .ok (.iload_n 1, 1) := by decide +kernel
theorem dX11_perform_15 : decode cX11_perform 15 = .ok (.aaload, 1) := by decide +kernel
theorem dX11_perform_16 : decode cX11_perform 16 = .ok (.invokevirtual 203, 3) := by decide +kernel
theorem dX11_perform_19 : decode cX11_perform 19 = .ok (.ifCond .eq 6, 3) := by decide +kernel
theorem dX11_perform_22 : decode cX11_perform 22 = .ok (.bipush (-6), 2) := by decide +kernel
theorem dX11_perform_24 : decode cX11_perform 24 = .ok (.ireturn, 1) := by decide +kernel
theorem dX11_perform_25 : decode cX11_perform 25 = .ok (.aload_n 0, 1) := by decide +kernel
theorem dX11_perform_26 : decode cX11_perform 26 = .ok (.getfield 23, 3) := by decide +kernel
theorem dX11_perform_29 : decode cX11_perform 29 = .ok (.aload_n 0, 1) := by decide +kernel
theorem dX11_perform_30 : decode cX11_perform 30 = .ok (.getfield 67, 3) := by decide +kernel
theorem dX11_perform_33 : decode cX11_perform 33 = .ok (.iload_n 1, 1) := by decide +kernel
theorem dX11_perform_34 : decode cX11_perform 34 = .ok (.aaload, 1) := by decide +kernel
theorem dX11_perform_35 : decode cX11_perform 35 = .ok (.invokevirtual 207, 3) := by decide +kernel
theorem dX11_perform_38 : decode cX11_perform 38 = .ok (.istore_n 2, 1) := by decide +kernel
theorem dX11_perform_39 : decode cX11_perform 39 = .ok (.iload_n 2, 1) := by decide +kernel
theorem dX11_perform_40 : decode cX11_perform 40 = .ok (.ifCond .le 33, 3) := by decide +kernel
theorem dX11_perform_43 : decode cX11_perform 43 = .ok (.aload_n 0, 1) := by decide +kernel
theorem dX11_perform_44 : decode cX11_perform 44 = .ok (.getfield 40, 3) := by decide +kernel
theorem dX11_perform_47 : decode cX11_perform 47 = .ok (.aload_n 0, 1) := by decide +kernel
theorem dX11_perform_48 : decode cX11_perform 48 = .ok (.getfield 30, 3) := by decide +kernel
theorem dX11_perform_51 : decode cX11_perform 51 = .ok (.invokevirtual 177, 3) := by decide +kernel
theorem dX11_perform_54 : decode cX11_perform 54 = .ok (.aload_n 0, 1) := by decide +kernel
theorem dX11_perform_55 : decode cX11_perform 55 = .ok (.getfield 30, 3) := by decide +kernel
theorem dX11_perform_58 : decode cX11_perform 58 = .ok (.aload_n 0, 1) := by decide +kernel
theorem dX11_perform_59 : decode cX11_perform 59 = .ok (.getfield 23, 3) := by decide +kernel
theorem dX11_perform_62 : decode cX11_perform 62 = .ok (.aload_n 0, 1) := by decide +kernel
theorem dX11_perform_63 : decode cX11_perform 63 = .ok (.getfield 67, 3) := by decide +kernel
theorem dX11_perform_66 : decode cX11_perform 66 = .ok (.iload_n 1, 1) := by decide +kernel
theorem dX11_perform_67 : decode cX11_perform 67 = .ok (.aaload, 1) := by decide +kernel
theorem dX11_perform_68 : decode cX11_perform 68 = .ok (.iload_n 2, 1) := by decide +kernel
theorem dX11_perform_69 : decode cX11_perform 69 = .ok (.invokevirtual 214, 3) := by decide +kernel
theorem dX11_perform_72 : decode cX11_perform 72 = .ok (.pop, 1) := by decide +kernel
theorem dX11_perform_73 : decode cX11_perform 73 = .ok (.iload_n 2, 1) := by decide +kernel
theorem dX11_perform_74 : decode cX11_perform 74 = .ok (.ireturn, 1) := by decide +kernel
theorem dX11_year_0 : decode cX11_year 0 = .ok (.iload_n 2, 1) := by decide +kernel
theorem dX11_year_1 : decode cX11_year 1 = .ok (.iconst 1, 1) := by decide +kernel
theorem dX11_year_2 : decode cX11_year 2 = .ok (.if_icmp .lt 9, 3) := by decide +kernel
theorem dX11_year_5 : decode cX11_year 5 = .ok (.iload_n 2, 1) := by decide +kernel
theorem dX11_year_6 : decode cX11_year 6 = .ok (.bipush 60, 2) := by decide +kernel
theorem dX11_year_8 : decode cX11_year 8 = .ok (.if_icmp .le 6, 3) := by decide +kernel
theorem dX11_year_11 : decode cX11_year 11 = .ok (.bipush (-3), 2) := by decide +kernel
theorem dX11_year_13 : decode cX11_year 13 = .ok (.ireturn, 1) := by decide +kernel
theorem dX11_year_14 : decode cX11_year 14 = .ok (.aload_n 0, 1) := by decide +kernel
theorem dX11_year_15 : decode cX11_year 15 = .ok (.getfield 23, 3) := by decide +kernel
theorem dX11_year_18 : decode cX11_year 18 = .ok (.getfield 165, 3) := by decide +kernel
theorem dX11_year_21 : decode cX11_year 21 = .ok (.ifCond .eq 23, 3) := by decide +kernel
theorem dX11_year_24 : decode cX11_year 24 = .ok (.aload_n 0, 1) := by decide +kernel
theorem dX11_year_25 : decode cX11_year 25 = .ok (.getfield 23, 3) := by decide +kernel
theorem dX11_year_28 : decode cX11_year 28 = .ok (.getfield 171, 3) := by decide +kernel
theorem dX11_year_31 : decode cX11_year 31 = .ok (.ifCond .eq 13, 3) := by decide +kernel
theorem dX11_year_34 : decode cX11_year 34 = .ok (.aload_n 0, 1) := by decide +kernel
theorem dX11_year_35 : decode cX11_year 35 = .ok (.getfield 23, 3) := by decide +kernel
theorem dX11_year_38 : decode cX11_year 38 = .ok (.getfield 168, 3) := by decide +kernel
theorem dX11_year_41 : decode cX11_year 41 = .ok (.ifCond .ne 6, 3) := by decide +kernel
theorem dX11_year_44 : decode cX11_year 44 = .ok (.bipush (-5), 2) := by decide +kernel
theorem dX11_year_46 : decode cX11_year 46 = .ok (.ireturn, 1) := by decide +kernel
theorem dX11_year_47 : decode cX11_year 47 = .ok (.aload_n 0, 1) := by decide +kernel
theorem dX11_year_48 : decode cX11_year 48 = .ok (.getfield 40, 3) := by decide +kernel
theorem dX11_year_51 : decode cX11_year 51 = .ok (.aload_n 0, 1) := by decide +kernel
theorem dX11_year_52 : decode cX11_year 52 = .ok (.getfield 30, 3) := by decide +kernel
theorem dX11_year_55 : decode cX11_year 55 = .ok (.invokevirtual 177, 3) := by decide +kernel
theorem dX11_year_58 : decode cX11_year 58 = .ok (.aload_n 0, 1) := by decide +kernel
theorem dX11_year_59 : decode cX11_year 59 = .ok (.getfield 30, 3) := by decide +kernel
theorem dX11_year_62 : decode cX11_year 62 = .ok (.aload_n 0, 1) := by decide +kernel
theorem dX11_year_63 : decode cX11_year 63 = .ok (.getfield 23, 3) := by decide +kernel
theorem dX11_year_66 : decode cX11_year 66 = .ok (.iload_n 1, 1) := by decide +kernel
theorem dX11_year_67 : decode cX11_year 67 = .ok (.iload_n 2, 1) := by decide +kernel
theorem dX11_year_68 : decode cX11_year 68 = .ok (.invokevirtual 222, 3) := by decide +kernel
theorem dX11_year_71 : decode cX11_year 71 = .ok (.aload_n 0, 1) := by decide +kernel
theorem dX11_year_72 : decode cX11_year 72 = .ok (.getfield 23, 3) := by decide +kernel
theorem dX11_year_75 : decode cX11_year 75 = .ok (.iconst 0, 1) := by decide +kernel
theorem dX11_year_76 : decode cX11_year 76 = .ok (.aload_n 0, 1) := by decide +kernel
theorem dX11_year_77 : decode cX11_year 77 = .ok (.getfield 30, 3) := by decide +kernel
theorem dX11_year_80 : decode cX11_year 80 = .ok (.getfield 142, 3) := by decide +kernel
theorem dX11_year_83 : decode cX11_year 83 = .ok (.aload_n 0, 1) := by decide +kernel
theorem dX11_year_84 : decode cX11_year 84 = .ok (.getfield 30, 3) := by decide +kernel
theorem dX11_year_87 : decode cX11_year 87 = .ok (.getfield 174, 3) := by decide +kernel
theorem dX11_year_90 : decode cX11_year 90 = .ok (.invokevirtual 218, 3) := by decide +kernel
theorem dX11_year_93 : decode cX11_year 93 = .ok (.ireturn, 1) := by decide +kernel
theorem dX11_everyone_0 : decode cX11_everyone 0 = .ok (.aload_n 0, 1) := by decide +kernel
theorem dX11_everyone_1 : decode cX11_everyone 1 = .ok (.iload_n 1, 1) := by decide +kernel
theorem dX11_everyone_2 : decode cX11_everyone 2 = .ok (.invokevirtual 130, 3) := by decide +kernel
theorem dX11_everyone_5 : decode cX11_everyone 5 = .ok (.ifCond .ne 6, 3) := by decide +kernel
theorem dX11_everyone_8 : decode cX11_everyone 8 = .ok (.bipush (-2), 2) := by decide +kernel
theorem dX11_everyone_10 : decode cX11_everyone 10 = .ok (.ireturn, 1) := by decide +kernel
theorem dX11_everyone_11 : decode cX11_everyone 11 = .ok (.aload_n 0, 1) := by decide +kernel
theorem dX11_everyone_12 : decode cX11_everyone 12 = .ok (.getfield 23, 3) := by decide +kernel
theorem dX11_everyone_15 : decode cX11_everyone 15 = .ok (.getfield 165, 3) := by decide +kernel
theorem dX11_everyone_18 : decode cX11_everyone 18 = .ok (.ifCond .ne 6, 3) := by decide +kernel
theorem dX11_everyone_21 : decode cX11_everyone 21 = .ok (.bipush (-5), 2) := by decide +kernel
theorem dX11_everyone_23 : decode cX11_everyone 23 = .ok (.ireturn, 1) := by decide +kernel
theorem dX11_everyone_24 : decode cX11_everyone 24 = .ok (.aload_n 0, 1) := by decide +kernel
theorem dX11_everyone_25 : decode cX11_everyone 25 = .ok (.getfield 23, 3) := by decide +kernel
theorem dX11_everyone_28 : decode cX11_everyone 28 = .ok (.iload_n 1, 1) := by decide +kernel
theorem dX11_everyone_29 : decode cX11_everyone 29 = .ok (.aload_n 0, 1) := by decide +kernel
theorem dX11_everyone_30 : decode cX11_everyone 30 = .ok (.iconst 1, 1) := by decide +kernel
theorem dX11_everyone_31 : decode cX11_everyone 31 = .ok (.invokevirtual 226, 3) := by decide +kernel
theorem dX11_everyone_34 : decode cX11_everyone 34 = .ok (.invokevirtual 157, 3) := by decide +kernel
theorem dX11_everyone_37 : decode cX11_everyone 37 = .ok (.ifCond .eq 7, 3) := by decide +kernel
theorem dX11_everyone_40 : decode cX11_everyone 40 = .ok (.iconst 1, 1) := by decide +kernel
theorem dX11_everyone_41 : decode cX11_everyone 41 = .ok (.goto 4, 3) := by decide +kernel
theorem dX11_everyone_44 : decode cX11_everyone 44 = .ok (.iconst 0, 1) := by decide +kernel
theorem dX11_everyone_45 : decode cX11_everyone 45 = .ok (.ireturn, 1) := by decide +kernel
theorem dX11_depth_0 : decode cX11_depth 0 = .ok (.aload_n 0, 1) := by decide +kernel
theorem dX11_depth_1 : decode cX11_depth 1 = .ok (.iload_n 1, 1) := by decide +kernel
theorem dX11_depth_2 : decode cX11_depth 2 = .ok (.invokevirtual 130, 3) := by decide +kernel
theorem dX11_depth_5 : decode cX11_depth 5 = .ok (.ifCond .ne 6, 3) := by decide +kernel
theorem dX11_depth_8 : decode cX11_depth 8 = .ok (.bipush (-2), 2) := by decide +kernel
theorem dX11_depth_10 : decode cX11_depth 10 = .ok (.ireturn, 1) := by decide +kernel
theorem dX11_depth_11 : decode cX11_depth 11 = .ok (.aload_n 0, 1) := by decide +kernel
theorem dX11_depth_12 : decode cX11_depth 12 = .ok (.getfield 23, 3) := by decide +kernel
theorem dX11_depth_15 : decode cX11_depth 15 = .ok (.getfield 165, 3) := by decide +kernel
theorem dX11_depth_18 : decode cX11_depth 18 = .ok (.ifCond .ne 6, 3) := by decide +kernel
theorem dX11_depth_21 : decode cX11_depth 21 = .ok (.bipush (-5), 2) := by decide +kernel
theorem dX11_depth_23 : decode cX11_depth 23 = .ok (.ireturn, 1) := by decide +kernel
theorem dX11_depth_24 : decode cX11_depth 24 = .ok (.iconst 1, 1) := by decide +kernel
theorem dX11_depth_25 : decode cX11_depth 25 = .ok (.aload_n 0, 1) := by decide +kernel
theorem dX11_depth_26 : decode cX11_depth 26 = .ok (.getfield 30, 3) := by decide +kernel
theorem dX11_depth_29 : decode cX11_depth 29 = .ok (.getfield 174, 3) := by decide +kernel
theorem dX11_depth_32 : decode cX11_depth 32 = .ok (.ishl, 1) := by decide +kernel
theorem dX11_depth_33 : decode cX11_depth 33 = .ok (.istore_n 2, 1) := by decide +kernel
theorem dX11_depth_34 : decode cX11_depth 34 = .ok (.iconst 0, 1) := by decide +kernel
theorem dX11_depth_35 : decode cX11_depth 35 = .ok (.istore_n 3, 1) := by decide +kernel
theorem dX11_depth_36 : decode cX11_depth 36 = .ok (.iload_n 3, 1) := by decide +kernel
theorem dX11_depth_37 : decode cX11_depth 37 = .ok (.bipush 16, 2) := by decide +kernel
theorem dX11_depth_39 : decode cX11_depth 39 = .ok (.if_icmp .ge 53, 3) := by decide +kernel
theorem dX11_depth_42 : decode cX11_depth 42 = .ok (.aload_n 0, 1) := by decide +kernel
theorem dX11_depth_43 : decode cX11_depth 43 = .ok (.getfield 23, 3) := by decide +kernel
theorem dX11_depth_46 : decode cX11_depth 46 = .ok (.iload_n 2, 1) := by decide +kernel
theorem dX11_depth_47 : decode cX11_depth 47 = .ok (.aload_n 0, 1) := by decide +kernel
theorem dX11_depth_48 : decode cX11_depth 48 = .ok (.getfield 30, 3) := by decide +kernel
theorem dX11_depth_51 : decode cX11_depth 51 = .ok (.getfield 142, 3) := by decide +kernel
theorem dX11_depth_54 : decode cX11_depth 54 = .ok (.invokevirtual 229, 3) := by decide +kernel
theorem dX11_depth_57 : decode cX11_depth 57 = .ok (.istore 4, 2) := by decide +kernel
theorem dX11_depth_59 : decode cX11_depth 59 = .ok (.iload 4, 2) := by decide +kernel
theorem dX11_depth_61 : decode cX11_depth 61 = .ok (.iload_n 2, 1) := by decide +kernel
theorem dX11_depth_62 : decode cX11_depth 62 = .ok (.if_icmp .ne 6, 3) := by decide +kernel
theorem dX11_depth_65 : decode cX11_depth 65 = .ok (.bipush 100, 2) := by decide +kernel
theorem dX11_depth_67 : decode cX11_depth 67 = .ok (.ireturn, 1) := by decide +kernel
theorem dX11_depth_68 : decode cX11_depth 68 = .ok (.aload_n 0, 1) := by decide +kernel
theorem dX11_depth_69 : decode cX11_depth 69 = .ok (.getfield 23, 3) := by decide +kernel
theorem dX11_depth_72 : decode cX11_depth 72 = .ok (.iload_n 1, 1) := by decide +kernel
theorem dX11_depth_73 : decode cX11_depth 73 = .ok (.iload 4, 2) := by decide +kernel
theorem dX11_depth_75 : decode cX11_depth 75 = .ok (.invokevirtual 157, 3) := by decide +kernel
theorem dX11_depth_78 : decode cX11_depth 78 = .ok (.ifCond .ne 5, 3) := by decide +kernel
theorem dX11_depth_81 : decode cX11_depth 81 = .ok (.iload_n 3, 1) := by decide +kernel
theorem dX11_depth_82 : decode cX11_depth 82 = .ok (.ireturn, 1) := by decide +kernel
theorem dX11_depth_83 : decode cX11_depth 83 = .ok (.iload 4, 2) := by decide +kernel
theorem dX11_depth_85 : decode cX11_depth 85 = .ok (.istore_n 2, 1) := by decide +kernel
theorem dX11_depth_86 : decode cX11_depth 86 = .ok (.iinc 3 1, 3) := by decide +kernel
theorem dX11_depth_89 : decode cX11_depth 89 = .ok (.goto (-53), 3) := by decide +kernel
theorem dX11_depth_92 : decode cX11_depth 92 = .ok (.bipush 100, 2) := by decide +kernel
theorem dX11_depth_94 : decode cX11_depth 94 = .ok (.ireturn, 1) := by decide +kernel
theorem dX11_common_0 : decode cX11_common 0 = .ok (.aload_n 0, 1) := by decide +kernel
theorem dX11_common_1 : decode cX11_common 1 = .ok (.getfield 23, 3) := by decide +kernel
theorem dX11_common_4 : decode cX11_common 4 = .ok (.getfield 165, 3) := by decide +kernel
theorem dX11_common_7 : decode cX11_common 7 = .ok (.ifCond .ne 8, 3) := by decide +kernel
theorem dX11_common_10 : decode cX11_common 10 = .ok (.bipush (-5), 2) := by decide +kernel
theorem dX11_common_12 : decode cX11_common 12 = .ok (.goto 16, 3) := by decide +kernel
theorem dX11_common_15 : decode cX11_common 15 = .ok (.aload_n 0, 1) := by decide +kernel
theorem dX11_common_16 : decode cX11_common 16 = .ok (.getfield 23, 3) := by decide +kernel
theorem dX11_common_19 : decode cX11_common 19 = .ok (.aload_n 0, 1) := by decide +kernel
theorem dX11_common_20 : decode cX11_common 20 = .ok (.bipush 16, 2) := by decide +kernel
theorem dX11_common_22 : decode cX11_common 22 = .ok (.invokevirtual 226, 3) := by decide +kernel
theorem dX11_common_25 : decode cX11_common 25 = .ok (.invokevirtual 145, 3) := by decide +kernel
theorem dX11_common_28 : decode cX11_common 28 = .ok (.ireturn, 1) := by decide +kernel
theorem dX11_reach_0 : decode cX11_reach 0 = .ok (.iload_n 1, 1) := by decide +kernel
theorem dX11_reach_1 : decode cX11_reach 1 = .ok (.iconst 1, 1) := by decide +kernel
theorem dX11_reach_2 : decode cX11_reach 2 = .ok (.if_icmp .lt 9, 3) := by decide +kernel
theorem dX11_reach_5 : decode cX11_reach 5 = .ok (.iload_n 1, 1) := by decide +kernel
theorem dX11_reach_6 : decode cX11_reach 6 = .ok (.bipush 20, 2) := by decide +kernel
theorem dX11_reach_8 : decode cX11_reach 8 = .ok (.if_icmp .le 6, 3) := by decide +kernel
theorem dX11_reach_11 : decode cX11_reach 11 = .ok (.bipush (-3), 2) := by decide +kernel
theorem dX11_reach_13 : decode cX11_reach 13 = .ok (.ireturn, 1) := by decide +kernel
theorem dX11_reach_14 : decode cX11_reach 14 = .ok (.aload_n 0, 1) := by decide +kernel
theorem dX11_reach_15 : decode cX11_reach 15 = .ok (.getfield 23, 3) := by decide +kernel
theorem dX11_reach_18 : decode cX11_reach 18 = .ok (.getfield 165, 3) := by decide +kernel
theorem dX11_reach_21 : decode cX11_reach 21 = .ok (.ifCond .ne 8, 3) := by decide +kernel
theorem dX11_reach_24 : decode cX11_reach 24 = .ok (.bipush (-5), 2) := by decide +kernel
theorem dX11_reach_26 : decode cX11_reach 26 = .ok (.goto 8, 3) := by decide +kernel
theorem dX11_reach_29 : decode cX11_reach 29 = .ok (.aload_n 0, 1) := by decide +kernel
theorem dX11_reach_30 : decode cX11_reach 30 = .ok (.iload_n 1, 1) := by decide +kernel
theorem dX11_reach_31 : decode cX11_reach 31 = .ok (.invokevirtual 226, 3) := by decide +kernel
theorem dX11_reach_34 : decode cX11_reach 34 = .ok (.ireturn, 1) := by decide +kernel
theorem dX11_reached_0 : decode cX11_reached 0 = .ok (.iconst 1, 1) := by decide +kernel
theorem dX11_reached_1 : decode cX11_reached 1 = .ok (.aload_n 0, 1) := by decide +kernel
theorem dX11_reached_2 : decode cX11_reached 2 = .ok (.getfield 30, 3) := by decide +kernel
theorem dX11_reached_5 : decode cX11_reached 5 = .ok (.getfield 174, 3) := by decide +kernel
theorem dX11_reached_8 : decode cX11_reached 8 = .ok (.ishl, 1) := by decide +kernel
theorem dX11_reached_9 : decode cX11_reached 9 = .ok (.istore_n 2, 1) := by decide +kernel
theorem dX11_reached_10 : decode cX11_reached 10 = .ok (.iconst 0, 1) := by decide +kernel
theorem dX11_reached_11 : decode cX11_reached 11 = .ok (.istore_n 3, 1) := by decide +kernel
theorem dX11_reached_12 : decode cX11_reached 12 = .ok (.iload_n 3, 1) := by decide +kernel
theorem dX11_reached_13 : decode cX11_reached 13 = .ok (.iload_n 1, 1) := by decide +kernel
theorem dX11_reached_14 : decode cX11_reached 14 = .ok (.if_icmp .ge 37, 3) := by decide +kernel
theorem dX11_reached_17 : decode cX11_reached 17 = .ok (.aload_n 0, 1) := by decide +kernel
theorem dX11_reached_18 : decode cX11_reached 18 = .ok (.getfield 23, 3) := by decide +kernel
theorem dX11_reached_21 : decode cX11_reached 21 = .ok (.iload_n 2, 1) := by decide +kernel
theorem dX11_reached_22 : decode cX11_reached 22 = .ok (.aload_n 0, 1) := by decide +kernel
theorem dX11_reached_23 : decode cX11_reached 23 = .ok (.getfield 30, 3) := by decide +kernel
theorem dX11_reached_26 : decode cX11_reached 26 = .ok (.getfield 142, 3) := by decide +kernel
theorem dX11_reached_29 : decode cX11_reached 29 = .ok (.invokevirtual 229, 3) := by decide +kernel
theorem dX11_reached_32 : decode cX11_reached 32 = .ok (.istore 4, 2) := by decide +kernel
theorem dX11_reached_34 : decode cX11_reached 34 = .ok (.iload 4, 2) := by decide +kernel
theorem dX11_reached_36 : decode cX11_reached 36 = .ok (.iload_n 2, 1) := by decide +kernel
theorem dX11_reached_37 : decode cX11_reached 37 = .ok (.if_icmp .ne 5, 3) := by decide +kernel
theorem dX11_reached_40 : decode cX11_reached 40 = .ok (.iload_n 2, 1) := by decide +kernel
theorem dX11_reached_41 : decode cX11_reached 41 = .ok (.ireturn, 1) := by decide +kernel
theorem dX11_reached_42 : decode cX11_reached 42 = .ok (.iload 4, 2) := by decide +kernel
theorem dX11_reached_44 : decode cX11_reached 44 = .ok (.istore_n 2, 1) := by decide +kernel
theorem dX11_reached_45 : decode cX11_reached 45 = .ok (.iinc 3 1, 3) := by decide +kernel
theorem dX11_reached_48 : decode cX11_reached 48 = .ok (.goto (-36), 3) := by decide +kernel
theorem dX11_reached_51 : decode cX11_reached 51 = .ok (.iload_n 2, 1) := by decide +kernel
theorem dX11_reached_52 : decode cX11_reached 52 = .ok (.ireturn, 1) := by decide +kernel
theorem dX11_together_0 : decode cX11_together 0 = .ok (.iload_n 1, 1) := by decide +kernel
theorem dX11_together_1 : decode cX11_together 1 = .ok (.aload_n 0, 1) := by decide +kernel
theorem dX11_together_2 : decode cX11_together 2 = .ok (.getfield 23, 3) := by decide +kernel
theorem dX11_together_5 : decode cX11_together 5 = .ok (.getfield 171, 3) := by decide +kernel
theorem dX11_together_8 : decode cX11_together 8 = .ok (.ishr, 1) := by decide +kernel
theorem dX11_together_9 : decode cX11_together 9 = .ok (.ifCond .eq 6, 3) := by decide +kernel
theorem dX11_together_12 : decode cX11_together 12 = .ok (.bipush (-3), 2) := by decide +kernel
theorem dX11_together_14 : decode cX11_together 14 = .ok (.ireturn, 1) := by decide +kernel
theorem dX11_together_15 : decode cX11_together 15 = .ok (.aload_n 0, 1) := by decide +kernel
theorem dX11_together_16 : decode cX11_together 16 = .ok (.getfield 23, 3) := by decide +kernel
theorem dX11_together_19 : decode cX11_together 19 = .ok (.getfield 165, 3) := by decide +kernel
theorem dX11_together_22 : decode cX11_together 22 = .ok (.ifCond .ne 8, 3) := by decide +kernel
theorem dX11_together_25 : decode cX11_together 25 = .ok (.bipush (-5), 2) := by decide +kernel
theorem dX11_together_27 : decode cX11_together 27 = .ok (.goto 8, 3) := by decide +kernel
theorem dX11_together_30 : decode cX11_together 30 = .ok (.aload_n 0, 1) := by decide +kernel
theorem dX11_together_31 : decode cX11_together 31 = .ok (.iload_n 1, 1) := by decide +kernel
theorem dX11_together_32 : decode cX11_together 32 = .ok (.invokevirtual 233, 3) := by decide +kernel
theorem dX11_together_35 : decode cX11_together 35 = .ok (.ireturn, 1) := by decide +kernel
theorem dX11_possibleTogether_0 : decode cX11_possibleTogether 0 = .ok (.iconst 0, 1) := by decide +kernel
theorem dX11_possibleTogether_1 : decode cX11_possibleTogether 1 = .ok (.istore_n 2, 1) := by decide +kernel
theorem dX11_possibleTogether_2 : decode cX11_possibleTogether 2 = .ok (.iconst 0, 1) := by decide +kernel
theorem dX11_possibleTogether_3 : decode cX11_possibleTogether 3 = .ok (.istore_n 3, 1) := by decide +kernel
theorem dX11_possibleTogether_4 : decode cX11_possibleTogether 4 = .ok (.iload_n 3, 1) := by decide +kernel
theorem dX11_possibleTogether_5 : decode cX11_possibleTogether 5 = .ok (.aload_n 0, 1) := by decide +kernel
theorem dX11_possibleTogether_6 : decode cX11_possibleTogether 6 = .ok (.getfield 23, 3) := by decide +kernel
theorem dX11_possibleTogether_9 : decode cX11_possibleTogether 9 = .ok (.getfield 171, 3) := by decide +kernel
theorem dX11_possibleTogether_12 : decode cX11_possibleTogether 12 = .ok (.if_icmp .ge 30, 3) := by decide +kernel
theorem dX11_possibleTogether_15 : decode cX11_possibleTogether 15 = .ok (.iload_n 1, 1) := by decide +kernel
theorem dX11_possibleTogether_16 : decode cX11_possibleTogether 16 = .ok (.iload_n 3, 1) := by decide +kernel
theorem dX11_possibleTogether_17 : decode cX11_possibleTogether 17 = .ok (.ishr, 1) := by decide +kernel
theorem dX11_possibleTogether_18 : decode cX11_possibleTogether 18 = .ok (.iconst 1, 1) := by decide +kernel
theorem dX11_possibleTogether_19 : decode cX11_possibleTogether 19 = .ok (.iand, 1) := by decide +kernel
theorem dX11_possibleTogether_20 : decode cX11_possibleTogether 20 = .ok (.iconst 1, 1) := by decide +kernel
theorem dX11_possibleTogether_21 : decode cX11_possibleTogether 21 = .ok (.if_icmp .ne 15, 3) := by decide +kernel
theorem dX11_possibleTogether_24 : decode cX11_possibleTogether 24 = .ok (.iload_n 2, 1) := by decide +kernel
theorem dX11_possibleTogether_25 : decode cX11_possibleTogether 25 = .ok (.aload_n 0, 1) := by decide +kernel
theorem dX11_possibleTogether_26 : decode cX11_possibleTogether 26 = .ok (.getfield 30, 3) := by decide +kernel
theorem dX11_possibleTogether_29 : decode cX11_possibleTogether 29 = .ok (.getfield 142, 3) := by decide +kernel
theorem dX11_possibleTogether_32 : decode cX11_possibleTogether 32 = .ok (.iload_n 3, 1) := by decide +kernel
theorem dX11_possibleTogether_33 : decode cX11_possibleTogether 33 = .ok (.iaload, 1) := by decide +kernel
theorem dX11_possibleTogether_34 : decode cX11_possibleTogether 34 = .ok (.ior, 1) := by decide +kernel
theorem dX11_possibleTogether_35 : decode cX11_possibleTogether 35 = .ok (.istore_n 2, 1) := by decide +kernel
theorem dX11_possibleTogether_36 : decode cX11_possibleTogether 36 = .ok (.iinc 3 1, 3) := by decide +kernel
theorem dX11_possibleTogether_39 : decode cX11_possibleTogether 39 = .ok (.goto (-35), 3) := by decide +kernel
theorem dX11_possibleTogether_42 : decode cX11_possibleTogether 42 = .ok (.aload_n 0, 1) := by decide +kernel
theorem dX11_possibleTogether_43 : decode cX11_possibleTogether 43 = .ok (.getfield 23, 3) := by decide +kernel
theorem dX11_possibleTogether_46 : decode cX11_possibleTogether 46 = .ok (.iload_n 2, 1) := by decide +kernel
theorem dX11_possibleTogether_47 : decode cX11_possibleTogether 47 = .ok (.aload_n 0, 1) := by decide +kernel
theorem dX11_possibleTogether_48 : decode cX11_possibleTogether 48 = .ok (.getfield 30, 3) := by decide +kernel
theorem dX11_possibleTogether_51 : decode cX11_possibleTogether 51 = .ok (.getfield 174, 3) := by decide +kernel
theorem dX11_possibleTogether_54 : decode cX11_possibleTogether 54 = .ok (.invokevirtual 161, 3) := by decide +kernel
theorem dX11_possibleTogether_57 : decode cX11_possibleTogether 57 = .ok (.ireturn, 1) := by decide +kernel
theorem dX11_witnesses_0 : decode cX11_witnesses 0 = .ok (.aload_n 0, 1) := by decide +kernel
theorem dX11_witnesses_1 : decode cX11_witnesses 1 = .ok (.getfield 23, 3) := by decide +kernel
theorem dX11_witnesses_4 : decode cX11_witnesses 4 = .ok (.getfield 165, 3) := by decide +kernel
theorem dX11_witnesses_7 : decode cX11_witnesses 7 = .ok (.ifCond .ne 6, 3) := by decide +kernel
theorem dX11_witnesses_10 : decode cX11_witnesses 10 = .ok (.bipush (-5), 2) := by decide +kernel
theorem dX11_witnesses_12 : decode cX11_witnesses 12 = .ok (.ireturn, 1) := by decide +kernel
theorem dX11_witnesses_13 : decode cX11_witnesses 13 = .ok (.iconst (-1), 1) := by decide +kernel
theorem dX11_witnesses_14 : decode cX11_witnesses 14 = .ok (.istore_n 1, 1) := by decide +kernel
theorem dX11_witnesses_15 : decode cX11_witnesses 15 = .ok (.iconst 0, 1) := by decide +kernel
theorem dX11_witnesses_16 : decode cX11_witnesses 16 = .ok (.istore_n 2, 1) := by decide +kernel
theorem dX11_witnesses_17 : decode cX11_witnesses 17 = .ok (.iload_n 2, 1) := by decide +kernel
theorem dX11_witnesses_18 : decode cX11_witnesses 18 = .ok (.iconst 1, 1) := by decide +kernel
theorem dX11_witnesses_19 : decode cX11_witnesses 19 = .ok (.aload_n 0, 1) := by decide +kernel
theorem dX11_witnesses_20 : decode cX11_witnesses 20 = .ok (.getfield 23, 3) := by decide +kernel
theorem dX11_witnesses_23 : decode cX11_witnesses 23 = .ok (.getfield 171, 3) := by decide +kernel
theorem dX11_witnesses_26 : decode cX11_witnesses 26 = .ok (.ishl, 1) := by decide +kernel
theorem dX11_witnesses_27 : decode cX11_witnesses 27 = .ok (.if_icmp .ge 34, 3) := by decide +kernel
theorem dX11_witnesses_30 : decode cX11_witnesses 30 = .ok (.iload_n 2, 1) := by decide +kernel
theorem dX11_witnesses_31 : decode cX11_witnesses 31 = .ok (.iload_n 1, 1) := by decide +kernel
theorem dX11_witnesses_32 : decode cX11_witnesses 32 = .ok (.invokestatic 236, 3) := by decide +kernel
theorem dX11_witnesses_35 : decode cX11_witnesses 35 = .ok (.ifCond .eq 20, 3) := by decide +kernel
theorem dX11_witnesses_38 : decode cX11_witnesses 38 = .ok (.aload_n 0, 1) := by decide +kernel
theorem dX11_witnesses_39 : decode cX11_witnesses 39 = .ok (.getfield 23, 3) := by decide +kernel
theorem dX11_witnesses_42 : decode cX11_witnesses 42 = .ok (.aload_n 0, 1) := by decide +kernel
theorem dX11_witnesses_43 : decode cX11_witnesses 43 = .ok (.iload_n 2, 1) := by decide +kernel
theorem dX11_witnesses_44 : decode cX11_witnesses 44 = .ok (.invokevirtual 233, 3) := by decide +kernel
theorem dX11_witnesses_47 : decode cX11_witnesses 47 = .ok (.invokevirtual 148, 3) := by decide +kernel
theorem dX11_witnesses_50 : decode cX11_witnesses 50 = .ok (.ifCond .eq 5, 3) := by decide +kernel
theorem dX11_witnesses_53 : decode cX11_witnesses 53 = .ok (.iload_n 2, 1) := by decide +kernel
theorem dX11_witnesses_54 : decode cX11_witnesses 54 = .ok (.istore_n 1, 1) := by decide +kernel
theorem dX11_witnesses_55 : decode cX11_witnesses 55 = .ok (.iinc 2 1, 3) := by decide +kernel
theorem dX11_witnesses_58 : decode cX11_witnesses 58 = .ok (.goto (-41), 3) := by decide +kernel
theorem dX11_witnesses_61 : decode cX11_witnesses 61 = .ok (.iload_n 1, 1) := by decide +kernel
theorem dX11_witnesses_62 : decode cX11_witnesses 62 = .ok (.ireturn, 1) := by decide +kernel
theorem dX11_parting_0 : decode cX11_parting 0 = .ok (.aload_n 0, 1) := by decide +kernel
theorem dX11_parting_1 : decode cX11_parting 1 = .ok (.iload_n 1, 1) := by decide +kernel
theorem dX11_parting_2 : decode cX11_parting 2 = .ok (.invokevirtual 136, 3) := by decide +kernel
theorem dX11_parting_5 : decode cX11_parting 5 = .ok (.ifCond .eq 11, 3) := by decide +kernel
theorem dX11_parting_8 : decode cX11_parting 8 = .ok (.aload_n 0, 1) := by decide +kernel
theorem dX11_parting_9 : decode cX11_parting 9 = .ok (.iload_n 2, 1) := by decide +kernel
theorem dX11_parting_10 : decode cX11_parting 10 = .ok (.invokevirtual 136, 3) := by decide +kernel
theorem dX11_parting_13 : decode cX11_parting 13 = .ok (.ifCond .ne 6, 3) := by decide +kernel
theorem dX11_parting_16 : decode cX11_parting 16 = .ok (.bipush (-2), 2) := by decide +kernel
theorem dX11_parting_18 : decode cX11_parting 18 = .ok (.ireturn, 1) := by decide +kernel
theorem dX11_parting_19 : decode cX11_parting 19 = .ok (.aload_n 0, 1) := by decide +kernel
theorem dX11_parting_20 : decode cX11_parting 20 = .ok (.getfield 23, 3) := by decide +kernel
theorem dX11_parting_23 : decode cX11_parting 23 = .ok (.aload_n 0, 1) := by decide +kernel
theorem dX11_parting_24 : decode cX11_parting 24 = .ok (.iload_n 1, 1) := by decide +kernel
theorem dX11_parting_25 : decode cX11_parting 25 = .ok (.invokevirtual 139, 3) := by decide +kernel
theorem dX11_parting_28 : decode cX11_parting 28 = .ok (.invokevirtual 145, 3) := by decide +kernel
theorem dX11_parting_31 : decode cX11_parting 31 = .ok (.aload_n 0, 1) := by decide +kernel
theorem dX11_parting_32 : decode cX11_parting 32 = .ok (.getfield 23, 3) := by decide +kernel
theorem dX11_parting_35 : decode cX11_parting 35 = .ok (.aload_n 0, 1) := by decide +kernel
theorem dX11_parting_36 : decode cX11_parting 36 = .ok (.iload_n 2, 1) := by decide +kernel
theorem dX11_parting_37 : decode cX11_parting 37 = .ok (.invokevirtual 139, 3) := by decide +kernel
theorem dX11_parting_40 : decode cX11_parting 40 = .ok (.invokevirtual 145, 3) := by decide +kernel
theorem dX11_parting_43 : decode cX11_parting 43 = .ok (.ixor, 1) := by decide +kernel
theorem dX11_parting_44 : decode cX11_parting 44 = .ok (.ireturn, 1) := by decide +kernel
theorem dX11_isFewer_0 : decode cX11_isFewer 0 = .ok (.iload_n 1, 1) := by decide +kernel
theorem dX11_isFewer_1 : decode cX11_isFewer 1 = .ok (.iconst (-1), 1) := by decide +kernel
theorem dX11_isFewer_2 : decode cX11_isFewer 2 = .ok (.if_icmp .ne 5, 3) := by decide +kernel
theorem dX11_isFewer_5 : decode cX11_isFewer 5 = .ok (.iconst 1, 1) := by decide +kernel
theorem dX11_isFewer_6 : decode cX11_isFewer 6 = .ok (.ireturn, 1) := by decide +kernel
theorem dX11_isFewer_7 : decode cX11_isFewer 7 = .ok (.iload_n 0, 1) := by decide +kernel
theorem dX11_isFewer_8 : decode cX11_isFewer 8 = .ok (.invokestatic 180, 3) := by decide +kernel
theorem dX11_isFewer_11 : decode cX11_isFewer 11 = .ok (.iload_n 1, 1) := by decide +kernel
theorem dX11_isFewer_12 : decode cX11_isFewer 12 = .ok (.invokestatic 180, 3) := by decide +kernel
theorem dX11_isFewer_15 : decode cX11_isFewer 15 = .ok (.isub, 1) := by decide +kernel
theorem dX11_isFewer_16 : decode cX11_isFewer 16 = .ok (.istore_n 2, 1) := by decide +kernel
theorem dX11_isFewer_17 : decode cX11_isFewer 17 = .ok (.iload_n 2, 1) := by decide +kernel
theorem dX11_isFewer_18 : decode cX11_isFewer 18 = .ok (.ifCond .lt 12, 3) := by decide +kernel
theorem dX11_isFewer_21 : decode cX11_isFewer 21 = .ok (.iload_n 2, 1) := by decide +kernel
theorem dX11_isFewer_22 : decode cX11_isFewer 22 = .ok (.ifCond .ne 12, 3) := by decide +kernel
theorem dX11_isFewer_25 : decode cX11_isFewer 25 = .ok (.iload_n 0, 1) := by decide +kernel
theorem dX11_isFewer_26 : decode cX11_isFewer 26 = .ok (.iload_n 1, 1) := by decide +kernel
theorem dX11_isFewer_27 : decode cX11_isFewer 27 = .ok (.if_icmp .ge 7, 3) := by decide +kernel
theorem dX11_isFewer_30 : decode cX11_isFewer 30 = .ok (.iconst 1, 1) := by decide +kernel
theorem dX11_isFewer_31 : decode cX11_isFewer 31 = .ok (.goto 4, 3) := by decide +kernel
theorem dX11_isFewer_34 : decode cX11_isFewer 34 = .ok (.iconst 0, 1) := by decide +kernel
theorem dX11_isFewer_35 : decode cX11_isFewer 35 = .ok (.ireturn, 1) := by decide +kernel
theorem dX11_measure_0 : decode cX11_measure 0 = .ok (.aload_n 0, 1) := by decide +kernel
theorem dX11_measure_1 : decode cX11_measure 1 = .ok (.iload_n 1, 1) := by decide +kernel
theorem dX11_measure_2 : decode cX11_measure 2 = .ok (.invokevirtual 136, 3) := by decide +kernel
theorem dX11_measure_5 : decode cX11_measure 5 = .ok (.ifCond .eq 10, 3) := by decide +kernel
theorem dX11_measure_8 : decode cX11_measure 8 = .ok (.iload_n 2, 1) := by decide +kernel
theorem dX11_measure_9 : decode cX11_measure 9 = .ok (.invokestatic 239, 3) := by decide +kernel
theorem dX11_measure_12 : decode cX11_measure 12 = .ok (.ifCond .ne 6, 3) := by decide +kernel
theorem dX11_measure_15 : decode cX11_measure 15 = .ok (.bipush (-2), 2) := by decide +kernel
theorem dX11_measure_17 : decode cX11_measure 17 = .ok (.ireturn, 1) := by decide +kernel
theorem dX11_measure_18 : decode cX11_measure 18 = .ok (.aload_n 0, 1) := by decide +kernel
theorem dX11_measure_19 : decode cX11_measure 19 = .ok (.iload_n 1, 1) := by decide +kernel
theorem dX11_measure_20 : decode cX11_measure 20 = .ok (.iload_n 2, 1) := by decide +kernel
theorem dX11_measure_21 : decode cX11_measure 21 = .ok (.invokevirtual 242, 3) := by decide +kernel
theorem dX11_measure_24 : decode cX11_measure 24 = .ok (.ireturn, 1) := by decide +kernel
theorem dX11_amount_0 : decode cX11_amount 0 = .ok (.aload_n 0, 1) := by decide +kernel
theorem dX11_amount_1 : decode cX11_amount 1 = .ok (.getfield 23, 3) := by decide +kernel
theorem dX11_amount_4 : decode cX11_amount 4 = .ok (.iload_n 2, 1) := by decide +kernel
theorem dX11_amount_5 : decode cX11_amount 5 = .ok (.aload_n 0, 1) := by decide +kernel
theorem dX11_amount_6 : decode cX11_amount 6 = .ok (.iload_n 1, 1) := by decide +kernel
theorem dX11_amount_7 : decode cX11_amount 7 = .ok (.invokevirtual 139, 3) := by decide +kernel
theorem dX11_amount_10 : decode cX11_amount 10 = .ok (.invokevirtual 245, 3) := by decide +kernel
theorem dX11_amount_13 : decode cX11_amount 13 = .ok (.ireturn, 1) := by decide +kernel
theorem dX11_least_0 : decode cX11_least 0 = .ok (.iload_n 1, 1) := by decide +kernel
theorem dX11_least_1 : decode cX11_least 1 = .ok (.invokestatic 239, 3) := by decide +kernel
theorem dX11_least_4 : decode cX11_least 4 = .ok (.ifCond .eq 28, 3) := by decide +kernel
theorem dX11_least_7 : decode cX11_least 7 = .ok (.aload_n 0, 1) := by decide +kernel
theorem dX11_least_8 : decode cX11_least 8 = .ok (.getfield 23, 3) := by decide +kernel
theorem dX11_least_11 : decode cX11_least 11 = .ok (.iload_n 1, 1) := by decide +kernel
theorem dX11_least_12 : decode cX11_least 12 = .ok (.aload_n 0, 1) := by decide +kernel
theorem dX11_least_13 : decode cX11_least 13 = .ok (.getfield 30, 3) := by decide +kernel
theorem dX11_least_16 : decode cX11_least 16 = .ok (.getfield 142, 3) := by decide +kernel
theorem dX11_least_19 : decode cX11_least 19 = .ok (.aload_n 0, 1) := by decide +kernel
theorem dX11_least_20 : decode cX11_least 20 = .ok (.getfield 30, 3) := by decide +kernel
theorem dX11_least_23 : decode cX11_least 23 = .ok (.getfield 174, 3) := by decide +kernel
theorem dX11_least_26 : decode cX11_least 26 = .ok (.invokevirtual 218, 3) := by decide +kernel
theorem dX11_least_29 : decode cX11_least 29 = .ok (.goto 5, 3) := by decide +kernel
theorem dX11_least_32 : decode cX11_least 32 = .ok (.bipush (-2), 2) := by decide +kernel
theorem dX11_least_34 : decode cX11_least 34 = .ok (.ireturn, 1) := by decide +kernel
theorem dX11_seats_0 : decode cX11_seats 0 = .ok (.aload_n 0, 1) := by decide +kernel
theorem dX11_seats_1 : decode cX11_seats 1 = .ok (.iload_n 1, 1) := by decide +kernel
theorem dX11_seats_2 : decode cX11_seats 2 = .ok (.invokevirtual 136, 3) := by decide +kernel
theorem dX11_seats_5 : decode cX11_seats 5 = .ok (.ifCond .eq 10, 3) := by decide +kernel
theorem dX11_seats_8 : decode cX11_seats 8 = .ok (.iload_n 2, 1) := by decide +kernel
theorem dX11_seats_9 : decode cX11_seats 9 = .ok (.invokestatic 239, 3) := by decide +kernel
theorem dX11_seats_12 : decode cX11_seats 12 = .ok (.ifCond .ne 6, 3) := by decide +kernel
theorem dX11_seats_15 : decode cX11_seats 15 = .ok (.bipush (-2), 2) := by decide +kernel
theorem dX11_seats_17 : decode cX11_seats 17 = .ok (.ireturn, 1) := by decide +kernel
theorem dX11_seats_18 : decode cX11_seats 18 = .ok (.iconst 0, 1) := by decide +kernel
theorem dX11_seats_19 : decode cX11_seats 19 = .ok (.istore_n 3, 1) := by decide +kernel
theorem dX11_seats_20 : decode cX11_seats 20 = .ok (.iconst 0, 1) := by decide +kernel
theorem dX11_seats_21 : decode cX11_seats 21 = .ok (.istore 4, 2) := by decide +kernel
theorem dX11_seats_23 : decode cX11_seats 23 = .ok (.iload 4, 2) := by decide +kernel
theorem dX11_seats_25 : decode cX11_seats 25 = .ok (.aload_n 0, 1) := by decide +kernel
theorem dX11_seats_26 : decode cX11_seats 26 = .ok (.getfield 23, 3) := by decide +kernel
theorem dX11_seats_29 : decode cX11_seats 29 = .ok (.getfield 165, 3) := by decide +kernel
theorem dX11_seats_32 : decode cX11_seats 32 = .ok (.if_icmp .ge 33, 3) := by decide +kernel
theorem dX11_seats_35 : decode cX11_seats 35 = .ok (.aload_n 0, 1) := by decide +kernel
theorem dX11_seats_36 : decode cX11_seats 36 = .ok (.getfield 23, 3) := by decide +kernel
theorem dX11_seats_39 : decode cX11_seats 39 = .ok (.iload_n 2, 1) := by decide +kernel
theorem dX11_seats_40 : decode cX11_seats 40 = .ok (.aload_n 0, 1) := by decide +kernel
theorem dX11_seats_41 : decode cX11_seats 41 = .ok (.getfield 30, 3) := by decide +kernel
theorem dX11_seats_44 : decode cX11_seats 44 = .ok (.getfield 142, 3) := by decide +kernel
theorem dX11_seats_47 : decode cX11_seats 47 = .ok (.iload 4, 2) := by decide +kernel
theorem dX11_seats_49 : decode cX11_seats 49 = .ok (.invokevirtual 218, 3) := by decide +kernel
theorem dX11_seats_52 : decode cX11_seats 52 = .ok (.iload_n 1, 1) := by decide +kernel
theorem dX11_seats_53 : decode cX11_seats 53 = .ok (.if_icmp .ne 6, 3) := by decide +kernel
theorem dX11_seats_56 : decode cX11_seats 56 = .ok (.iinc 3 1, 3) := by decide +kernel
theorem dX11_seats_59 : decode cX11_seats 59 = .ok (.iinc 4 1, 3) := by decide +kernel
theorem dX11_seats_62 : decode cX11_seats 62 = .ok (.goto (-39), 3) := by decide +kernel
theorem dX11_seats_65 : decode cX11_seats 65 = .ok (.iload_n 3, 1) := by decide +kernel
theorem dX11_seats_66 : decode cX11_seats 66 = .ok (.ireturn, 1) := by decide +kernel
theorem dX11_differ_0 : decode cX11_differ 0 = .ok (.iload_n 1, 1) := by decide +kernel
theorem dX11_differ_1 : decode cX11_differ 1 = .ok (.invokestatic 239, 3) := by decide +kernel
theorem dX11_differ_4 : decode cX11_differ 4 = .ok (.ifCond .eq 10, 3) := by decide +kernel
theorem dX11_differ_7 : decode cX11_differ 7 = .ok (.iload_n 2, 1) := by decide +kernel
theorem dX11_differ_8 : decode cX11_differ 8 = .ok (.invokestatic 239, 3) := by decide +kernel
theorem dX11_differ_11 : decode cX11_differ 11 = .ok (.ifCond .ne 6, 3) := by decide +kernel
theorem dX11_differ_14 : decode cX11_differ 14 = .ok (.bipush (-2), 2) := by decide +kernel
theorem dX11_differ_16 : decode cX11_differ 16 = .ok (.ireturn, 1) := by decide +kernel
theorem dX11_differ_17 : decode cX11_differ 17 = .ok (.iconst 0, 1) := by decide +kernel
theorem dX11_differ_18 : decode cX11_differ 18 = .ok (.istore_n 3, 1) := by decide +kernel
theorem dX11_differ_19 : decode cX11_differ 19 = .ok (.iconst 0, 1) := by decide +kernel
theorem dX11_differ_20 : decode cX11_differ 20 = .ok (.istore 4, 2) := by decide +kernel
theorem dX11_differ_22 : decode cX11_differ 22 = .ok (.iload 4, 2) := by decide +kernel
theorem dX11_differ_24 : decode cX11_differ 24 = .ok (.aload_n 0, 1) := by decide +kernel
theorem dX11_differ_25 : decode cX11_differ 25 = .ok (.getfield 23, 3) := by decide +kernel
theorem dX11_differ_28 : decode cX11_differ 28 = .ok (.getfield 171, 3) := by decide +kernel
theorem dX11_differ_31 : decode cX11_differ 31 = .ok (.if_icmp .ge 82, 3) := by decide +kernel
theorem dX11_differ_34 : decode cX11_differ 34 = .ok (.iload 4, 2) := by decide +kernel
theorem dX11_differ_36 : decode cX11_differ 36 = .ok (.iconst 1, 1) := by decide +kernel
theorem dX11_differ_37 : decode cX11_differ 37 = .ok (.iadd, 1) := by decide +kernel
theorem dX11_differ_38 : decode cX11_differ 38 = .ok (.istore 5, 2) := by decide +kernel
theorem dX11_differ_40 : decode cX11_differ 40 = .ok (.iload 5, 2) := by decide +kernel
theorem dX11_differ_42 : decode cX11_differ 42 = .ok (.aload_n 0, 1) := by decide +kernel
theorem dX11_differ_43 : decode cX11_differ 43 = .ok (.getfield 23, 3) := by decide +kernel
theorem dX11_differ_46 : decode cX11_differ 46 = .ok (.getfield 171, 3) := by decide +kernel
theorem dX11_differ_49 : decode cX11_differ 49 = .ok (.if_icmp .ge 58, 3) := by decide +kernel
theorem dX11_differ_52 : decode cX11_differ 52 = .ok (.aload_n 0, 1) := by decide +kernel
theorem dX11_differ_53 : decode cX11_differ 53 = .ok (.iload 4, 2) := by decide +kernel
theorem dX11_differ_55 : decode cX11_differ 55 = .ok (.iload_n 1, 1) := by decide +kernel
theorem dX11_differ_56 : decode cX11_differ 56 = .ok (.invokevirtual 242, 3) := by decide +kernel
theorem dX11_differ_59 : decode cX11_differ 59 = .ok (.aload_n 0, 1) := by decide +kernel
theorem dX11_differ_60 : decode cX11_differ 60 = .ok (.iload 5, 2) := by decide +kernel
theorem dX11_differ_62 : decode cX11_differ 62 = .ok (.iload_n 1, 1) := by decide +kernel
theorem dX11_differ_63 : decode cX11_differ 63 = .ok (.invokevirtual 242, 3) := by decide +kernel
theorem dX11_differ_66 : decode cX11_differ 66 = .ok (.invokestatic 248, 3) := by decide +kernel
theorem dX11_differ_69 : decode cX11_differ 69 = .ok (.istore 6, 2) := by decide +kernel
theorem dX11_differ_71 : decode cX11_differ 71 = .ok (.aload_n 0, 1) := by decide +kernel
theorem dX11_differ_72 : decode cX11_differ 72 = .ok (.iload 4, 2) := by decide +kernel
theorem dX11_differ_74 : decode cX11_differ 74 = .ok (.iload_n 2, 1) := by decide +kernel
theorem dX11_differ_75 : decode cX11_differ 75 = .ok (.invokevirtual 242, 3) := by decide +kernel
theorem dX11_differ_78 : decode cX11_differ 78 = .ok (.aload_n 0, 1) := by decide +kernel
theorem dX11_differ_79 : decode cX11_differ 79 = .ok (.iload 5, 2) := by decide +kernel
theorem dX11_differ_81 : decode cX11_differ 81 = .ok (.iload_n 2, 1) := by decide +kernel
theorem dX11_differ_82 : decode cX11_differ 82 = .ok (.invokevirtual 242, 3) := by decide +kernel
theorem dX11_differ_85 : decode cX11_differ 85 = .ok (.invokestatic 248, 3) := by decide +kernel
theorem dX11_differ_88 : decode cX11_differ 88 = .ok (.istore 7, 2) := by decide +kernel
theorem dX11_differ_90 : decode cX11_differ 90 = .ok (.iload 6, 2) := by decide +kernel
theorem dX11_differ_92 : decode cX11_differ 92 = .ok (.iload 7, 2) := by decide +kernel
theorem dX11_differ_94 : decode cX11_differ 94 = .ok (.imul, 1) := by decide +kernel
theorem dX11_differ_95 : decode cX11_differ 95 = .ok (.ifCond .ge 6, 3) := by decide +kernel
theorem dX11_differ_98 : decode cX11_differ 98 = .ok (.iinc 3 1, 3) := by decide +kernel
theorem dX11_differ_101 : decode cX11_differ 101 = .ok (.iinc 5 1, 3) := by decide +kernel
theorem dX11_differ_104 : decode cX11_differ 104 = .ok (.goto (-64), 3) := by decide +kernel
theorem dX11_differ_107 : decode cX11_differ 107 = .ok (.iinc 4 1, 3) := by decide +kernel
theorem dX11_differ_110 : decode cX11_differ 110 = .ok (.goto (-88), 3) := by decide +kernel
theorem dX11_differ_113 : decode cX11_differ 113 = .ok (.iload_n 3, 1) := by decide +kernel
theorem dX11_differ_114 : decode cX11_differ 114 = .ok (.ireturn, 1) := by decide +kernel
theorem dX11_shown_0 : decode cX11_shown 0 = .ok (.aload_n 0, 1) := by decide +kernel
theorem dX11_shown_1 : decode cX11_shown 1 = .ok (.iload_n 1, 1) := by decide +kernel
theorem dX11_shown_2 : decode cX11_shown 2 = .ok (.invokevirtual 136, 3) := by decide +kernel
theorem dX11_shown_5 : decode cX11_shown 5 = .ok (.ifCond .eq 18, 3) := by decide +kernel
theorem dX11_shown_8 : decode cX11_shown 8 = .ok (.iload_n 2, 1) := by decide +kernel
theorem dX11_shown_9 : decode cX11_shown 9 = .ok (.ifCond .eq 17, 3) := by decide +kernel
theorem dX11_shown_12 : decode cX11_shown 12 = .ok (.aload_n 0, 1) := by decide +kernel
theorem dX11_shown_13 : decode cX11_shown 13 = .ok (.iload_n 2, 1) := by decide +kernel
theorem dX11_shown_14 : decode cX11_shown 14 = .ok (.bipush 10, 2) := by decide +kernel
theorem dX11_shown_16 : decode cX11_shown 16 = .ok (.isub, 1) := by decide +kernel
theorem dX11_shown_17 : decode cX11_shown 17 = .ok (.invokevirtual 136, 3) := by decide +kernel
theorem dX11_shown_20 : decode cX11_shown 20 = .ok (.ifCond .ne 6, 3) := by decide +kernel
theorem dX11_shown_23 : decode cX11_shown 23 = .ok (.bipush (-2), 2) := by decide +kernel
theorem dX11_shown_25 : decode cX11_shown 25 = .ok (.ireturn, 1) := by decide +kernel
theorem dX11_shown_26 : decode cX11_shown 26 = .ok (.aload_n 0, 1) := by decide +kernel
theorem dX11_shown_27 : decode cX11_shown 27 = .ok (.getfield 23, 3) := by decide +kernel
theorem dX11_shown_30 : decode cX11_shown 30 = .ok (.iconst 0, 1) := by decide +kernel
theorem dX11_shown_31 : decode cX11_shown 31 = .ok (.aload_n 0, 1) := by decide +kernel
theorem dX11_shown_32 : decode cX11_shown 32 = .ok (.getfield 30, 3) := by decide +kernel
theorem dX11_shown_35 : decode cX11_shown 35 = .ok (.getfield 142, 3) := by decide +kernel
theorem dX11_shown_38 : decode cX11_shown 38 = .ok (.aload_n 0, 1) := by decide +kernel
theorem dX11_shown_39 : decode cX11_shown 39 = .ok (.getfield 30, 3) := by decide +kernel
theorem dX11_shown_42 : decode cX11_shown 42 = .ok (.getfield 174, 3) := by decide +kernel
theorem dX11_shown_45 : decode cX11_shown 45 = .ok (.invokevirtual 218, 3) := by decide +kernel
theorem dX11_shown_48 : decode cX11_shown 48 = .ok (.iload_n 1, 1) := by decide +kernel
theorem dX11_shown_49 : decode cX11_shown 49 = .ok (.if_icmp .eq 5, 3) := by decide +kernel
theorem dX11_shown_52 : decode cX11_shown 52 = .ok (.iconst (-1), 1) := by decide +kernel
theorem dX11_shown_53 : decode cX11_shown 53 = .ok (.ireturn, 1) := by decide +kernel
theorem dX11_shown_54 : decode cX11_shown 54 = .ok (.aload_n 0, 1) := by decide +kernel
theorem dX11_shown_55 : decode cX11_shown 55 = .ok (.getfield 47, 3) := by decide +kernel
theorem dX11_shown_58 : decode cX11_shown 58 = .ok (.aload_n 0, 1) := by decide +kernel
theorem dX11_shown_59 : decode cX11_shown 59 = .ok (.getfield 23, 3) := by decide +kernel
theorem dX11_shown_62 : decode cX11_shown 62 = .ok (.aload_n 0, 1) := by decide +kernel
theorem dX11_shown_63 : decode cX11_shown 63 = .ok (.getfield 30, 3) := by decide +kernel
theorem dX11_shown_66 : decode cX11_shown 66 = .ok (.iload_n 1, 1) := by decide +kernel
theorem dX11_shown_67 : decode cX11_shown 67 = .ok (.invokevirtual 251, 3) := by decide +kernel
theorem dX11_shown_70 : decode cX11_shown 70 = .ok (.aload_n 0, 1) := by decide +kernel
theorem dX11_shown_71 : decode cX11_shown 71 = .ok (.getfield 47, 3) := by decide +kernel
theorem dX11_shown_74 : decode cX11_shown 74 = .ok (.getfield 255, 3) := by decide +kernel
theorem dX11_shown_77 : decode cX11_shown 77 = .ok (.iconst (-1), 1) := by decide +kernel
theorem dX11_shown_78 : decode cX11_shown 78 = .ok (.if_icmp .ne 5, 3) := by decide +kernel
theorem dX11_shown_81 : decode cX11_shown 81 = .ok (.iconst (-1), 1) := by decide +kernel
theorem dX11_shown_82 : decode cX11_shown 82 = .ok (.ireturn, 1) := by decide +kernel
theorem dX11_shown_83 : decode cX11_shown 83 = .ok (.iload_n 2, 1) := by decide +kernel
theorem dX11_shown_84 : decode cX11_shown 84 = .ok (.ifCond .ne 13, 3) := by decide +kernel
theorem dX11_shown_87 : decode cX11_shown 87 = .ok (.aload_n 0, 1) := by decide +kernel
theorem dX11_shown_88 : decode cX11_shown 88 = .ok (.getfield 47, 3) := by decide +kernel
theorem dX11_shown_91 : decode cX11_shown 91 = .ok (.getfield 255, 3) := by decide +kernel
theorem dX11_shown_94 : decode cX11_shown 94 = .ok (.goto 15, 3) := by decide +kernel
theorem dX11_shown_97 : decode cX11_shown 97 = .ok (.aload_n 0, 1) := by decide +kernel
theorem dX11_shown_98 : decode cX11_shown 98 = .ok (.getfield 47, 3) := by decide +kernel
theorem dX11_shown_101 : decode cX11_shown 101 = .ok (.getfield 258, 3) := by decide +kernel
theorem dX11_shown_104 : decode cX11_shown 104 = .ok (.iload_n 2, 1) := by decide +kernel
theorem dX11_shown_105 : decode cX11_shown 105 = .ok (.bipush 10, 2) := by decide +kernel
theorem dX11_shown_107 : decode cX11_shown 107 = .ok (.isub, 1) := by decide +kernel
theorem dX11_shown_108 : decode cX11_shown 108 = .ok (.iaload, 1) := by decide +kernel
theorem dX11_shown_109 : decode cX11_shown 109 = .ok (.ireturn, 1) := by decide +kernel
theorem dX11_appeals_0 : decode cX11_appeals 0 = .ok (.aload_n 0, 1) := by decide +kernel
theorem dX11_appeals_1 : decode cX11_appeals 1 = .ok (.iload_n 1, 1) := by decide +kernel
theorem dX11_appeals_2 : decode cX11_appeals 2 = .ok (.invokevirtual 136, 3) := by decide +kernel
theorem dX11_appeals_5 : decode cX11_appeals 5 = .ok (.ifCond .eq 19, 3) := by decide +kernel
theorem dX11_appeals_8 : decode cX11_appeals 8 = .ok (.iload_n 2, 1) := by decide +kernel
theorem dX11_appeals_9 : decode cX11_appeals 9 = .ok (.invokestatic 239, 3) := by decide +kernel
theorem dX11_appeals_12 : decode cX11_appeals 12 = .ok (.ifCond .eq 12, 3) := by decide +kernel
theorem dX11_appeals_15 : decode cX11_appeals 15 = .ok (.iload_n 3, 1) := by decide +kernel
theorem dX11_appeals_16 : decode cX11_appeals 16 = .ok (.ifCond .lt 8, 3) := by decide +kernel
theorem dX11_appeals_19 : decode cX11_appeals 19 = .ok (.iload_n 3, 1) := by decide +kernel
theorem dX11_appeals_20 : decode cX11_appeals 20 = .ok (.iconst 1, 1) := by decide +kernel
theorem dX11_appeals_21 : decode cX11_appeals 21 = .ok (.if_icmp .le 6, 3) := by decide +kernel
theorem dX11_appeals_24 : decode cX11_appeals 24 = .ok (.bipush (-2), 2) := by decide +kernel
theorem dX11_appeals_26 : decode cX11_appeals 26 = .ok (.ireturn, 1) := by decide +kernel
theorem dX11_appeals_27 : decode cX11_appeals 27 = .ok (.iload_n 1, 1) := by decide +kernel
theorem dX11_appeals_28 : decode cX11_appeals 28 = .ok (.istore 4, 2) := by decide +kernel
theorem dX11_appeals_30 : decode cX11_appeals 30 = .ok (.iconst 0, 1) := by decide +kernel
theorem dX11_appeals_31 : decode cX11_appeals 31 = .ok (.istore 5, 2) := by decide +kernel
theorem dX11_appeals_33 : decode cX11_appeals 33 = .ok (.iload 5, 2) := by decide +kernel
theorem dX11_appeals_35 : decode cX11_appeals 35 = .ok (.bipush 6, 2) := by decide +kernel
theorem dX11_appeals_37 : decode cX11_appeals 37 = .ok (.if_icmp .ge 31, 3) := by decide +kernel
theorem dX11_appeals_40 : decode cX11_appeals 40 = .ok (.aload_n 0, 1) := by decide +kernel
theorem dX11_appeals_41 : decode cX11_appeals 41 = .ok (.iload 4, 2) := by decide +kernel
theorem dX11_appeals_43 : decode cX11_appeals 43 = .ok (.iload_n 2, 1) := by decide +kernel
theorem dX11_appeals_44 : decode cX11_appeals 44 = .ok (.invokevirtual 261, 3) := by decide +kernel
theorem dX11_appeals_47 : decode cX11_appeals 47 = .ok (.istore 6, 2) := by decide +kernel
theorem dX11_appeals_49 : decode cX11_appeals 49 = .ok (.iload 6, 2) := by decide +kernel
theorem dX11_appeals_51 : decode cX11_appeals 51 = .ok (.iconst (-1), 1) := by decide +kernel
theorem dX11_appeals_52 : decode cX11_appeals 52 = .ok (.if_icmp .ne 6, 3) := by decide +kernel
theorem dX11_appeals_55 : decode cX11_appeals 55 = .ok (.goto 13, 3) := by decide +kernel
theorem dX11_appeals_58 : decode cX11_appeals 58 = .ok (.iload 6, 2) := by decide +kernel
theorem dX11_appeals_60 : decode cX11_appeals 60 = .ok (.istore 4, 2) := by decide +kernel
theorem dX11_appeals_62 : decode cX11_appeals 62 = .ok (.iinc 5 1, 3) := by decide +kernel
theorem dX11_appeals_65 : decode cX11_appeals 65 = .ok (.goto (-32), 3) := by decide +kernel
theorem dX11_appeals_68 : decode cX11_appeals 68 = .ok (.iload_n 3, 1) := by decide +kernel
theorem dX11_appeals_69 : decode cX11_appeals 69 = .ok (.ifCond .ne 8, 3) := by decide +kernel
theorem dX11_appeals_72 : decode cX11_appeals 72 = .ok (.iload 5, 2) := by decide +kernel
theorem dX11_appeals_74 : decode cX11_appeals 74 = .ok (.goto 5, 3) := by decide +kernel
theorem dX11_appeals_77 : decode cX11_appeals 77 = .ok (.iload 4, 2) := by decide +kernel
theorem dX11_appeals_79 : decode cX11_appeals 79 = .ok (.ireturn, 1) := by decide +kernel
theorem dX11_nextAbove_0 : decode cX11_nextAbove 0 = .ok (.aload_n 0, 1) := by decide +kernel
theorem dX11_nextAbove_1 : decode cX11_nextAbove 1 = .ok (.iload_n 1, 1) := by decide +kernel
theorem dX11_nextAbove_2 : decode cX11_nextAbove 2 = .ok (.iload_n 2, 1) := by decide +kernel
theorem dX11_nextAbove_3 : decode cX11_nextAbove 3 = .ok (.invokevirtual 242, 3) := by decide +kernel
theorem dX11_nextAbove_6 : decode cX11_nextAbove 6 = .ok (.istore_n 3, 1) := by decide +kernel
theorem dX11_nextAbove_7 : decode cX11_nextAbove 7 = .ok (.iconst (-1), 1) := by decide +kernel
theorem dX11_nextAbove_8 : decode cX11_nextAbove 8 = .ok (.istore 4, 2) := by decide +kernel
theorem dX11_nextAbove_10 : decode cX11_nextAbove 10 = .ok (.iconst 0, 1) := by decide +kernel
theorem dX11_nextAbove_11 : decode cX11_nextAbove 11 = .ok (.istore 5, 2) := by decide +kernel
theorem dX11_nextAbove_13 : decode cX11_nextAbove 13 = .ok (.iconst 0, 1) := by decide +kernel
theorem dX11_nextAbove_14 : decode cX11_nextAbove 14 = .ok (.istore 6, 2) := by decide +kernel
theorem dX11_nextAbove_16 : decode cX11_nextAbove 16 = .ok (.iload 6, 2) := by decide +kernel
theorem dX11_nextAbove_18 : decode cX11_nextAbove 18 = .ok (.aload_n 0, 1) := by decide +kernel
theorem dX11_nextAbove_19 : decode cX11_nextAbove 19 = .ok (.getfield 23, 3) := by decide +kernel
theorem dX11_nextAbove_22 : decode cX11_nextAbove 22 = .ok (.getfield 171, 3) := by decide +kernel
theorem dX11_nextAbove_25 : decode cX11_nextAbove 25 = .ok (.if_icmp .ge 45, 3) := by decide +kernel
theorem dX11_nextAbove_28 : decode cX11_nextAbove 28 = .ok (.aload_n 0, 1) := by decide +kernel
theorem dX11_nextAbove_29 : decode cX11_nextAbove 29 = .ok (.iload 6, 2) := by decide +kernel
theorem dX11_nextAbove_31 : decode cX11_nextAbove 31 = .ok (.iload_n 2, 1) := by decide +kernel
theorem dX11_nextAbove_32 : decode cX11_nextAbove 32 = .ok (.invokevirtual 242, 3) := by decide +kernel
theorem dX11_nextAbove_35 : decode cX11_nextAbove 35 = .ok (.istore 7, 2) := by decide +kernel
theorem dX11_nextAbove_37 : decode cX11_nextAbove 37 = .ok (.iload 7, 2) := by decide +kernel
theorem dX11_nextAbove_39 : decode cX11_nextAbove 39 = .ok (.iload_n 3, 1) := by decide +kernel
theorem dX11_nextAbove_40 : decode cX11_nextAbove 40 = .ok (.if_icmp .le 24, 3) := by decide +kernel
theorem dX11_nextAbove_43 : decode cX11_nextAbove 43 = .ok (.iload 4, 2) := by decide +kernel
theorem dX11_nextAbove_45 : decode cX11_nextAbove 45 = .ok (.iconst (-1), 1) := by decide +kernel
theorem dX11_nextAbove_46 : decode cX11_nextAbove 46 = .ok (.if_icmp .eq 10, 3) := by decide +kernel
theorem dX11_nextAbove_49 : decode cX11_nextAbove 49 = .ok (.iload 7, 2) := by decide +kernel
theorem dX11_nextAbove_51 : decode cX11_nextAbove 51 = .ok (.iload 5, 2) := by decide +kernel
theorem dX11_nextAbove_53 : decode cX11_nextAbove 53 = .ok (.if_icmp .ge 11, 3) := by decide +kernel
theorem dX11_nextAbove_56 : decode cX11_nextAbove 56 = .ok (.iload 6, 2) := by decide +kernel
theorem dX11_nextAbove_58 : decode cX11_nextAbove 58 = .ok (.istore 4, 2) := by decide +kernel
theorem dX11_nextAbove_60 : decode cX11_nextAbove 60 = .ok (.iload 7, 2) := by decide +kernel
theorem dX11_nextAbove_62 : decode cX11_nextAbove 62 = .ok (.istore 5, 2) := by decide +kernel
theorem dX11_nextAbove_64 : decode cX11_nextAbove 64 = .ok (.iinc 6 1, 3) := by decide +kernel
theorem dX11_nextAbove_67 : decode cX11_nextAbove 67 = .ok (.goto (-51), 3) := by decide +kernel
theorem dX11_nextAbove_70 : decode cX11_nextAbove 70 = .ok (.iload 4, 2) := by decide +kernel
theorem dX11_nextAbove_72 : decode cX11_nextAbove 72 = .ok (.ireturn, 1) := by decide +kernel
theorem dX11_parties_0 : decode cX11_parties 0 = .ok (.aload_n 0, 1) := by decide +kernel
theorem dX11_parties_1 : decode cX11_parties 1 = .ok (.iload_n 1, 1) := by decide +kernel
theorem dX11_parties_2 : decode cX11_parties 2 = .ok (.invokevirtual 136, 3) := by decide +kernel
theorem dX11_parties_5 : decode cX11_parties 5 = .ok (.ifCond .eq 29, 3) := by decide +kernel
theorem dX11_parties_8 : decode cX11_parties 8 = .ok (.aload_n 0, 1) := by decide +kernel
theorem dX11_parties_9 : decode cX11_parties 9 = .ok (.iload_n 2, 1) := by decide +kernel
theorem dX11_parties_10 : decode cX11_parties 10 = .ok (.invokevirtual 136, 3) := by decide +kernel
theorem dX11_parties_13 : decode cX11_parties 13 = .ok (.ifCond .eq 21, 3) := by decide +kernel
theorem dX11_parties_16 : decode cX11_parties 16 = .ok (.iload_n 3, 1) := by decide +kernel
theorem dX11_parties_17 : decode cX11_parties 17 = .ok (.invokestatic 239, 3) := by decide +kernel
theorem dX11_parties_20 : decode cX11_parties 20 = .ok (.ifCond .eq 14, 3) := by decide +kernel
theorem dX11_parties_23 : decode cX11_parties 23 = .ok (.iload 4, 2) := by decide +kernel
theorem dX11_parties_25 : decode cX11_parties 25 = .ok (.ifCond .lt 9, 3) := by decide +kernel
theorem dX11_parties_28 : decode cX11_parties 28 = .ok (.iload 4, 2) := by decide +kernel
theorem dX11_parties_30 : decode cX11_parties 30 = .ok (.iconst 2, 1) := by decide +kernel
theorem dX11_parties_31 : decode cX11_parties 31 = .ok (.if_icmp .le 6, 3) := by decide +kernel
theorem dX11_parties_34 : decode cX11_parties 34 = .ok (.bipush (-2), 2) := by decide +kernel
theorem dX11_parties_36 : decode cX11_parties 36 = .ok (.ireturn, 1) := by decide +kernel
theorem dX11_parties_37 : decode cX11_parties 37 = .ok (.aload_n 0, 1) := by decide +kernel
theorem dX11_parties_38 : decode cX11_parties 38 = .ok (.getfield 23, 3) := by decide +kernel
theorem dX11_parties_41 : decode cX11_parties 41 = .ok (.getfield 165, 3) := by decide +kernel
theorem dX11_parties_44 : decode cX11_parties 44 = .ok (.ifCond .ne 6, 3) := by decide +kernel
theorem dX11_parties_47 : decode cX11_parties 47 = .ok (.bipush (-5), 2) := by decide +kernel
theorem dX11_parties_49 : decode cX11_parties 49 = .ok (.ireturn, 1) := by decide +kernel
theorem dX11_parties_50 : decode cX11_parties 50 = .ok (.aload_n 0, 1) := by decide +kernel
theorem dX11_parties_51 : decode cX11_parties 51 = .ok (.getfield 54, 3) := by decide +kernel
theorem dX11_parties_54 : decode cX11_parties 54 = .ok (.aload_n 0, 1) := by decide +kernel
theorem dX11_parties_55 : decode cX11_parties 55 = .ok (.getfield 23, 3) := by decide +kernel
theorem dX11_parties_58 : decode cX11_parties 58 = .ok (.aload_n 0, 1) := by decide +kernel
theorem dX11_parties_59 : decode cX11_parties 59 = .ok (.getfield 30, 3) := by decide +kernel
theorem dX11_parties_62 : decode cX11_parties 62 = .ok (.iload_n 3, 1) := by decide +kernel
theorem dX11_parties_63 : decode cX11_parties 63 = .ok (.invokevirtual 264, 3) := by decide +kernel
theorem dX11_parties_66 : decode cX11_parties 66 = .ok (.aload_n 0, 1) := by decide +kernel
theorem dX11_parties_67 : decode cX11_parties 67 = .ok (.getfield 54, 3) := by decide +kernel
theorem dX11_parties_70 : decode cX11_parties 70 = .ok (.iload_n 1, 1) := by decide +kernel
theorem dX11_parties_71 : decode cX11_parties 71 = .ok (.iload_n 2, 1) := by decide +kernel
theorem dX11_parties_72 : decode cX11_parties 72 = .ok (.invokevirtual 267, 3) := by decide +kernel
theorem dX11_parties_75 : decode cX11_parties 75 = .ok (.ifCond .ne 5, 3) := by decide +kernel
theorem dX11_parties_78 : decode cX11_parties 78 = .ok (.iconst (-1), 1) := by decide +kernel
theorem dX11_parties_79 : decode cX11_parties 79 = .ok (.ireturn, 1) := by decide +kernel
theorem dX11_parties_80 : decode cX11_parties 80 = .ok (.iload 4, 2) := by decide +kernel
theorem dX11_parties_82 : decode cX11_parties 82 = .ok (.iconst 2, 1) := by decide +kernel
theorem dX11_parties_83 : decode cX11_parties 83 = .ok (.if_icmp .ne 11, 3) := by decide +kernel
theorem dX11_parties_86 : decode cX11_parties 86 = .ok (.aload_n 0, 1) := by decide +kernel
theorem dX11_parties_87 : decode cX11_parties 87 = .ok (.getfield 54, 3) := by decide +kernel
theorem dX11_parties_90 : decode cX11_parties 90 = .ok (.getfield 270, 3) := by decide +kernel
theorem dX11_parties_93 : decode cX11_parties 93 = .ok (.ireturn, 1) := by decide +kernel
theorem dX11_parties_94 : decode cX11_parties 94 = .ok (.aload_n 0, 1) := by decide +kernel
theorem dX11_parties_95 : decode cX11_parties 95 = .ok (.getfield 54, 3) := by decide +kernel
theorem dX11_parties_98 : decode cX11_parties 98 = .ok (.iload 4, 2) := by decide +kernel
theorem dX11_parties_100 : decode cX11_parties 100 = .ok (.ifCond .ne 13, 3) := by decide +kernel
theorem dX11_parties_103 : decode cX11_parties 103 = .ok (.aload_n 0, 1) := by decide +kernel
theorem dX11_parties_104 : decode cX11_parties 104 = .ok (.getfield 54, 3) := by decide +kernel
theorem dX11_parties_107 : decode cX11_parties 107 = .ok (.getfield 273, 3) := by decide +kernel
theorem dX11_parties_110 : decode cX11_parties 110 = .ok (.goto 10, 3) := by decide +kernel
theorem dX11_parties_113 : decode cX11_parties 113 = .ok (.aload_n 0, 1) := by decide +kernel
theorem dX11_parties_114 : decode cX11_parties 114 = .ok (.getfield 54, 3) := by decide +kernel
theorem dX11_parties_117 : decode cX11_parties 117 = .ok (.getfield 276, 3) := by decide +kernel
theorem dX11_parties_120 : decode cX11_parties 120 = .ok (.invokevirtual 279, 3) := by decide +kernel
theorem dX11_parties_123 : decode cX11_parties 123 = .ok (.ireturn, 1) := by decide +kernel
theorem dX11_inform_0 : decode cX11_inform 0 = .ok (.aload_n 0, 1) := by decide +kernel
theorem dX11_inform_1 : decode cX11_inform 1 = .ok (.iload_n 1, 1) := by decide +kernel
theorem dX11_inform_2 : decode cX11_inform 2 = .ok (.invokevirtual 136, 3) := by decide +kernel
theorem dX11_inform_5 : decode cX11_inform 5 = .ok (.ifCond .eq 10, 3) := by decide +kernel
theorem dX11_inform_8 : decode cX11_inform 8 = .ok (.iload_n 2, 1) := by decide +kernel
theorem dX11_inform_9 : decode cX11_inform 9 = .ok (.invokestatic 239, 3) := by decide +kernel
theorem dX11_inform_12 : decode cX11_inform 12 = .ok (.ifCond .ne 6, 3) := by decide +kernel
theorem dX11_inform_15 : decode cX11_inform 15 = .ok (.bipush (-2), 2) := by decide +kernel
theorem dX11_inform_17 : decode cX11_inform 17 = .ok (.ireturn, 1) := by decide +kernel
theorem dX11_inform_18 : decode cX11_inform 18 = .ok (.aload_n 0, 1) := by decide +kernel
theorem dX11_inform_19 : decode cX11_inform 19 = .ok (.getfield 23, 3) := by decide +kernel
theorem dX11_inform_22 : decode cX11_inform 22 = .ok (.getfield 165, 3) := by decide +kernel
theorem dX11_inform_25 : decode cX11_inform 25 = .ok (.ifCond .ne 6, 3) := by decide +kernel
theorem dX11_inform_28 : decode cX11_inform 28 = .ok (.bipush (-5), 2) := by decide +kernel
theorem dX11_inform_30 : decode cX11_inform 30 = .ok (.ireturn, 1) := by decide +kernel
theorem dX11_inform_31 : decode cX11_inform 31 = .ok (.aload_n 0, 1) := by decide +kernel
theorem dX11_inform_32 : decode cX11_inform 32 = .ok (.getfield 23, 3) := by decide +kernel
theorem dX11_inform_35 : decode cX11_inform 35 = .ok (.iload_n 2, 1) := by decide +kernel
theorem dX11_inform_36 : decode cX11_inform 36 = .ok (.aload_n 0, 1) := by decide +kernel
theorem dX11_inform_37 : decode cX11_inform 37 = .ok (.getfield 30, 3) := by decide +kernel
theorem dX11_inform_40 : decode cX11_inform 40 = .ok (.getfield 142, 3) := by decide +kernel
theorem dX11_inform_43 : decode cX11_inform 43 = .ok (.aload_n 0, 1) := by decide +kernel
theorem dX11_inform_44 : decode cX11_inform 44 = .ok (.getfield 30, 3) := by decide +kernel
theorem dX11_inform_47 : decode cX11_inform 47 = .ok (.getfield 174, 3) := by decide +kernel
theorem dX11_inform_50 : decode cX11_inform 50 = .ok (.invokevirtual 218, 3) := by decide +kernel
theorem dX11_inform_53 : decode cX11_inform 53 = .ok (.iload_n 1, 1) := by decide +kernel
theorem dX11_inform_54 : decode cX11_inform 54 = .ok (.if_icmp .ne 6, 3) := by decide +kernel
theorem dX11_inform_57 : decode cX11_inform 57 = .ok (.bipush (-100), 2) := by decide +kernel
theorem dX11_inform_59 : decode cX11_inform 59 = .ok (.ireturn, 1) := by decide +kernel
theorem dX11_inform_60 : decode cX11_inform 60 = .ok (.aload_n 0, 1) := by decide +kernel
theorem dX11_inform_61 : decode cX11_inform 61 = .ok (.getfield 34, 3) := by decide +kernel
theorem dX11_inform_64 : decode cX11_inform 64 = .ok (.aload_n 0, 1) := by decide +kernel
theorem dX11_inform_65 : decode cX11_inform 65 = .ok (.getfield 30, 3) := by decide +kernel
theorem dX11_inform_68 : decode cX11_inform 68 = .ok (.invokevirtual 100, 3) := by decide +kernel
theorem dX11_inform_71 : decode cX11_inform 71 = .ok (.iconst 0, 1) := by decide +kernel
theorem dX11_inform_72 : decode cX11_inform 72 = .ok (.istore_n 3, 1) := by decide +kernel
theorem dX11_inform_73 : decode cX11_inform 73 = .ok (.iload_n 3, 1) := by decide +kernel
theorem dX11_inform_74 : decode cX11_inform 74 = .ok (.aload_n 0, 1) := by decide +kernel
theorem dX11_inform_75 : decode cX11_inform 75 = .ok (.getfield 23, 3) := by decide +kernel
theorem dX11_inform_78 : decode cX11_inform 78 = .ok (.getfield 171, 3) := by decide +kernel
theorem dX11_inform_81 : decode cX11_inform 81 = .ok (.if_icmp .ge 98, 3) := by decide +kernel
theorem dX11_inform_84 : decode cX11_inform 84 = .ok (.iconst 0, 1) := by decide +kernel
theorem dX11_inform_85 : decode cX11_inform 85 = .ok (.istore 4, 2) := by decide +kernel
theorem dX11_inform_87 : decode cX11_inform 87 = .ok (.iload 4, 2) := by decide +kernel
theorem dX11_inform_89 : decode cX11_inform 89 = .ok (.aload_n 0, 1) := by decide +kernel
theorem dX11_inform_90 : decode cX11_inform 90 = .ok (.getfield 23, 3) := by decide +kernel
theorem dX11_inform_93 : decode cX11_inform 93 = .ok (.getfield 168, 3) := by decide +kernel
theorem dX11_inform_96 : decode cX11_inform 96 = .ok (.if_icmp .ge 77, 3) := by decide +kernel
theorem dX11_inform_99 : decode cX11_inform 99 = .ok (.aload_n 0, 1) := by decide +kernel
theorem dX11_inform_100 : decode cX11_inform 100 = .ok (.getfield 34, 3) := by decide +kernel
theorem dX11_inform_103 : decode cX11_inform 103 = .ok (.getfield 142, 3) := by decide +kernel
theorem dX11_inform_106 : decode cX11_inform 106 = .ok (.iload_n 3, 1) := by decide +kernel
theorem dX11_inform_107 : decode cX11_inform 107 = .ok (.dup2, 1) := by decide +kernel
theorem dX11_inform_108 : decode cX11_inform 108 = .ok (.iaload, 1) := by decide +kernel
theorem dX11_inform_109 : decode cX11_inform 109 = .ok (.iconst 1, 1) := by decide +kernel
theorem dX11_inform_110 : decode cX11_inform 110 = .ok (.iload 4, 2) := by decide +kernel
theorem dX11_inform_112 : decode cX11_inform 112 = .ok (.ishl, 1) := by decide +kernel
theorem dX11_inform_113 : decode cX11_inform 113 = .ok (.ior, 1) := by decide +kernel
theorem dX11_inform_114 : decode cX11_inform 114 = .ok (.iastore, 1) := by decide +kernel
theorem dX11_inform_115 : decode cX11_inform 115 = .ok (.aload_n 0, 1) := by decide +kernel
theorem dX11_inform_116 : decode cX11_inform 116 = .ok (.getfield 23, 3) := by decide +kernel
theorem dX11_inform_119 : decode cX11_inform 119 = .ok (.iload_n 2, 1) := by decide +kernel
theorem dX11_inform_120 : decode cX11_inform 120 = .ok (.aload_n 0, 1) := by decide +kernel
theorem dX11_inform_121 : decode cX11_inform 121 = .ok (.getfield 34, 3) := by decide +kernel
theorem dX11_inform_124 : decode cX11_inform 124 = .ok (.getfield 142, 3) := by decide +kernel
theorem dX11_inform_127 : decode cX11_inform 127 = .ok (.aload_n 0, 1) := by decide +kernel
theorem dX11_inform_128 : decode cX11_inform 128 = .ok (.getfield 34, 3) := by decide +kernel
theorem dX11_inform_131 : decode cX11_inform 131 = .ok (.getfield 174, 3) := by decide +kernel
theorem dX11_inform_134 : decode cX11_inform 134 = .ok (.invokevirtual 218, 3) := by decide +kernel
theorem dX11_inform_137 : decode cX11_inform 137 = .ok (.iload_n 1, 1) := by decide +kernel
theorem dX11_inform_138 : decode cX11_inform 138 = .ok (.if_icmp .ne 11, 3) := by decide +kernel
theorem dX11_inform_141 : decode cX11_inform 141 = .ok (.bipush 10, 2) := by decide +kernel
theorem dX11_inform_143 : decode cX11_inform 143 = .ok (.iload_n 3, 1) := by decide +kernel
theorem dX11_inform_144 : decode cX11_inform 144 = .ok (.imul, 1) := by decide +kernel
theorem dX11_inform_145 : decode cX11_inform 145 = .ok (.iload 4, 2) := by decide +kernel
theorem dX11_inform_147 : decode cX11_inform 147 = .ok (.iadd, 1) := by decide +kernel
theorem dX11_inform_148 : decode cX11_inform 148 = .ok (.ireturn, 1) := by decide +kernel
theorem dX11_inform_149 : decode cX11_inform 149 = .ok (.aload_n 0, 1) := by decide +kernel
theorem dX11_inform_150 : decode cX11_inform 150 = .ok (.getfield 34, 3) := by decide +kernel
theorem dX11_inform_153 : decode cX11_inform 153 = .ok (.getfield 142, 3) := by decide +kernel
theorem dX11_inform_156 : decode cX11_inform 156 = .ok (.iload_n 3, 1) := by decide +kernel
theorem dX11_inform_157 : decode cX11_inform 157 = .ok (.aload_n 0, 1) := by decide +kernel
theorem dX11_inform_158 : decode cX11_inform 158 = .ok (.getfield 30, 3) := by decide +kernel
theorem dX11_inform_161 : decode cX11_inform 161 = .ok (.getfield 142, 3) := by decide +kernel
theorem dX11_inform_164 : decode cX11_inform 164 = .ok (.iload_n 3, 1) := by decide +kernel
theorem dX11_inform_165 : decode cX11_inform 165 = .ok (.iaload, 1) := by decide +kernel
theorem dX11_inform_166 : decode cX11_inform 166 = .ok (.iastore, 1) := by decide +kernel
theorem dX11_inform_167 : decode cX11_inform 167 = .ok (.iinc 4 1, 3) := by decide +kernel
theorem dX11_inform_170 : decode cX11_inform 170 = .ok (.goto (-83), 3) := by decide +kernel
theorem dX11_inform_173 : decode cX11_inform 173 = .ok (.iinc 3 1, 3) := by decide +kernel
theorem dX11_inform_176 : decode cX11_inform 176 = .ok (.goto (-103), 3) := by decide +kernel
theorem dX11_inform_179 : decode cX11_inform 179 = .ok (.iconst (-1), 1) := by decide +kernel
theorem dX11_inform_180 : decode cX11_inform 180 = .ok (.ireturn, 1) := by decide +kernel
theorem dX11_trial_0 : decode cX11_trial 0 = .ok (.aload_n 0, 1) := by decide +kernel
theorem dX11_trial_1 : decode cX11_trial 1 = .ok (.iload_n 1, 1) := by decide +kernel
theorem dX11_trial_2 : decode cX11_trial 2 = .ok (.invokevirtual 136, 3) := by decide +kernel
theorem dX11_trial_5 : decode cX11_trial 5 = .ok (.ifCond .eq 12, 3) := by decide +kernel
theorem dX11_trial_8 : decode cX11_trial 8 = .ok (.iload_n 2, 1) := by decide +kernel
theorem dX11_trial_9 : decode cX11_trial 9 = .ok (.ifCond .lt 8, 3) := by decide +kernel
theorem dX11_trial_12 : decode cX11_trial 12 = .ok (.iload_n 2, 1) := by decide +kernel
theorem dX11_trial_13 : decode cX11_trial 13 = .ok (.iconst 1, 1) := by decide +kernel
theorem dX11_trial_14 : decode cX11_trial 14 = .ok (.if_icmp .le 6, 3) := by decide +kernel
theorem dX11_trial_17 : decode cX11_trial 17 = .ok (.bipush (-2), 2) := by decide +kernel
theorem dX11_trial_19 : decode cX11_trial 19 = .ok (.ireturn, 1) := by decide +kernel
theorem dX11_trial_20 : decode cX11_trial 20 = .ok (.aload_n 0, 1) := by decide +kernel
theorem dX11_trial_21 : decode cX11_trial 21 = .ok (.getfield 23, 3) := by decide +kernel
theorem dX11_trial_24 : decode cX11_trial 24 = .ok (.getfield 165, 3) := by decide +kernel
theorem dX11_trial_27 : decode cX11_trial 27 = .ok (.ifCond .ne 6, 3) := by decide +kernel
theorem dX11_trial_30 : decode cX11_trial 30 = .ok (.bipush (-5), 2) := by decide +kernel
theorem dX11_trial_32 : decode cX11_trial 32 = .ok (.ireturn, 1) := by decide +kernel
theorem dX11_trial_33 : decode cX11_trial 33 = .ok (.aload_n 0, 1) := by decide +kernel
theorem dX11_trial_34 : decode cX11_trial 34 = .ok (.iload_n 1, 1) := by decide +kernel
theorem dX11_trial_35 : decode cX11_trial 35 = .ok (.invokevirtual 139, 3) := by decide +kernel
theorem dX11_trial_38 : decode cX11_trial 38 = .ok (.istore_n 3, 1) := by decide +kernel
theorem dX11_trial_39 : decode cX11_trial 39 = .ok (.aload_n 0, 1) := by decide +kernel
theorem dX11_trial_40 : decode cX11_trial 40 = .ok (.getfield 61, 3) := by decide +kernel
theorem dX11_trial_43 : decode cX11_trial 43 = .ok (.aload_n 0, 1) := by decide +kernel
theorem dX11_trial_44 : decode cX11_trial 44 = .ok (.getfield 23, 3) := by decide +kernel
theorem dX11_trial_47 : decode cX11_trial 47 = .ok (.iload_n 3, 1) := by decide +kernel
theorem dX11_trial_48 : decode cX11_trial 48 = .ok (.invokevirtual 282, 3) := by decide +kernel
theorem dX11_trial_51 : decode cX11_trial 51 = .ok (.istore 4, 2) := by decide +kernel
theorem dX11_trial_53 : decode cX11_trial 53 = .ok (.iload 4, 2) := by decide +kernel
theorem dX11_trial_55 : decode cX11_trial 55 = .ok (.iconst (-1), 1) := by decide +kernel
theorem dX11_trial_56 : decode cX11_trial 56 = .ok (.if_icmp .eq 7, 3) := by decide +kernel
theorem dX11_trial_59 : decode cX11_trial 59 = .ok (.iload_n 2, 1) := by decide +kernel
theorem dX11_trial_60 : decode cX11_trial 60 = .ok (.ifCond .ne 6, 3) := by decide +kernel
theorem dX11_trial_63 : decode cX11_trial 63 = .ok (.iload 4, 2) := by decide +kernel
theorem dX11_trial_65 : decode cX11_trial 65 = .ok (.ireturn, 1) := by decide +kernel
theorem dX11_trial_66 : decode cX11_trial 66 = .ok (.iload 4, 2) := by decide +kernel
theorem dX11_trial_68 : decode cX11_trial 68 = .ok (.ifCond .ne 7, 3) := by decide +kernel
theorem dX11_trial_71 : decode cX11_trial 71 = .ok (.iconst (-1), 1) := by decide +kernel
theorem dX11_trial_72 : decode cX11_trial 72 = .ok (.goto 17, 3) := by decide +kernel
theorem dX11_trial_75 : decode cX11_trial 75 = .ok (.aload_n 0, 1) := by decide +kernel
theorem dX11_trial_76 : decode cX11_trial 76 = .ok (.getfield 61, 3) := by decide +kernel
theorem dX11_trial_79 : decode cX11_trial 79 = .ok (.aload_n 0, 1) := by decide +kernel
theorem dX11_trial_80 : decode cX11_trial 80 = .ok (.getfield 23, 3) := by decide +kernel
theorem dX11_trial_83 : decode cX11_trial 83 = .ok (.iload_n 3, 1) := by decide +kernel
theorem dX11_trial_84 : decode cX11_trial 84 = .ok (.iload 4, 2) := by decide +kernel
theorem dX11_trial_86 : decode cX11_trial 86 = .ok (.invokevirtual 285, 3) := by decide +kernel
theorem dX11_trial_89 : decode cX11_trial 89 = .ok (.ireturn, 1) := by decide +kernel
theorem dX11_brief_0 : decode cX11_brief 0 = .ok (.aload_n 0, 1) := by decide +kernel
theorem dX11_brief_1 : decode cX11_brief 1 = .ok (.iload_n 1, 1) := by decide +kernel
theorem dX11_brief_2 : decode cX11_brief 2 = .ok (.invokevirtual 136, 3) := by decide +kernel
theorem dX11_brief_5 : decode cX11_brief 5 = .ok (.ifCond .ne 6, 3) := by decide +kernel
theorem dX11_brief_8 : decode cX11_brief 8 = .ok (.bipush (-2), 2) := by decide +kernel
theorem dX11_brief_10 : decode cX11_brief 10 = .ok (.ireturn, 1) := by decide +kernel
theorem dX11_brief_11 : decode cX11_brief 11 = .ok (.aload_n 0, 1) := by decide +kernel
theorem dX11_brief_12 : decode cX11_brief 12 = .ok (.getfield 23, 3) := by decide +kernel
theorem dX11_brief_15 : decode cX11_brief 15 = .ok (.getfield 165, 3) := by decide +kernel
theorem dX11_brief_18 : decode cX11_brief 18 = .ok (.ifCond .ne 6, 3) := by decide +kernel
theorem dX11_brief_21 : decode cX11_brief 21 = .ok (.bipush (-5), 2) := by decide +kernel
theorem dX11_brief_23 : decode cX11_brief 23 = .ok (.ireturn, 1) := by decide +kernel
theorem dX11_brief_24 : decode cX11_brief 24 = .ok (.iconst (-1), 1) := by decide +kernel
theorem dX11_brief_25 : decode cX11_brief 25 = .ok (.istore_n 2, 1) := by decide +kernel
theorem dX11_brief_26 : decode cX11_brief 26 = .ok (.iconst 0, 1) := by decide +kernel
theorem dX11_brief_27 : decode cX11_brief 27 = .ok (.istore_n 3, 1) := by decide +kernel
theorem dX11_brief_28 : decode cX11_brief 28 = .ok (.iload_n 3, 1) := by decide +kernel
theorem dX11_brief_29 : decode cX11_brief 29 = .ok (.iconst 1, 1) := by decide +kernel
theorem dX11_brief_30 : decode cX11_brief 30 = .ok (.aload_n 0, 1) := by decide +kernel
theorem dX11_brief_31 : decode cX11_brief 31 = .ok (.getfield 23, 3) := by decide +kernel
theorem dX11_brief_34 : decode cX11_brief 34 = .ok (.getfield 168, 3) := by decide +kernel
theorem dX11_brief_37 : decode cX11_brief 37 = .ok (.ishl, 1) := by decide +kernel
theorem dX11_brief_38 : decode cX11_brief 38 = .ok (.if_icmp .ge 54, 3) := by decide +kernel
theorem dX11_brief_41 : decode cX11_brief 41 = .ok (.iload_n 3, 1) := by decide +kernel
theorem dX11_brief_42 : decode cX11_brief 42 = .ok (.iload_n 2, 1) := by decide +kernel
theorem dX11_brief_43 : decode cX11_brief 43 = .ok (.invokestatic 236, 3) := by decide +kernel
theorem dX11_brief_46 : decode cX11_brief 46 = .ok (.ifCond .eq 40, 3) := by decide +kernel
theorem dX11_brief_49 : decode cX11_brief 49 = .ok (.aload_n 0, 1) := by decide +kernel
theorem dX11_brief_50 : decode cX11_brief 50 = .ok (.getfield 23, 3) := by decide +kernel
theorem dX11_brief_53 : decode cX11_brief 53 = .ok (.aload_n 0, 1) := by decide +kernel
theorem dX11_brief_54 : decode cX11_brief 54 = .ok (.getfield 23, 3) := by decide +kernel
theorem dX11_brief_57 : decode cX11_brief 57 = .ok (.aload_n 0, 1) := by decide +kernel
theorem dX11_brief_58 : decode cX11_brief 58 = .ok (.getfield 30, 3) := by decide +kernel
theorem dX11_brief_61 : decode cX11_brief 61 = .ok (.getfield 142, 3) := by decide +kernel
theorem dX11_brief_64 : decode cX11_brief 64 = .ok (.iload_n 1, 1) := by decide +kernel
theorem dX11_brief_65 : decode cX11_brief 65 = .ok (.iaload, 1) := by decide +kernel
theorem dX11_brief_66 : decode cX11_brief 66 = .ok (.iload_n 3, 1) := by decide +kernel
theorem dX11_brief_67 : decode cX11_brief 67 = .ok (.ior, 1) := by decide +kernel
theorem dX11_brief_68 : decode cX11_brief 68 = .ok (.aload_n 0, 1) := by decide +kernel
theorem dX11_brief_69 : decode cX11_brief 69 = .ok (.getfield 30, 3) := by decide +kernel
theorem dX11_brief_72 : decode cX11_brief 72 = .ok (.getfield 174, 3) := by decide +kernel
theorem dX11_brief_75 : decode cX11_brief 75 = .ok (.invokevirtual 161, 3) := by decide +kernel
theorem dX11_brief_78 : decode cX11_brief 78 = .ok (.invokevirtual 148, 3) := by decide +kernel
theorem dX11_brief_81 : decode cX11_brief 81 = .ok (.ifCond .eq 5, 3) := by decide +kernel
theorem dX11_brief_84 : decode cX11_brief 84 = .ok (.iload_n 3, 1) := by decide +kernel
theorem dX11_brief_85 : decode cX11_brief 85 = .ok (.istore_n 2, 1) := by decide +kernel
theorem dX11_brief_86 : decode cX11_brief 86 = .ok (.iinc 3 1, 3) := by decide +kernel
theorem dX11_brief_89 : decode cX11_brief 89 = .ok (.goto (-61), 3) := by decide +kernel
theorem dX11_brief_92 : decode cX11_brief 92 = .ok (.iload_n 2, 1) := by decide +kernel
theorem dX11_brief_93 : decode cX11_brief 93 = .ok (.ireturn, 1) := by decide +kernel
theorem dX11_right_0 : decode cX11_right 0 = .ok (.aload_n 0, 1) := by decide +kernel
theorem dX11_right_1 : decode cX11_right 1 = .ok (.iload_n 1, 1) := by decide +kernel
theorem dX11_right_2 : decode cX11_right 2 = .ok (.invokevirtual 136, 3) := by decide +kernel
theorem dX11_right_5 : decode cX11_right 5 = .ok (.ifCond .ne 6, 3) := by decide +kernel
theorem dX11_right_8 : decode cX11_right 8 = .ok (.bipush (-2), 2) := by decide +kernel
theorem dX11_right_10 : decode cX11_right 10 = .ok (.ireturn, 1) := by decide +kernel
theorem dX11_right_11 : decode cX11_right 11 = .ok (.iconst 0, 1) := by decide +kernel
theorem dX11_right_12 : decode cX11_right 12 = .ok (.istore_n 2, 1) := by decide +kernel
theorem dX11_right_13 : decode cX11_right 13 = .ok (.iconst 0, 1) := by decide +kernel
theorem dX11_right_14 : decode cX11_right 14 = .ok (.istore_n 3, 1) := by decide +kernel
theorem dX11_right_15 : decode cX11_right 15 = .ok (.iload_n 3, 1) := by decide +kernel
theorem dX11_right_16 : decode cX11_right 16 = .ok (.aload_n 0, 1) := by decide +kernel
theorem dX11_right_17 : decode cX11_right 17 = .ok (.getfield 23, 3) := by decide +kernel
theorem dX11_right_20 : decode cX11_right 20 = .ok (.getfield 165, 3) := by decide +kernel
theorem dX11_right_23 : decode cX11_right 23 = .ok (.if_icmp .ge 41, 3) := by decide +kernel
theorem dX11_right_26 : decode cX11_right 26 = .ok (.aload_n 0, 1) := by decide +kernel
theorem dX11_right_27 : decode cX11_right 27 = .ok (.getfield 23, 3) := by decide +kernel
theorem dX11_right_30 : decode cX11_right 30 = .ok (.aload_n 0, 1) := by decide +kernel
theorem dX11_right_31 : decode cX11_right 31 = .ok (.getfield 30, 3) := by decide +kernel
theorem dX11_right_34 : decode cX11_right 34 = .ok (.getfield 142, 3) := by decide +kernel
theorem dX11_right_37 : decode cX11_right 37 = .ok (.iload_n 1, 1) := by decide +kernel
theorem dX11_right_38 : decode cX11_right 38 = .ok (.iaload, 1) := by decide +kernel
theorem dX11_right_39 : decode cX11_right 39 = .ok (.iload_n 3, 1) := by decide +kernel
theorem dX11_right_40 : decode cX11_right 40 = .ok (.invokevirtual 289, 3) := by decide +kernel
theorem dX11_right_43 : decode cX11_right 43 = .ok (.ifCond .eq 15, 3) := by decide +kernel
theorem dX11_right_46 : decode cX11_right 46 = .ok (.iload_n 2, 1) := by decide +kernel
theorem dX11_right_47 : decode cX11_right 47 = .ok (.aload_n 0, 1) := by decide +kernel
theorem dX11_right_48 : decode cX11_right 48 = .ok (.getfield 23, 3) := by decide +kernel
theorem dX11_right_51 : decode cX11_right 51 = .ok (.getfield 120, 3) := by decide +kernel
theorem dX11_right_54 : decode cX11_right 54 = .ok (.iload_n 3, 1) := by decide +kernel
theorem dX11_right_55 : decode cX11_right 55 = .ok (.iaload, 1) := by decide +kernel
theorem dX11_right_56 : decode cX11_right 56 = .ok (.iadd, 1) := by decide +kernel
theorem dX11_right_57 : decode cX11_right 57 = .ok (.istore_n 2, 1) := by decide +kernel
theorem dX11_right_58 : decode cX11_right 58 = .ok (.iinc 3 1, 3) := by decide +kernel
theorem dX11_right_61 : decode cX11_right 61 = .ok (.goto (-46), 3) := by decide +kernel
theorem dX11_right_64 : decode cX11_right 64 = .ok (.iload_n 2, 1) := by decide +kernel
theorem dX11_right_65 : decode cX11_right 65 = .ok (.ireturn, 1) := by decide +kernel
theorem dX11_justice_0 : decode cX11_justice 0 = .ok (.iload_n 1, 1) := by decide +kernel
theorem dX11_justice_1 : decode cX11_justice 1 = .ok (.invokestatic 239, 3) := by decide +kernel
theorem dX11_justice_4 : decode cX11_justice 4 = .ok (.ifCond .ne 6, 3) := by decide +kernel
theorem dX11_justice_7 : decode cX11_justice 7 = .ok (.bipush (-2), 2) := by decide +kernel
theorem dX11_justice_9 : decode cX11_justice 9 = .ok (.ireturn, 1) := by decide +kernel
theorem dX11_justice_10 : decode cX11_justice 10 = .ok (.aload_n 0, 1) := by decide +kernel
theorem dX11_justice_11 : decode cX11_justice 11 = .ok (.getfield 23, 3) := by decide +kernel
theorem dX11_justice_14 : decode cX11_justice 14 = .ok (.getfield 171, 3) := by decide +kernel
theorem dX11_justice_17 : decode cX11_justice 17 = .ok (.ifCond .ne 8, 3) := by decide +kernel
theorem dX11_justice_20 : decode cX11_justice 20 = .ok (.bipush (-5), 2) := by decide +kernel
theorem dX11_justice_22 : decode cX11_justice 22 = .ok (.goto 8, 3) := by decide +kernel
theorem dX11_justice_25 : decode cX11_justice 25 = .ok (.aload_n 0, 1) := by decide +kernel
theorem dX11_justice_26 : decode cX11_justice 26 = .ok (.iload_n 1, 1) := by decide +kernel
theorem dX11_justice_27 : decode cX11_justice 27 = .ok (.invokevirtual 292, 3) := by decide +kernel
theorem dX11_justice_30 : decode cX11_justice 30 = .ok (.ireturn, 1) := by decide +kernel
theorem dX11_justiceBy_0 : decode cX11_justiceBy 0 = .ok (.iconst 0, 1) := by decide +kernel
theorem dX11_justiceBy_1 : decode cX11_justiceBy 1 = .ok (.istore_n 2, 1) := by decide +kernel
theorem dX11_justiceBy_2 : decode cX11_justiceBy 2 = .ok (.iconst 0, 1) := by decide +kernel
theorem dX11_justiceBy_3 : decode cX11_justiceBy 3 = .ok (.istore_n 3, 1) := by decide +kernel
theorem dX11_justiceBy_4 : decode cX11_justiceBy 4 = .ok (.iload_n 3, 1) := by decide +kernel
theorem dX11_justiceBy_5 : decode cX11_justiceBy 5 = .ok (.aload_n 0, 1) := by decide +kernel
theorem dX11_justiceBy_6 : decode cX11_justiceBy 6 = .ok (.getfield 23, 3) := by decide +kernel
theorem dX11_justiceBy_9 : decode cX11_justiceBy 9 = .ok (.getfield 165, 3) := by decide +kernel
theorem dX11_justiceBy_12 : decode cX11_justiceBy 12 = .ok (.if_icmp .ge 69, 3) := by decide +kernel
theorem dX11_justiceBy_15 : decode cX11_justiceBy 15 = .ok (.aload_n 0, 1) := by decide +kernel
theorem dX11_justiceBy_16 : decode cX11_justiceBy 16 = .ok (.getfield 23, 3) := by decide +kernel
theorem dX11_justiceBy_19 : decode cX11_justiceBy 19 = .ok (.iload_n 1, 1) := by decide +kernel
theorem dX11_justiceBy_20 : decode cX11_justiceBy 20 = .ok (.aload_n 0, 1) := by decide +kernel
theorem dX11_justiceBy_21 : decode cX11_justiceBy 21 = .ok (.getfield 30, 3) := by decide +kernel
theorem dX11_justiceBy_24 : decode cX11_justiceBy 24 = .ok (.getfield 142, 3) := by decide +kernel
theorem dX11_justiceBy_27 : decode cX11_justiceBy 27 = .ok (.iload_n 3, 1) := by decide +kernel
theorem dX11_justiceBy_28 : decode cX11_justiceBy 28 = .ok (.invokevirtual 218, 3) := by decide +kernel
theorem dX11_justiceBy_31 : decode cX11_justiceBy 31 = .ok (.istore 4, 2) := by decide +kernel
theorem dX11_justiceBy_33 : decode cX11_justiceBy 33 = .ok (.aload_n 0, 1) := by decide +kernel
theorem dX11_justiceBy_34 : decode cX11_justiceBy 34 = .ok (.iload 4, 2) := by decide +kernel
theorem dX11_justiceBy_36 : decode cX11_justiceBy 36 = .ok (.invokevirtual 136, 3) := by decide +kernel
theorem dX11_justiceBy_39 : decode cX11_justiceBy 39 = .ok (.ifCond .eq 36, 3) := by decide +kernel
theorem dX11_justiceBy_42 : decode cX11_justiceBy 42 = .ok (.aload_n 0, 1) := by decide +kernel
theorem dX11_justiceBy_43 : decode cX11_justiceBy 43 = .ok (.getfield 23, 3) := by decide +kernel
theorem dX11_justiceBy_46 : decode cX11_justiceBy 46 = .ok (.aload_n 0, 1) := by decide +kernel
theorem dX11_justiceBy_47 : decode cX11_justiceBy 47 = .ok (.getfield 30, 3) := by decide +kernel
theorem dX11_justiceBy_50 : decode cX11_justiceBy 50 = .ok (.getfield 142, 3) := by decide +kernel
theorem dX11_justiceBy_53 : decode cX11_justiceBy 53 = .ok (.iload 4, 2) := by decide +kernel
theorem dX11_justiceBy_55 : decode cX11_justiceBy 55 = .ok (.iaload, 1) := by decide +kernel
theorem dX11_justiceBy_56 : decode cX11_justiceBy 56 = .ok (.iload_n 3, 1) := by decide +kernel
theorem dX11_justiceBy_57 : decode cX11_justiceBy 57 = .ok (.invokevirtual 289, 3) := by decide +kernel
theorem dX11_justiceBy_60 : decode cX11_justiceBy 60 = .ok (.ifCond .eq 15, 3) := by decide +kernel
theorem dX11_justiceBy_63 : decode cX11_justiceBy 63 = .ok (.iload_n 2, 1) := by decide +kernel
theorem dX11_justiceBy_64 : decode cX11_justiceBy 64 = .ok (.aload_n 0, 1) := by decide +kernel
theorem dX11_justiceBy_65 : decode cX11_justiceBy 65 = .ok (.getfield 23, 3) := by decide +kernel
theorem dX11_justiceBy_68 : decode cX11_justiceBy 68 = .ok (.getfield 120, 3) := by decide +kernel
theorem dX11_justiceBy_71 : decode cX11_justiceBy 71 = .ok (.iload_n 3, 1) := by decide +kernel
theorem dX11_justiceBy_72 : decode cX11_justiceBy 72 = .ok (.iaload, 1) := by decide +kernel
theorem dX11_justiceBy_73 : decode cX11_justiceBy 73 = .ok (.iadd, 1) := by decide +kernel
theorem dX11_justiceBy_74 : decode cX11_justiceBy 74 = .ok (.istore_n 2, 1) := by decide +kernel
theorem dX11_justiceBy_75 : decode cX11_justiceBy 75 = .ok (.iinc 3 1, 3) := by decide +kernel
theorem dX11_justiceBy_78 : decode cX11_justiceBy 78 = .ok (.goto (-74), 3) := by decide +kernel
theorem dX11_justiceBy_81 : decode cX11_justiceBy 81 = .ok (.iload_n 2, 1) := by decide +kernel
theorem dX11_justiceBy_82 : decode cX11_justiceBy 82 = .ok (.ireturn, 1) := by decide +kernel
theorem dX11_bestLaw_0 : decode cX11_bestLaw 0 = .ok (.aload_n 0, 1) := by decide +kernel
theorem dX11_bestLaw_1 : decode cX11_bestLaw 1 = .ok (.getfield 23, 3) := by decide +kernel
theorem dX11_bestLaw_4 : decode cX11_bestLaw 4 = .ok (.getfield 171, 3) := by decide +kernel
theorem dX11_bestLaw_7 : decode cX11_bestLaw 7 = .ok (.ifCond .ne 6, 3) := by decide +kernel
theorem dX11_bestLaw_10 : decode cX11_bestLaw 10 = .ok (.bipush (-5), 2) := by decide +kernel
theorem dX11_bestLaw_12 : decode cX11_bestLaw 12 = .ok (.ireturn, 1) := by decide +kernel
theorem dX11_bestLaw_13 : decode cX11_bestLaw 13 = .ok (.iconst 0, 1) := by decide +kernel
theorem dX11_bestLaw_14 : decode cX11_bestLaw 14 = .ok (.istore_n 1, 1) := by decide +kernel
theorem dX11_bestLaw_15 : decode cX11_bestLaw 15 = .ok (.aload_n 0, 1) := by decide +kernel
theorem dX11_bestLaw_16 : decode cX11_bestLaw 16 = .ok (.iconst 0, 1) := by decide +kernel
theorem dX11_bestLaw_17 : decode cX11_bestLaw 17 = .ok (.invokevirtual 292, 3) := by decide +kernel
theorem dX11_bestLaw_20 : decode cX11_bestLaw 20 = .ok (.istore_n 2, 1) := by decide +kernel
theorem dX11_bestLaw_21 : decode cX11_bestLaw 21 = .ok (.iconst 1, 1) := by decide +kernel
theorem dX11_bestLaw_22 : decode cX11_bestLaw 22 = .ok (.istore_n 3, 1) := by decide +kernel
theorem dX11_bestLaw_23 : decode cX11_bestLaw 23 = .ok (.iload_n 3, 1) := by decide +kernel
theorem dX11_bestLaw_24 : decode cX11_bestLaw 24 = .ok (.iconst 4, 1) := by decide +kernel
theorem dX11_bestLaw_25 : decode cX11_bestLaw 25 = .ok (.if_icmp .ge 27, 3) := by decide +kernel
theorem dX11_bestLaw_28 : decode cX11_bestLaw 28 = .ok (.aload_n 0, 1) := by decide +kernel
theorem dX11_bestLaw_29 : decode cX11_bestLaw 29 = .ok (.iload_n 3, 1) := by decide +kernel
theorem dX11_bestLaw_30 : decode cX11_bestLaw 30 = .ok (.invokevirtual 292, 3) := by decide +kernel
theorem dX11_bestLaw_33 : decode cX11_bestLaw 33 = .ok (.istore 4, 2) := by decide +kernel
theorem dX11_bestLaw_35 : decode cX11_bestLaw 35 = .ok (.iload 4, 2) := by decide +kernel
theorem dX11_bestLaw_37 : decode cX11_bestLaw 37 = .ok (.iload_n 2, 1) := by decide +kernel
theorem dX11_bestLaw_38 : decode cX11_bestLaw 38 = .ok (.if_icmp .le 8, 3) := by decide +kernel
theorem dX11_bestLaw_41 : decode cX11_bestLaw 41 = .ok (.iload_n 3, 1) := by decide +kernel
theorem dX11_bestLaw_42 : decode cX11_bestLaw 42 = .ok (.istore_n 1, 1) := by decide +kernel
theorem dX11_bestLaw_43 : decode cX11_bestLaw 43 = .ok (.iload 4, 2) := by decide +kernel
theorem dX11_bestLaw_45 : decode cX11_bestLaw 45 = .ok (.istore_n 2, 1) := by decide +kernel
theorem dX11_bestLaw_46 : decode cX11_bestLaw 46 = .ok (.iinc 3 1, 3) := by decide +kernel
theorem dX11_bestLaw_49 : decode cX11_bestLaw 49 = .ok (.goto (-26), 3) := by decide +kernel
theorem dX11_bestLaw_52 : decode cX11_bestLaw 52 = .ok (.iload_n 1, 1) := by decide +kernel
theorem dX11_bestLaw_53 : decode cX11_bestLaw 53 = .ok (.ireturn, 1) := by decide +kernel
theorem dX11_news_0 : decode cX11_news 0 = .ok (.aload_n 0, 1) := by decide +kernel
theorem dX11_news_1 : decode cX11_news 1 = .ok (.iload_n 1, 1) := by decide +kernel
theorem dX11_news_2 : decode cX11_news 2 = .ok (.invokevirtual 136, 3) := by decide +kernel
theorem dX11_news_5 : decode cX11_news 5 = .ok (.ifCond .eq 20, 3) := by decide +kernel
theorem dX11_news_8 : decode cX11_news 8 = .ok (.aload_n 0, 1) := by decide +kernel
theorem dX11_news_9 : decode cX11_news 9 = .ok (.iload_n 2, 1) := by decide +kernel
theorem dX11_news_10 : decode cX11_news 10 = .ok (.invokevirtual 130, 3) := by decide +kernel
theorem dX11_news_13 : decode cX11_news 13 = .ok (.ifCond .eq 12, 3) := by decide +kernel
theorem dX11_news_16 : decode cX11_news 16 = .ok (.aload_n 0, 1) := by decide +kernel
theorem dX11_news_17 : decode cX11_news 17 = .ok (.iload_n 1, 1) := by decide +kernel
theorem dX11_news_18 : decode cX11_news 18 = .ok (.iload_n 2, 1) := by decide +kernel
theorem dX11_news_19 : decode cX11_news 19 = .ok (.invokevirtual 295, 3) := by decide +kernel
theorem dX11_news_22 : decode cX11_news 22 = .ok (.goto 5, 3) := by decide +kernel
theorem dX11_news_25 : decode cX11_news 25 = .ok (.bipush (-2), 2) := by decide +kernel
theorem dX11_news_27 : decode cX11_news 27 = .ok (.ireturn, 1) := by decide +kernel
theorem dX11_daysTill_0 : decode cX11_daysTill 0 = .ok (.aload_n 0, 1) := by decide +kernel
theorem dX11_daysTill_1 : decode cX11_daysTill 1 = .ok (.getfield 34, 3) := by decide +kernel
theorem dX11_daysTill_4 : decode cX11_daysTill 4 = .ok (.aload_n 0, 1) := by decide +kernel
theorem dX11_daysTill_5 : decode cX11_daysTill 5 = .ok (.getfield 30, 3) := by decide +kernel
theorem dX11_daysTill_8 : decode cX11_daysTill 8 = .ok (.invokevirtual 100, 3) := by decide +kernel
theorem dX11_daysTill_11 : decode cX11_daysTill 11 = .ok (.iconst 0, 1) := by decide +kernel
theorem dX11_daysTill_12 : decode cX11_daysTill 12 = .ok (.istore_n 3, 1) := by decide +kernel
theorem dX11_daysTill_13 : decode cX11_daysTill 13 = .ok (.iload_n 3, 1) := by decide +kernel
theorem dX11_daysTill_14 : decode cX11_daysTill 14 = .ok (.bipush 6, 2) := by decide +kernel
theorem dX11_daysTill_16 : decode cX11_daysTill 16 = .ok (.if_icmp .ge 41, 3) := by decide +kernel
theorem dX11_daysTill_19 : decode cX11_daysTill 19 = .ok (.aload_n 0, 1) := by decide +kernel
theorem dX11_daysTill_20 : decode cX11_daysTill 20 = .ok (.getfield 34, 3) := by decide +kernel
theorem dX11_daysTill_23 : decode cX11_daysTill 23 = .ok (.getfield 142, 3) := by decide +kernel
theorem dX11_daysTill_26 : decode cX11_daysTill 26 = .ok (.iload_n 1, 1) := by decide +kernel
theorem dX11_daysTill_27 : decode cX11_daysTill 27 = .ok (.iaload, 1) := by decide +kernel
theorem dX11_daysTill_28 : decode cX11_daysTill 28 = .ok (.iload_n 2, 1) := by decide +kernel
theorem dX11_daysTill_29 : decode cX11_daysTill 29 = .ok (.ishr, 1) := by decide +kernel
theorem dX11_daysTill_30 : decode cX11_daysTill 30 = .ok (.iconst 1, 1) := by decide +kernel
theorem dX11_daysTill_31 : decode cX11_daysTill 31 = .ok (.iand, 1) := by decide +kernel
theorem dX11_daysTill_32 : decode cX11_daysTill 32 = .ok (.iconst 1, 1) := by decide +kernel
theorem dX11_daysTill_33 : decode cX11_daysTill 33 = .ok (.if_icmp .ne 5, 3) := by decide +kernel
theorem dX11_daysTill_36 : decode cX11_daysTill 36 = .ok (.iload_n 3, 1) := by decide +kernel
theorem dX11_daysTill_37 : decode cX11_daysTill 37 = .ok (.ireturn, 1) := by decide +kernel
theorem dX11_daysTill_38 : decode cX11_daysTill 38 = .ok (.aload_n 0, 1) := by decide +kernel
theorem dX11_daysTill_39 : decode cX11_daysTill 39 = .ok (.getfield 34, 3) := by decide +kernel
theorem dX11_daysTill_42 : decode cX11_daysTill 42 = .ok (.aload_n 0, 1) := by decide +kernel
theorem dX11_daysTill_43 : decode cX11_daysTill 43 = .ok (.getfield 23, 3) := by decide +kernel
theorem dX11_daysTill_46 : decode cX11_daysTill 46 = .ok (.iconst 1, 1) := by decide +kernel
theorem dX11_daysTill_47 : decode cX11_daysTill 47 = .ok (.invokevirtual 189, 3) := by decide +kernel
theorem dX11_daysTill_50 : decode cX11_daysTill 50 = .ok (.pop, 1) := by decide +kernel
theorem dX11_daysTill_51 : decode cX11_daysTill 51 = .ok (.iinc 3 1, 3) := by decide +kernel
theorem dX11_daysTill_54 : decode cX11_daysTill 54 = .ok (.goto (-41), 3) := by decide +kernel
theorem dX11_daysTill_57 : decode cX11_daysTill 57 = .ok (.iconst (-1), 1) := by decide +kernel
theorem dX11_daysTill_58 : decode cX11_daysTill 58 = .ok (.ireturn, 1) := by decide +kernel
theorem dX11_latest_0 : decode cX11_latest 0 = .ok (.aload_n 0, 1) := by decide +kernel
theorem dX11_latest_1 : decode cX11_latest 1 = .ok (.iload_n 1, 1) := by decide +kernel
theorem dX11_latest_2 : decode cX11_latest 2 = .ok (.invokevirtual 130, 3) := by decide +kernel
theorem dX11_latest_5 : decode cX11_latest 5 = .ok (.ifCond .ne 6, 3) := by decide +kernel
theorem dX11_latest_8 : decode cX11_latest 8 = .ok (.bipush (-2), 2) := by decide +kernel
theorem dX11_latest_10 : decode cX11_latest 10 = .ok (.ireturn, 1) := by decide +kernel
theorem dX11_latest_11 : decode cX11_latest 11 = .ok (.iconst (-1), 1) := by decide +kernel
theorem dX11_latest_12 : decode cX11_latest 12 = .ok (.istore_n 2, 1) := by decide +kernel
theorem dX11_latest_13 : decode cX11_latest 13 = .ok (.iconst (-1), 1) := by decide +kernel
theorem dX11_latest_14 : decode cX11_latest 14 = .ok (.istore_n 3, 1) := by decide +kernel
theorem dX11_latest_15 : decode cX11_latest 15 = .ok (.iconst 0, 1) := by decide +kernel
theorem dX11_latest_16 : decode cX11_latest 16 = .ok (.istore 4, 2) := by decide +kernel
theorem dX11_latest_18 : decode cX11_latest 18 = .ok (.iload 4, 2) := by decide +kernel
theorem dX11_latest_20 : decode cX11_latest 20 = .ok (.aload_n 0, 1) := by decide +kernel
theorem dX11_latest_21 : decode cX11_latest 21 = .ok (.getfield 23, 3) := by decide +kernel
theorem dX11_latest_24 : decode cX11_latest 24 = .ok (.getfield 171, 3) := by decide +kernel
theorem dX11_latest_27 : decode cX11_latest 27 = .ok (.if_icmp .ge 39, 3) := by decide +kernel
theorem dX11_latest_30 : decode cX11_latest 30 = .ok (.aload_n 0, 1) := by decide +kernel
theorem dX11_latest_31 : decode cX11_latest 31 = .ok (.iload 4, 2) := by decide +kernel
theorem dX11_latest_33 : decode cX11_latest 33 = .ok (.iload_n 1, 1) := by decide +kernel
theorem dX11_latest_34 : decode cX11_latest 34 = .ok (.invokevirtual 295, 3) := by decide +kernel
theorem dX11_latest_37 : decode cX11_latest 37 = .ok (.istore 5, 2) := by decide +kernel
theorem dX11_latest_39 : decode cX11_latest 39 = .ok (.iload 5, 2) := by decide +kernel
theorem dX11_latest_41 : decode cX11_latest 41 = .ok (.iconst (-1), 1) := by decide +kernel
theorem dX11_latest_42 : decode cX11_latest 42 = .ok (.if_icmp .ne 6, 3) := by decide +kernel
theorem dX11_latest_45 : decode cX11_latest 45 = .ok (.iload 4, 2) := by decide +kernel
theorem dX11_latest_47 : decode cX11_latest 47 = .ok (.ireturn, 1) := by decide +kernel
theorem dX11_latest_48 : decode cX11_latest 48 = .ok (.iload 5, 2) := by decide +kernel
theorem dX11_latest_50 : decode cX11_latest 50 = .ok (.iload_n 3, 1) := by decide +kernel
theorem dX11_latest_51 : decode cX11_latest 51 = .ok (.if_icmp .le 9, 3) := by decide +kernel
theorem dX11_latest_54 : decode cX11_latest 54 = .ok (.iload 4, 2) := by decide +kernel
theorem dX11_latest_56 : decode cX11_latest 56 = .ok (.istore_n 2, 1) := by decide +kernel
theorem dX11_latest_57 : decode cX11_latest 57 = .ok (.iload 5, 2) := by decide +kernel
theorem dX11_latest_59 : decode cX11_latest 59 = .ok (.istore_n 3, 1) := by decide +kernel
theorem dX11_latest_60 : decode cX11_latest 60 = .ok (.iinc 4 1, 3) := by decide +kernel
theorem dX11_latest_63 : decode cX11_latest 63 = .ok (.goto (-45), 3) := by decide +kernel
theorem dX11_latest_66 : decode cX11_latest 66 = .ok (.iload_n 2, 1) := by decide +kernel
theorem dX11_latest_67 : decode cX11_latest 67 = .ok (.ireturn, 1) := by decide +kernel
theorem dX11_leastIn_0 : decode cX11_leastIn 0 = .ok (.iload_n 1, 1) := by decide +kernel
theorem dX11_leastIn_1 : decode cX11_leastIn 1 = .ok (.invokestatic 239, 3) := by decide +kernel
theorem dX11_leastIn_4 : decode cX11_leastIn 4 = .ok (.ifCond .ne 6, 3) := by decide +kernel
theorem dX11_leastIn_7 : decode cX11_leastIn 7 = .ok (.bipush (-2), 2) := by decide +kernel
theorem dX11_leastIn_9 : decode cX11_leastIn 9 = .ok (.ireturn, 1) := by decide +kernel
theorem dX11_leastIn_10 : decode cX11_leastIn 10 = .ok (.iload_n 2, 1) := by decide +kernel
theorem dX11_leastIn_11 : decode cX11_leastIn 11 = .ok (.ifCond .lt 9, 3) := by decide +kernel
theorem dX11_leastIn_14 : decode cX11_leastIn 14 = .ok (.iload_n 2, 1) := by decide +kernel
theorem dX11_leastIn_15 : decode cX11_leastIn 15 = .ok (.bipush 60, 2) := by decide +kernel
theorem dX11_leastIn_17 : decode cX11_leastIn 17 = .ok (.if_icmp .le 6, 3) := by decide +kernel
theorem dX11_leastIn_20 : decode cX11_leastIn 20 = .ok (.bipush (-3), 2) := by decide +kernel
theorem dX11_leastIn_22 : decode cX11_leastIn 22 = .ok (.ireturn, 1) := by decide +kernel
theorem dX11_leastIn_23 : decode cX11_leastIn 23 = .ok (.aload_n 0, 1) := by decide +kernel
theorem dX11_leastIn_24 : decode cX11_leastIn 24 = .ok (.getfield 34, 3) := by decide +kernel
theorem dX11_leastIn_27 : decode cX11_leastIn 27 = .ok (.aload_n 0, 1) := by decide +kernel
theorem dX11_leastIn_28 : decode cX11_leastIn 28 = .ok (.getfield 30, 3) := by decide +kernel
theorem dX11_leastIn_31 : decode cX11_leastIn 31 = .ok (.invokevirtual 100, 3) := by decide +kernel
theorem dX11_leastIn_34 : decode cX11_leastIn 34 = .ok (.aload_n 0, 1) := by decide +kernel
theorem dX11_leastIn_35 : decode cX11_leastIn 35 = .ok (.getfield 34, 3) := by decide +kernel
theorem dX11_leastIn_38 : decode cX11_leastIn 38 = .ok (.aload_n 0, 1) := by decide +kernel
theorem dX11_leastIn_39 : decode cX11_leastIn 39 = .ok (.getfield 23, 3) := by decide +kernel
theorem dX11_leastIn_42 : decode cX11_leastIn 42 = .ok (.iload_n 2, 1) := by decide +kernel
theorem dX11_leastIn_43 : decode cX11_leastIn 43 = .ok (.invokevirtual 189, 3) := by decide +kernel
theorem dX11_leastIn_46 : decode cX11_leastIn 46 = .ok (.pop, 1) := by decide +kernel
theorem dX11_leastIn_47 : decode cX11_leastIn 47 = .ok (.aload_n 0, 1) := by decide +kernel
theorem dX11_leastIn_48 : decode cX11_leastIn 48 = .ok (.getfield 23, 3) := by decide +kernel
theorem dX11_leastIn_51 : decode cX11_leastIn 51 = .ok (.iload_n 1, 1) := by decide +kernel
theorem dX11_leastIn_52 : decode cX11_leastIn 52 = .ok (.aload_n 0, 1) := by decide +kernel
theorem dX11_leastIn_53 : decode cX11_leastIn 53 = .ok (.getfield 34, 3) := by decide +kernel
theorem dX11_leastIn_56 : decode cX11_leastIn 56 = .ok (.getfield 142, 3) := by decide +kernel
theorem dX11_leastIn_59 : decode cX11_leastIn 59 = .ok (.aload_n 0, 1) := by decide +kernel
theorem dX11_leastIn_60 : decode cX11_leastIn 60 = .ok (.getfield 34, 3) := by decide +kernel
theorem dX11_leastIn_63 : decode cX11_leastIn 63 = .ok (.getfield 174, 3) := by decide +kernel
theorem dX11_leastIn_66 : decode cX11_leastIn 66 = .ok (.invokevirtual 218, 3) := by decide +kernel
theorem dX11_leastIn_69 : decode cX11_leastIn 69 = .ok (.ireturn, 1) := by decide +kernel
theorem dX11_calm_0 : decode cX11_calm 0 = .ok (.aload_n 0, 1) := by decide +kernel
theorem dX11_calm_1 : decode cX11_calm 1 = .ok (.getfield 34, 3) := by decide +kernel
theorem dX11_calm_4 : decode cX11_calm 4 = .ok (.aload_n 0, 1) := by decide +kernel
theorem dX11_calm_5 : decode cX11_calm 5 = .ok (.getfield 30, 3) := by decide +kernel
theorem dX11_calm_8 : decode cX11_calm 8 = .ok (.invokevirtual 100, 3) := by decide +kernel
theorem dX11_calm_11 : decode cX11_calm 11 = .ok (.aload_n 0, 1) := by decide +kernel
theorem dX11_calm_12 : decode cX11_calm 12 = .ok (.getfield 34, 3) := by decide +kernel
theorem dX11_calm_15 : decode cX11_calm 15 = .ok (.aload_n 0, 1) := by decide +kernel
theorem dX11_calm_16 : decode cX11_calm 16 = .ok (.getfield 23, 3) := by decide +kernel
theorem dX11_calm_19 : decode cX11_calm 19 = .ok (.bipush 60, 2) := by decide +kernel
theorem dX11_calm_21 : decode cX11_calm 21 = .ok (.invokevirtual 189, 3) := by decide +kernel
theorem dX11_calm_24 : decode cX11_calm 24 = .ok (.ireturn, 1) := by decide +kernel
theorem dX11_fitting_0 : decode cX11_fitting 0 = .ok (.aload_n 0, 1) := by decide +kernel
theorem dX11_fitting_1 : decode cX11_fitting 1 = .ok (.iload_n 1, 1) := by decide +kernel
theorem dX11_fitting_2 : decode cX11_fitting 2 = .ok (.invokevirtual 298, 3) := by decide +kernel
theorem dX11_fitting_5 : decode cX11_fitting 5 = .ok (.istore_n 2, 1) := by decide +kernel
theorem dX11_fitting_6 : decode cX11_fitting 6 = .ok (.iload_n 2, 1) := by decide +kernel
theorem dX11_fitting_7 : decode cX11_fitting 7 = .ok (.ifCond .eq 5, 3) := by decide +kernel
theorem dX11_fitting_10 : decode cX11_fitting 10 = .ok (.iload_n 2, 1) := by decide +kernel
theorem dX11_fitting_11 : decode cX11_fitting 11 = .ok (.ireturn, 1) := by decide +kernel
theorem dX11_fitting_12 : decode cX11_fitting 12 = .ok (.iconst 0, 1) := by decide +kernel
theorem dX11_fitting_13 : decode cX11_fitting 13 = .ok (.istore_n 3, 1) := by decide +kernel
theorem dX11_fitting_14 : decode cX11_fitting 14 = .ok (.iconst 0, 1) := by decide +kernel
theorem dX11_fitting_15 : decode cX11_fitting 15 = .ok (.istore 4, 2) := by decide +kernel
theorem dX11_fitting_17 : decode cX11_fitting 17 = .ok (.iload 4, 2) := by decide +kernel
theorem dX11_fitting_19 : decode cX11_fitting 19 = .ok (.iconst 1, 1) := by decide +kernel
theorem dX11_fitting_20 : decode cX11_fitting 20 = .ok (.aload_n 0, 1) := by decide +kernel
theorem dX11_fitting_21 : decode cX11_fitting 21 = .ok (.getfield 23, 3) := by decide +kernel
theorem dX11_fitting_24 : decode cX11_fitting 24 = .ok (.getfield 168, 3) := by decide +kernel
theorem dX11_fitting_27 : decode cX11_fitting 27 = .ok (.ishl, 1) := by decide +kernel
theorem dX11_fitting_28 : decode cX11_fitting 28 = .ok (.if_icmp .ge 27, 3) := by decide +kernel
theorem dX11_fitting_31 : decode cX11_fitting 31 = .ok (.aload_n 0, 1) := by decide +kernel
theorem dX11_fitting_32 : decode cX11_fitting 32 = .ok (.iload 4, 2) := by decide +kernel
theorem dX11_fitting_34 : decode cX11_fitting 34 = .ok (.aload_n 0, 1) := by decide +kernel
theorem dX11_fitting_35 : decode cX11_fitting 35 = .ok (.getfield 67, 3) := by decide +kernel
theorem dX11_fitting_38 : decode cX11_fitting 38 = .ok (.iload_n 1, 1) := by decide +kernel
theorem dX11_fitting_39 : decode cX11_fitting 39 = .ok (.aaload, 1) := by decide +kernel
theorem dX11_fitting_40 : decode cX11_fitting 40 = .ok (.invokevirtual 301, 3) := by decide +kernel
theorem dX11_fitting_43 : decode cX11_fitting 43 = .ok (.ifCond .eq 6, 3) := by decide +kernel
theorem dX11_fitting_46 : decode cX11_fitting 46 = .ok (.iinc 3 1, 3) := by decide +kernel
theorem dX11_fitting_49 : decode cX11_fitting 49 = .ok (.iinc 4 1, 3) := by decide +kernel
theorem dX11_fitting_52 : decode cX11_fitting 52 = .ok (.goto (-35), 3) := by decide +kernel
theorem dX11_fitting_55 : decode cX11_fitting 55 = .ok (.iload_n 3, 1) := by decide +kernel
theorem dX11_fitting_56 : decode cX11_fitting 56 = .ok (.ireturn, 1) := by decide +kernel
theorem dX11_sure_0 : decode cX11_sure 0 = .ok (.aload_n 0, 1) := by decide +kernel
theorem dX11_sure_1 : decode cX11_sure 1 = .ok (.iload_n 1, 1) := by decide +kernel
theorem dX11_sure_2 : decode cX11_sure 2 = .ok (.invokevirtual 298, 3) := by decide +kernel
theorem dX11_sure_5 : decode cX11_sure 5 = .ok (.istore_n 2, 1) := by decide +kernel
theorem dX11_sure_6 : decode cX11_sure 6 = .ok (.iload_n 2, 1) := by decide +kernel
theorem dX11_sure_7 : decode cX11_sure 7 = .ok (.ifCond .eq 5, 3) := by decide +kernel
theorem dX11_sure_10 : decode cX11_sure 10 = .ok (.iload_n 2, 1) := by decide +kernel
theorem dX11_sure_11 : decode cX11_sure 11 = .ok (.ireturn, 1) := by decide +kernel
theorem dX11_sure_12 : decode cX11_sure 12 = .ok (.iconst 0, 1) := by decide +kernel
theorem dX11_sure_13 : decode cX11_sure 13 = .ok (.istore_n 3, 1) := by decide +kernel
theorem dX11_sure_14 : decode cX11_sure 14 = .ok (.iconst 0, 1) := by decide +kernel
theorem dX11_sure_15 : decode cX11_sure 15 = .ok (.istore 4, 2) := by decide +kernel
theorem dX11_sure_17 : decode cX11_sure 17 = .ok (.iconst 0, 1) := by decide +kernel
theorem dX11_sure_18 : decode cX11_sure 18 = .ok (.istore 5, 2) := by decide +kernel
theorem dX11_sure_20 : decode cX11_sure 20 = .ok (.iload 5, 2) := by decide +kernel
theorem dX11_sure_22 : decode cX11_sure 22 = .ok (.iconst 1, 1) := by decide +kernel
theorem dX11_sure_23 : decode cX11_sure 23 = .ok (.aload_n 0, 1) := by decide +kernel
theorem dX11_sure_24 : decode cX11_sure 24 = .ok (.getfield 23, 3) := by decide +kernel
theorem dX11_sure_27 : decode cX11_sure 27 = .ok (.getfield 168, 3) := by decide +kernel
theorem dX11_sure_30 : decode cX11_sure 30 = .ok (.ishl, 1) := by decide +kernel
theorem dX11_sure_31 : decode cX11_sure 31 = .ok (.if_icmp .ge 32, 3) := by decide +kernel
theorem dX11_sure_34 : decode cX11_sure 34 = .ok (.aload_n 0, 1) := by decide +kernel
theorem dX11_sure_35 : decode cX11_sure 35 = .ok (.iload 5, 2) := by decide +kernel
theorem dX11_sure_37 : decode cX11_sure 37 = .ok (.aload_n 0, 1) := by decide +kernel
theorem dX11_sure_38 : decode cX11_sure 38 = .ok (.getfield 67, 3) := by decide +kernel
theorem dX11_sure_41 : decode cX11_sure 41 = .ok (.iload_n 1, 1) := by decide +kernel
theorem dX11_sure_42 : decode cX11_sure 42 = .ok (.aaload, 1) := by decide +kernel
theorem dX11_sure_43 : decode cX11_sure 43 = .ok (.invokevirtual 301, 3) := by decide +kernel
theorem dX11_sure_46 : decode cX11_sure 46 = .ok (.ifCond .eq 11, 3) := by decide +kernel
theorem dX11_sure_49 : decode cX11_sure 49 = .ok (.iload_n 3, 1) := by decide +kernel
theorem dX11_sure_50 : decode cX11_sure 50 = .ok (.iload 5, 2) := by decide +kernel
theorem dX11_sure_52 : decode cX11_sure 52 = .ok (.ior, 1) := by decide +kernel
theorem dX11_sure_53 : decode cX11_sure 53 = .ok (.istore_n 3, 1) := by decide +kernel
theorem dX11_sure_54 : decode cX11_sure 54 = .ok (.iconst 1, 1) := by decide +kernel
theorem dX11_sure_55 : decode cX11_sure 55 = .ok (.istore 4, 2) := by decide +kernel
theorem dX11_sure_57 : decode cX11_sure 57 = .ok (.iinc 5 1, 3) := by decide +kernel
theorem dX11_sure_60 : decode cX11_sure 60 = .ok (.goto (-40), 3) := by decide +kernel
theorem dX11_sure_63 : decode cX11_sure 63 = .ok (.iload 4, 2) := by decide +kernel
theorem dX11_sure_65 : decode cX11_sure 65 = .ok (.ifCond .eq 17, 3) := by decide +kernel
theorem dX11_sure_68 : decode cX11_sure 68 = .ok (.aload_n 0, 1) := by decide +kernel
theorem dX11_sure_69 : decode cX11_sure 69 = .ok (.getfield 23, 3) := by decide +kernel
theorem dX11_sure_72 : decode cX11_sure 72 = .ok (.invokevirtual 305, 3) := by decide +kernel
theorem dX11_sure_75 : decode cX11_sure 75 = .ok (.iload_n 3, 1) := by decide +kernel
theorem dX11_sure_76 : decode cX11_sure 76 = .ok (.iconst (-1), 1) := by decide +kernel
theorem dX11_sure_77 : decode cX11_sure 77 = .ok (.ixor, 1) := by decide +kernel
theorem dX11_sure_78 : decode cX11_sure 78 = .ok (.iand, 1) := by decide +kernel
theorem dX11_sure_79 : decode cX11_sure 79 = .ok (.goto 4, 3) := by decide +kernel
theorem dX11_sure_82 : decode cX11_sure 82 = .ok (.iconst (-1), 1) := by decide +kernel
theorem dX11_sure_83 : decode cX11_sure 83 = .ok (.ireturn, 1) := by decide +kernel
theorem dX11_refusedAsked_0 : decode cX11_refusedAsked 0 = .ok (.iload_n 1, 1) := by decide +kernel
theorem dX11_refusedAsked_1 : decode cX11_refusedAsked 1 = .ok (.invokestatic 200, 3) := by decide +kernel
theorem dX11_refusedAsked_4 : decode cX11_refusedAsked 4 = .ok (.ifCond .ne 6, 3) := by decide +kernel
theorem dX11_refusedAsked_7 : decode cX11_refusedAsked 7 = .ok (.bipush (-2), 2) := by decide +kernel
theorem dX11_refusedAsked_9 : decode cX11_refusedAsked 9 = .ok (.ireturn, 1) := by decide +kernel
theorem dX11_refusedAsked_10 : decode cX11_refusedAsked 10 = .ok (.aload_n 0, 1) := by decide +kernel
theorem dX11_refusedAsked_11 : decode cX11_refusedAsked 11 = .ok (.getfield 67, 3) := by decide +kernel
theorem dX11_refusedAsked_14 : decode cX11_refusedAsked 14 = .ok (.iload_n 1, 1) := by decide +kernel
theorem dX11_refusedAsked_15 : decode cX11_refusedAsked 15 = .ok (.aaload, 1) := by decide +kernel
theorem dX11_refusedAsked_16 : decode cX11_refusedAsked 16 = .ok (.invokevirtual 203, 3) := by decide +kernel
theorem dX11_refusedAsked_19 : decode cX11_refusedAsked 19 = .ok (.ifCond .eq 6, 3) := by decide +kernel
theorem dX11_refusedAsked_22 : decode cX11_refusedAsked 22 = .ok (.bipush (-6), 2) := by decide +kernel
theorem dX11_refusedAsked_24 : decode cX11_refusedAsked 24 = .ok (.ireturn, 1) := by decide +kernel
theorem dX11_refusedAsked_25 : decode cX11_refusedAsked 25 = .ok (.aload_n 0, 1) := by decide +kernel
theorem dX11_refusedAsked_26 : decode cX11_refusedAsked 26 = .ok (.getfield 67, 3) := by decide +kernel
theorem dX11_refusedAsked_29 : decode cX11_refusedAsked 29 = .ok (.iload_n 1, 1) := by decide +kernel
theorem dX11_refusedAsked_30 : decode cX11_refusedAsked 30 = .ok (.aaload, 1) := by decide +kernel
theorem dX11_refusedAsked_31 : decode cX11_refusedAsked 31 = .ok (.getfield 211, 3) := by decide +kernel
theorem dX11_refusedAsked_34 : decode cX11_refusedAsked 34 = .ok (.istore_n 2, 1) := by decide +kernel
theorem dX11_refusedAsked_35 : decode cX11_refusedAsked 35 = .ok (.iload_n 2, 1) := by decide +kernel
theorem dX11_refusedAsked_36 : decode cX11_refusedAsked 36 = .ok (.iconst 1, 1) := by decide +kernel
theorem dX11_refusedAsked_37 : decode cX11_refusedAsked 37 = .ok (.if_icmp .lt 9, 3) := by decide +kernel
theorem dX11_refusedAsked_40 : decode cX11_refusedAsked 40 = .ok (.iload_n 2, 1) := by decide +kernel
theorem dX11_refusedAsked_41 : decode cX11_refusedAsked 41 = .ok (.bipush 8, 2) := by decide +kernel
theorem dX11_refusedAsked_43 : decode cX11_refusedAsked 43 = .ok (.if_icmp .le 6, 3) := by decide +kernel
theorem dX11_refusedAsked_46 : decode cX11_refusedAsked 46 = .ok (.bipush (-4), 2) := by decide +kernel
theorem dX11_refusedAsked_48 : decode cX11_refusedAsked 48 = .ok (.ireturn, 1) := by decide +kernel
theorem dX11_refusedAsked_49 : decode cX11_refusedAsked 49 = .ok (.iconst 0, 1) := by decide +kernel
theorem dX11_refusedAsked_50 : decode cX11_refusedAsked 50 = .ok (.istore_n 3, 1) := by decide +kernel
theorem dX11_refusedAsked_51 : decode cX11_refusedAsked 51 = .ok (.iload_n 3, 1) := by decide +kernel
theorem dX11_refusedAsked_52 : decode cX11_refusedAsked 52 = .ok (.iload_n 2, 1) := by decide +kernel
theorem dX11_refusedAsked_53 : decode cX11_refusedAsked 53 = .ok (.if_icmp .ge 46, 3) := by decide +kernel
theorem dX11_refusedAsked_56 : decode cX11_refusedAsked 56 = .ok (.aload_n 0, 1) := by decide +kernel
theorem dX11_refusedAsked_57 : decode cX11_refusedAsked 57 = .ok (.getfield 67, 3) := by decide +kernel
theorem dX11_refusedAsked_60 : decode cX11_refusedAsked 60 = .ok (.iload_n 1, 1) := by decide +kernel
theorem dX11_refusedAsked_61 : decode cX11_refusedAsked 61 = .ok (.aaload, 1) := by decide +kernel
theorem dX11_refusedAsked_62 : decode cX11_refusedAsked 62 = .ok (.getfield 309, 3) := by decide +kernel
theorem dX11_refusedAsked_65 : decode cX11_refusedAsked 65 = .ok (.iload_n 3, 1) := by decide +kernel
theorem dX11_refusedAsked_66 : decode cX11_refusedAsked 66 = .ok (.laload, 1) := by decide +kernel
theorem dX11_refusedAsked_67 : decode cX11_refusedAsked 67 = .ok (.lstore 4, 2) := by decide +kernel
theorem dX11_refusedAsked_69 : decode cX11_refusedAsked 69 = .ok (.lload 4, 2) := by decide +kernel
theorem dX11_refusedAsked_71 : decode cX11_refusedAsked 71 = .ok (.lconst 0, 1) := by decide +kernel
theorem dX11_refusedAsked_72 : decode cX11_refusedAsked 72 = .ok (.lcmp, 1) := by decide +kernel
theorem dX11_refusedAsked_73 : decode cX11_refusedAsked 73 = .ok (.ifCond .lt 17, 3) := by decide +kernel
theorem dX11_refusedAsked_76 : decode cX11_refusedAsked 76 = .ok (.lload 4, 2) := by decide +kernel
theorem dX11_refusedAsked_78 : decode cX11_refusedAsked 78 = .ok (.aload_n 0, 1) := by decide +kernel
theorem dX11_refusedAsked_79 : decode cX11_refusedAsked 79 = .ok (.getfield 23, 3) := by decide +kernel
theorem dX11_refusedAsked_82 : decode cX11_refusedAsked 82 = .ok (.getfield 168, 3) := by decide +kernel
theorem dX11_refusedAsked_85 : decode cX11_refusedAsked 85 = .ok (.i2l, 1) := by decide +kernel
theorem dX11_refusedAsked_86 : decode cX11_refusedAsked 86 = .ok (.lcmp, 1) := by decide +kernel
theorem dX11_refusedAsked_87 : decode cX11_refusedAsked 87 = .ok (.ifCond .lt 6, 3) := by decide +kernel
theorem dX11_refusedAsked_90 : decode cX11_refusedAsked 90 = .ok (.bipush (-3), 2) := by decide +kernel
theorem dX11_refusedAsked_92 : decode cX11_refusedAsked 92 = .ok (.ireturn, 1) := by decide +kernel
theorem dX11_refusedAsked_93 : decode cX11_refusedAsked 93 = .ok (.iinc 3 1, 3) := by decide +kernel
theorem dX11_refusedAsked_96 : decode cX11_refusedAsked 96 = .ok (.goto (-45), 3) := by decide +kernel
theorem dX11_refusedAsked_99 : decode cX11_refusedAsked 99 = .ok (.aload_n 0, 1) := by decide +kernel
theorem dX11_refusedAsked_100 : decode cX11_refusedAsked 100 = .ok (.getfield 23, 3) := by decide +kernel
theorem dX11_refusedAsked_103 : decode cX11_refusedAsked 103 = .ok (.getfield 165, 3) := by decide +kernel
theorem dX11_refusedAsked_106 : decode cX11_refusedAsked 106 = .ok (.ifCond .ne 8, 3) := by decide +kernel
theorem dX11_refusedAsked_109 : decode cX11_refusedAsked 109 = .ok (.bipush (-5), 2) := by decide +kernel
theorem dX11_refusedAsked_111 : decode cX11_refusedAsked 111 = .ok (.goto 4, 3) := by decide +kernel
theorem dX11_refusedAsked_114 : decode cX11_refusedAsked 114 = .ok (.iconst 0, 1) := by decide +kernel
theorem dX11_refusedAsked_115 : decode cX11_refusedAsked 115 = .ok (.ireturn, 1) := by decide +kernel
theorem dX11_isFitting_0 : decode cX11_isFitting 0 = .ok (.aload_n 0, 1) := by decide +kernel
theorem dX11_isFitting_1 : decode cX11_isFitting 1 = .ok (.getfield 23, 3) := by decide +kernel
theorem dX11_isFitting_4 : decode cX11_isFitting 4 = .ok (.iload_n 1, 1) := by decide +kernel
theorem dX11_isFitting_5 : decode cX11_isFitting 5 = .ok (.aload_n 0, 1) := by decide +kernel
theorem dX11_isFitting_6 : decode cX11_isFitting 6 = .ok (.getfield 30, 3) := by decide +kernel
theorem dX11_isFitting_9 : decode cX11_isFitting 9 = .ok (.getfield 174, 3) := by decide +kernel
theorem dX11_isFitting_12 : decode cX11_isFitting 12 = .ok (.invokevirtual 161, 3) := by decide +kernel
theorem dX11_isFitting_15 : decode cX11_isFitting 15 = .ok (.istore_n 3, 1) := by decide +kernel
theorem dX11_isFitting_16 : decode cX11_isFitting 16 = .ok (.iconst 0, 1) := by decide +kernel
theorem dX11_isFitting_17 : decode cX11_isFitting 17 = .ok (.istore 4, 2) := by decide +kernel
theorem dX11_isFitting_19 : decode cX11_isFitting 19 = .ok (.iload 4, 2) := by decide +kernel
theorem dX11_isFitting_21 : decode cX11_isFitting 21 = .ok (.aload_n 2, 1) := by decide +kernel
theorem dX11_isFitting_22 : decode cX11_isFitting 22 = .ok (.getfield 211, 3) := by decide +kernel
theorem dX11_isFitting_25 : decode cX11_isFitting 25 = .ok (.if_icmp .ge 62, 3) := by decide +kernel
theorem dX11_isFitting_28 : decode cX11_isFitting 28 = .ok (.aload_n 2, 1) := by decide +kernel
theorem dX11_isFitting_29 : decode cX11_isFitting 29 = .ok (.getfield 309, 3) := by decide +kernel
theorem dX11_isFitting_32 : decode cX11_isFitting 32 = .ok (.iload 4, 2) := by decide +kernel
theorem dX11_isFitting_34 : decode cX11_isFitting 34 = .ok (.laload, 1) := by decide +kernel
theorem dX11_isFitting_35 : decode cX11_isFitting 35 = .ok (.l2i, 1) := by decide +kernel
theorem dX11_isFitting_36 : decode cX11_isFitting 36 = .ok (.istore 5, 2) := by decide +kernel
theorem dX11_isFitting_38 : decode cX11_isFitting 38 = .ok (.aload_n 0, 1) := by decide +kernel
theorem dX11_isFitting_39 : decode cX11_isFitting 39 = .ok (.iload 5, 2) := by decide +kernel
theorem dX11_isFitting_41 : decode cX11_isFitting 41 = .ok (.invokevirtual 130, 3) := by decide +kernel
theorem dX11_isFitting_44 : decode cX11_isFitting 44 = .ok (.ifCond .eq 16, 3) := by decide +kernel
theorem dX11_isFitting_47 : decode cX11_isFitting 47 = .ok (.aload_n 0, 1) := by decide +kernel
theorem dX11_isFitting_48 : decode cX11_isFitting 48 = .ok (.getfield 23, 3) := by decide +kernel
theorem dX11_isFitting_51 : decode cX11_isFitting 51 = .ok (.iload 5, 2) := by decide +kernel
theorem dX11_isFitting_53 : decode cX11_isFitting 53 = .ok (.iload_n 3, 1) := by decide +kernel
theorem dX11_isFitting_54 : decode cX11_isFitting 54 = .ok (.invokevirtual 157, 3) := by decide +kernel
theorem dX11_isFitting_57 : decode cX11_isFitting 57 = .ok (.ifCond .eq 5, 3) := by decide +kernel
theorem dX11_isFitting_60 : decode cX11_isFitting 60 = .ok (.iconst 0, 1) := by decide +kernel
theorem dX11_isFitting_61 : decode cX11_isFitting 61 = .ok (.ireturn, 1) := by decide +kernel
theorem dX11_isFitting_62 : decode cX11_isFitting 62 = .ok (.iload_n 3, 1) := by decide +kernel
theorem dX11_isFitting_63 : decode cX11_isFitting 63 = .ok (.aload_n 0, 1) := by decide +kernel
theorem dX11_isFitting_64 : decode cX11_isFitting 64 = .ok (.getfield 23, 3) := by decide +kernel
theorem dX11_isFitting_67 : decode cX11_isFitting 67 = .ok (.iload 5, 2) := by decide +kernel
theorem dX11_isFitting_69 : decode cX11_isFitting 69 = .ok (.aload_n 0, 1) := by decide +kernel
theorem dX11_isFitting_70 : decode cX11_isFitting 70 = .ok (.getfield 30, 3) := by decide +kernel
theorem dX11_isFitting_73 : decode cX11_isFitting 73 = .ok (.getfield 174, 3) := by decide +kernel
theorem dX11_isFitting_76 : decode cX11_isFitting 76 = .ok (.invokevirtual 312, 3) := by decide +kernel
theorem dX11_isFitting_79 : decode cX11_isFitting 79 = .ok (.iand, 1) := by decide +kernel
theorem dX11_isFitting_80 : decode cX11_isFitting 80 = .ok (.istore_n 3, 1) := by decide +kernel
theorem dX11_isFitting_81 : decode cX11_isFitting 81 = .ok (.iinc 4 1, 3) := by decide +kernel
theorem dX11_isFitting_84 : decode cX11_isFitting 84 = .ok (.goto (-65), 3) := by decide +kernel
theorem dX11_isFitting_87 : decode cX11_isFitting 87 = .ok (.iconst 1, 1) := by decide +kernel
theorem dX11_isFitting_88 : decode cX11_isFitting 88 = .ok (.ireturn, 1) := by decide +kernel
theorem dX11_questions_0 : decode cX11_questions 0 = .ok (.aload_n 0, 1) := by decide +kernel
theorem dX11_questions_1 : decode cX11_questions 1 = .ok (.iload_n 1, 1) := by decide +kernel
theorem dX11_questions_2 : decode cX11_questions 2 = .ok (.invokevirtual 136, 3) := by decide +kernel
theorem dX11_questions_5 : decode cX11_questions 5 = .ok (.ifCond .ne 6, 3) := by decide +kernel
theorem dX11_questions_8 : decode cX11_questions 8 = .ok (.bipush (-2), 2) := by decide +kernel
theorem dX11_questions_10 : decode cX11_questions 10 = .ok (.ireturn, 1) := by decide +kernel
theorem dX11_questions_11 : decode cX11_questions 11 = .ok (.iload_n 2, 1) := by decide +kernel
theorem dX11_questions_12 : decode cX11_questions 12 = .ok (.iconst 1, 1) := by decide +kernel
theorem dX11_questions_13 : decode cX11_questions 13 = .ok (.if_icmp .lt 8, 3) := by decide +kernel
theorem dX11_questions_16 : decode cX11_questions 16 = .ok (.iload_n 2, 1) := by decide +kernel
theorem dX11_questions_17 : decode cX11_questions 17 = .ok (.iconst 4, 1) := by decide +kernel
theorem dX11_questions_18 : decode cX11_questions 18 = .ok (.if_icmp .le 6, 3) := by decide +kernel
theorem dX11_questions_21 : decode cX11_questions 21 = .ok (.bipush (-3), 2) := by decide +kernel
theorem dX11_questions_23 : decode cX11_questions 23 = .ok (.ireturn, 1) := by decide +kernel
theorem dX11_questions_24 : decode cX11_questions 24 = .ok (.aload_n 0, 1) := by decide +kernel
theorem dX11_questions_25 : decode cX11_questions 25 = .ok (.getfield 23, 3) := by decide +kernel
theorem dX11_questions_28 : decode cX11_questions 28 = .ok (.getfield 165, 3) := by decide +kernel
theorem dX11_questions_31 : decode cX11_questions 31 = .ok (.ifCond .ne 8, 3) := by decide +kernel
theorem dX11_questions_34 : decode cX11_questions 34 = .ok (.bipush (-5), 2) := by decide +kernel
theorem dX11_questions_36 : decode cX11_questions 36 = .ok (.goto 13, 3) := by decide +kernel
theorem dX11_questions_39 : decode cX11_questions 39 = .ok (.aload_n 0, 1) := by decide +kernel
theorem dX11_questions_40 : decode cX11_questions 40 = .ok (.aload_n 0, 1) := by decide +kernel
theorem dX11_questions_41 : decode cX11_questions 41 = .ok (.iload_n 1, 1) := by decide +kernel
theorem dX11_questions_42 : decode cX11_questions 42 = .ok (.invokevirtual 139, 3) := by decide +kernel
theorem dX11_questions_45 : decode cX11_questions 45 = .ok (.iload_n 2, 1) := by decide +kernel
theorem dX11_questions_46 : decode cX11_questions 46 = .ok (.invokevirtual 315, 3) := by decide +kernel
theorem dX11_questions_49 : decode cX11_questions 49 = .ok (.ireturn, 1) := by decide +kernel
theorem dX11_rowsToAsk_0 : decode cX11_rowsToAsk 0 = .ok (.aload_n 0, 1) := by decide +kernel
theorem dX11_rowsToAsk_1 : decode cX11_rowsToAsk 1 = .ok (.getfield 23, 3) := by decide +kernel
theorem dX11_rowsToAsk_4 : decode cX11_rowsToAsk 4 = .ok (.invokevirtual 305, 3) := by decide +kernel
theorem dX11_rowsToAsk_7 : decode cX11_rowsToAsk 7 = .ok (.aload_n 0, 1) := by decide +kernel
theorem dX11_rowsToAsk_8 : decode cX11_rowsToAsk 8 = .ok (.getfield 23, 3) := by decide +kernel
theorem dX11_rowsToAsk_11 : decode cX11_rowsToAsk 11 = .ok (.iload_n 1, 1) := by decide +kernel
theorem dX11_rowsToAsk_12 : decode cX11_rowsToAsk 12 = .ok (.invokevirtual 145, 3) := by decide +kernel
theorem dX11_rowsToAsk_15 : decode cX11_rowsToAsk 15 = .ok (.iconst (-1), 1) := by decide +kernel
theorem dX11_rowsToAsk_16 : decode cX11_rowsToAsk 16 = .ok (.ixor, 1) := by decide +kernel
theorem dX11_rowsToAsk_17 : decode cX11_rowsToAsk 17 = .ok (.iand, 1) := by decide +kernel
theorem dX11_rowsToAsk_18 : decode cX11_rowsToAsk 18 = .ok (.istore_n 3, 1) := by decide +kernel
theorem dX11_rowsToAsk_19 : decode cX11_rowsToAsk 19 = .ok (.iload_n 2, 1) := by decide +kernel
theorem dX11_rowsToAsk_20 : decode cX11_rowsToAsk 20 = .ok (.iconst 1, 1) := by decide +kernel
theorem dX11_rowsToAsk_21 : decode cX11_rowsToAsk 21 = .ok (.if_icmp .gt 8, 3) := by decide +kernel
theorem dX11_rowsToAsk_24 : decode cX11_rowsToAsk 24 = .ok (.iload_n 3, 1) := by decide +kernel
theorem dX11_rowsToAsk_25 : decode cX11_rowsToAsk 25 = .ok (.invokestatic 180, 3) := by decide +kernel
theorem dX11_rowsToAsk_28 : decode cX11_rowsToAsk 28 = .ok (.ireturn, 1) := by decide +kernel
theorem dX11_rowsToAsk_29 : decode cX11_rowsToAsk 29 = .ok (.iconst 0, 1) := by decide +kernel
theorem dX11_rowsToAsk_30 : decode cX11_rowsToAsk 30 = .ok (.istore 4, 2) := by decide +kernel
theorem dX11_rowsToAsk_32 : decode cX11_rowsToAsk 32 = .ok (.iconst 0, 1) := by decide +kernel
theorem dX11_rowsToAsk_33 : decode cX11_rowsToAsk 33 = .ok (.istore 5, 2) := by decide +kernel
theorem dX11_rowsToAsk_35 : decode cX11_rowsToAsk 35 = .ok (.iload 5, 2) := by decide +kernel
theorem dX11_rowsToAsk_37 : decode cX11_rowsToAsk 37 = .ok (.aload_n 0, 1) := by decide +kernel
theorem dX11_rowsToAsk_38 : decode cX11_rowsToAsk 38 = .ok (.getfield 23, 3) := by decide +kernel
theorem dX11_rowsToAsk_41 : decode cX11_rowsToAsk 41 = .ok (.getfield 168, 3) := by decide +kernel
theorem dX11_rowsToAsk_44 : decode cX11_rowsToAsk 44 = .ok (.if_icmp .ge 49, 3) := by decide +kernel
theorem dX11_rowsToAsk_47 : decode cX11_rowsToAsk 47 = .ok (.iload_n 3, 1) := by decide +kernel
theorem dX11_rowsToAsk_48 : decode cX11_rowsToAsk 48 = .ok (.iload 5, 2) := by decide +kernel
theorem dX11_rowsToAsk_50 : decode cX11_rowsToAsk 50 = .ok (.ishr, 1) := by decide +kernel
theorem dX11_rowsToAsk_51 : decode cX11_rowsToAsk 51 = .ok (.iconst 1, 1) := by decide +kernel
theorem dX11_rowsToAsk_52 : decode cX11_rowsToAsk 52 = .ok (.iand, 1) := by decide +kernel
theorem dX11_rowsToAsk_53 : decode cX11_rowsToAsk 53 = .ok (.iconst 1, 1) := by decide +kernel
theorem dX11_rowsToAsk_54 : decode cX11_rowsToAsk 54 = .ok (.if_icmp .ne 33, 3) := by decide +kernel
theorem dX11_rowsToAsk_57 : decode cX11_rowsToAsk 57 = .ok (.iload 4, 2) := by decide +kernel
theorem dX11_rowsToAsk_59 : decode cX11_rowsToAsk 59 = .ok (.aload_n 0, 1) := by decide +kernel
theorem dX11_rowsToAsk_60 : decode cX11_rowsToAsk 60 = .ok (.iload_n 1, 1) := by decide +kernel
theorem dX11_rowsToAsk_61 : decode cX11_rowsToAsk 61 = .ok (.aload_n 0, 1) := by decide +kernel
theorem dX11_rowsToAsk_62 : decode cX11_rowsToAsk 62 = .ok (.getfield 23, 3) := by decide +kernel
theorem dX11_rowsToAsk_65 : decode cX11_rowsToAsk 65 = .ok (.iload 5, 2) := by decide +kernel
theorem dX11_rowsToAsk_67 : decode cX11_rowsToAsk 67 = .ok (.aload_n 0, 1) := by decide +kernel
theorem dX11_rowsToAsk_68 : decode cX11_rowsToAsk 68 = .ok (.getfield 30, 3) := by decide +kernel
theorem dX11_rowsToAsk_71 : decode cX11_rowsToAsk 71 = .ok (.getfield 174, 3) := by decide +kernel
theorem dX11_rowsToAsk_74 : decode cX11_rowsToAsk 74 = .ok (.invokevirtual 312, 3) := by decide +kernel
theorem dX11_rowsToAsk_77 : decode cX11_rowsToAsk 77 = .ok (.iand, 1) := by decide +kernel
theorem dX11_rowsToAsk_78 : decode cX11_rowsToAsk 78 = .ok (.iload_n 2, 1) := by decide +kernel
theorem dX11_rowsToAsk_79 : decode cX11_rowsToAsk 79 = .ok (.iconst 1, 1) := by decide +kernel
theorem dX11_rowsToAsk_80 : decode cX11_rowsToAsk 80 = .ok (.isub, 1) := by decide +kernel
theorem dX11_rowsToAsk_81 : decode cX11_rowsToAsk 81 = .ok (.invokevirtual 315, 3) := by decide +kernel
theorem dX11_rowsToAsk_84 : decode cX11_rowsToAsk 84 = .ok (.iadd, 1) := by decide +kernel
theorem dX11_rowsToAsk_85 : decode cX11_rowsToAsk 85 = .ok (.istore 4, 2) := by decide +kernel
theorem dX11_rowsToAsk_87 : decode cX11_rowsToAsk 87 = .ok (.iinc 5 1, 3) := by decide +kernel
theorem dX11_rowsToAsk_90 : decode cX11_rowsToAsk 90 = .ok (.goto (-55), 3) := by decide +kernel
theorem dX11_rowsToAsk_93 : decode cX11_rowsToAsk 93 = .ok (.iload 4, 2) := by decide +kernel
theorem dX11_rowsToAsk_95 : decode cX11_rowsToAsk 95 = .ok (.ireturn, 1) := by decide +kernel
theorem dX11_numbers_0 : decode cX11_numbers 0 = .ok (.iload_n 1, 1) := by decide +kernel
theorem dX11_numbers_1 : decode cX11_numbers 1 = .ok (.invokestatic 200, 3) := by decide +kernel
theorem dX11_numbers_4 : decode cX11_numbers 4 = .ok (.ifCond .eq 12, 3) := by decide +kernel
theorem dX11_numbers_7 : decode cX11_numbers 7 = .ok (.iload_n 2, 1) := by decide +kernel
theorem dX11_numbers_8 : decode cX11_numbers 8 = .ok (.ifCond .lt 8, 3) := by decide +kernel
theorem dX11_numbers_11 : decode cX11_numbers 11 = .ok (.iload_n 2, 1) := by decide +kernel
theorem dX11_numbers_12 : decode cX11_numbers 12 = .ok (.iconst 4, 1) := by decide +kernel
theorem dX11_numbers_13 : decode cX11_numbers 13 = .ok (.if_icmp .lt 6, 3) := by decide +kernel
theorem dX11_numbers_16 : decode cX11_numbers 16 = .ok (.bipush (-2), 2) := by decide +kernel
theorem dX11_numbers_18 : decode cX11_numbers 18 = .ok (.ireturn, 1) := by decide +kernel
theorem dX11_numbers_19 : decode cX11_numbers 19 = .ok (.iload_n 3, 1) := by decide +kernel
theorem dX11_numbers_20 : decode cX11_numbers 20 = .ok (.ifCond .lt 9, 3) := by decide +kernel
theorem dX11_numbers_23 : decode cX11_numbers 23 = .ok (.iload_n 3, 1) := by decide +kernel
theorem dX11_numbers_24 : decode cX11_numbers 24 = .ok (.bipush 40, 2) := by decide +kernel
theorem dX11_numbers_26 : decode cX11_numbers 26 = .ok (.if_icmp .le 6, 3) := by decide +kernel
theorem dX11_numbers_29 : decode cX11_numbers 29 = .ok (.bipush (-3), 2) := by decide +kernel
theorem dX11_numbers_31 : decode cX11_numbers 31 = .ok (.ireturn, 1) := by decide +kernel
theorem dX11_numbers_32 : decode cX11_numbers 32 = .ok (.aload_n 0, 1) := by decide +kernel
theorem dX11_numbers_33 : decode cX11_numbers 33 = .ok (.getfield 67, 3) := by decide +kernel
theorem dX11_numbers_36 : decode cX11_numbers 36 = .ok (.iload_n 1, 1) := by decide +kernel
theorem dX11_numbers_37 : decode cX11_numbers 37 = .ok (.aaload, 1) := by decide +kernel
theorem dX11_numbers_38 : decode cX11_numbers 38 = .ok (.iload_n 2, 1) := by decide +kernel
theorem dX11_numbers_39 : decode cX11_numbers 39 = .ok (.iload_n 3, 1) := by decide +kernel
theorem dX11_numbers_40 : decode cX11_numbers 40 = .ok (.invokevirtual 318, 3) := by decide +kernel
theorem dX11_numbers_43 : decode cX11_numbers 43 = .ok (.iconst 0, 1) := by decide +kernel
theorem dX11_numbers_44 : decode cX11_numbers 44 = .ok (.ireturn, 1) := by decide +kernel
theorem dX11_write_0 : decode cX11_write 0 = .ok (.iload_n 1, 1) := by decide +kernel
theorem dX11_write_1 : decode cX11_write 1 = .ok (.invokestatic 200, 3) := by decide +kernel
theorem dX11_write_4 : decode cX11_write 4 = .ok (.ifCond .ne 7, 3) := by decide +kernel
theorem dX11_write_7 : decode cX11_write 7 = .ok (.ldc2_w 322, 3) := by decide +kernel
theorem dX11_write_10 : decode cX11_write 10 = .ok (.lreturn, 1) := by decide +kernel
theorem dX11_write_11 : decode cX11_write 11 = .ok (.aload_n 0, 1) := by decide +kernel
theorem dX11_write_12 : decode cX11_write 12 = .ok (.getfield 67, 3) := by decide +kernel
theorem dX11_write_15 : decode cX11_write 15 = .ok (.iload_n 1, 1) := by decide +kernel
theorem dX11_write_16 : decode cX11_write 16 = .ok (.aaload, 1) := by decide +kernel
theorem dX11_write_17 : decode cX11_write 17 = .ok (.invokevirtual 203, 3) := by decide +kernel
theorem dX11_write_20 : decode cX11_write 20 = .ok (.ifCond .eq 7, 3) := by decide +kernel
theorem dX11_write_23 : decode cX11_write 23 = .ok (.ldc2_w 324, 3) := by decide +kernel
theorem dX11_write_26 : decode cX11_write 26 = .ok (.lreturn, 1) := by decide +kernel
theorem dX11_write_27 : decode cX11_write 27 = .ok (.iload_n 2, 1) := by decide +kernel
theorem dX11_write_28 : decode cX11_write 28 = .ok (.ifCond .lt 16, 3) := by decide +kernel
theorem dX11_write_31 : decode cX11_write 31 = .ok (.iload_n 2, 1) := by decide +kernel
theorem dX11_write_32 : decode cX11_write 32 = .ok (.aload_n 0, 1) := by decide +kernel
theorem dX11_write_33 : decode cX11_write 33 = .ok (.getfield 67, 3) := by decide +kernel
theorem dX11_write_36 : decode cX11_write 36 = .ok (.iload_n 1, 1) := by decide +kernel
theorem dX11_write_37 : decode cX11_write 37 = .ok (.aaload, 1) := by decide +kernel
theorem dX11_write_38 : decode cX11_write 38 = .ok (.getfield 211, 3) := by decide +kernel
theorem dX11_write_41 : decode cX11_write 41 = .ok (.if_icmp .lt 7, 3) := by decide +kernel
theorem dX11_write_44 : decode cX11_write 44 = .ok (.ldc2_w 326, 3) := by decide +kernel
theorem dX11_write_47 : decode cX11_write 47 = .ok (.lreturn, 1) := by decide +kernel
theorem dX11_write_48 : decode cX11_write 48 = .ok (.aload_n 0, 1) := by decide +kernel
theorem dX11_write_49 : decode cX11_write 49 = .ok (.getfield 67, 3) := by decide +kernel
theorem dX11_write_52 : decode cX11_write 52 = .ok (.iload_n 1, 1) := by decide +kernel
theorem dX11_write_53 : decode cX11_write 53 = .ok (.aaload, 1) := by decide +kernel
theorem dX11_write_54 : decode cX11_write 54 = .ok (.iload_n 2, 1) := by decide +kernel
theorem dX11_write_55 : decode cX11_write 55 = .ok (.lload_n 3, 1) := by decide +kernel
theorem dX11_write_56 : decode cX11_write 56 = .ok (.invokevirtual 328, 3) := by decide +kernel
theorem dX11_write_59 : decode cX11_write 59 = .ok (.aload_n 0, 1) := by decide +kernel
theorem dX11_write_60 : decode cX11_write 60 = .ok (.getfield 67, 3) := by decide +kernel
theorem dX11_write_63 : decode cX11_write 63 = .ok (.iload_n 1, 1) := by decide +kernel
theorem dX11_write_64 : decode cX11_write 64 = .ok (.aaload, 1) := by decide +kernel
theorem dX11_write_65 : decode cX11_write 65 = .ok (.getfield 309, 3) := by decide +kernel
theorem dX11_write_68 : decode cX11_write 68 = .ok (.iload_n 2, 1) := by decide +kernel
theorem dX11_write_69 : decode cX11_write 69 = .ok (.laload, 1) := by decide +kernel
theorem dX11_write_70 : decode cX11_write 70 = .ok (.lreturn, 1) := by decide +kernel
theorem dX11_copy_0 : decode cX11_copy 0 = .ok (.iload_n 1, 1) := by decide +kernel
theorem dX11_copy_1 : decode cX11_copy 1 = .ok (.invokestatic 200, 3) := by decide +kernel
theorem dX11_copy_4 : decode cX11_copy 4 = .ok (.ifCond .ne 6, 3) := by decide +kernel
theorem dX11_copy_7 : decode cX11_copy 7 = .ok (.bipush (-2), 2) := by decide +kernel
theorem dX11_copy_9 : decode cX11_copy 9 = .ok (.ireturn, 1) := by decide +kernel
theorem dX11_copy_10 : decode cX11_copy 10 = .ok (.aload_n 0, 1) := by decide +kernel
theorem dX11_copy_11 : decode cX11_copy 11 = .ok (.getfield 67, 3) := by decide +kernel
theorem dX11_copy_14 : decode cX11_copy 14 = .ok (.iload_n 1, 1) := by decide +kernel
theorem dX11_copy_15 : decode cX11_copy 15 = .ok (.aaload, 1) := by decide +kernel
theorem dX11_copy_16 : decode cX11_copy 16 = .ok (.invokevirtual 203, 3) := by decide +kernel
theorem dX11_copy_19 : decode cX11_copy 19 = .ok (.ifCond .eq 6, 3) := by decide +kernel
theorem dX11_copy_22 : decode cX11_copy 22 = .ok (.bipush (-6), 2) := by decide +kernel
theorem dX11_copy_24 : decode cX11_copy 24 = .ok (.ireturn, 1) := by decide +kernel
theorem dX11_copy_25 : decode cX11_copy 25 = .ok (.aload_n 0, 1) := by decide +kernel
theorem dX11_copy_26 : decode cX11_copy 26 = .ok (.getfield 23, 3) := by decide +kernel
theorem dX11_copy_29 : decode cX11_copy 29 = .ok (.getfield 171, 3) := by decide +kernel
theorem dX11_copy_32 : decode cX11_copy 32 = .ok (.aload_n 0, 1) := by decide +kernel
theorem dX11_copy_33 : decode cX11_copy 33 = .ok (.getfield 67, 3) := by decide +kernel
theorem dX11_copy_36 : decode cX11_copy 36 = .ok (.iload_n 1, 1) := by decide +kernel
theorem dX11_copy_37 : decode cX11_copy 37 = .ok (.aaload, 1) := by decide +kernel
theorem dX11_copy_38 : decode cX11_copy 38 = .ok (.getfield 211, 3) := by decide +kernel
theorem dX11_copy_41 : decode cX11_copy 41 = .ok (.invokestatic 332, 3) := by decide +kernel
theorem dX11_copy_44 : decode cX11_copy 44 = .ok (.istore_n 2, 1) := by decide +kernel
theorem dX11_copy_45 : decode cX11_copy 45 = .ok (.iconst 0, 1) := by decide +kernel
theorem dX11_copy_46 : decode cX11_copy 46 = .ok (.istore_n 3, 1) := by decide +kernel
theorem dX11_copy_47 : decode cX11_copy 47 = .ok (.iload_n 3, 1) := by decide +kernel
theorem dX11_copy_48 : decode cX11_copy 48 = .ok (.iload_n 2, 1) := by decide +kernel
theorem dX11_copy_49 : decode cX11_copy 49 = .ok (.if_icmp .ge 29, 3) := by decide +kernel
theorem dX11_copy_52 : decode cX11_copy 52 = .ok (.aload_n 0, 1) := by decide +kernel
theorem dX11_copy_53 : decode cX11_copy 53 = .ok (.getfield 67, 3) := by decide +kernel
theorem dX11_copy_56 : decode cX11_copy 56 = .ok (.iload_n 1, 1) := by decide +kernel
theorem dX11_copy_57 : decode cX11_copy 57 = .ok (.aaload, 1) := by decide +kernel
theorem dX11_copy_58 : decode cX11_copy 58 = .ok (.iload_n 3, 1) := by decide +kernel
theorem dX11_copy_59 : decode cX11_copy 59 = .ok (.aload_n 0, 1) := by decide +kernel
theorem dX11_copy_60 : decode cX11_copy 60 = .ok (.getfield 30, 3) := by decide +kernel
theorem dX11_copy_63 : decode cX11_copy 63 = .ok (.getfield 142, 3) := by decide +kernel
theorem dX11_copy_66 : decode cX11_copy 66 = .ok (.iload_n 3, 1) := by decide +kernel
theorem dX11_copy_67 : decode cX11_copy 67 = .ok (.iaload, 1) := by decide +kernel
theorem dX11_copy_68 : decode cX11_copy 68 = .ok (.i2l, 1) := by decide +kernel
theorem dX11_copy_69 : decode cX11_copy 69 = .ok (.invokevirtual 328, 3) := by decide +kernel
theorem dX11_copy_72 : decode cX11_copy 72 = .ok (.iinc 3 1, 3) := by decide +kernel
theorem dX11_copy_75 : decode cX11_copy 75 = .ok (.goto (-28), 3) := by decide +kernel
theorem dX11_copy_78 : decode cX11_copy 78 = .ok (.iload_n 2, 1) := by decide +kernel
theorem dX11_copy_79 : decode cX11_copy 79 = .ok (.ireturn, 1) := by decide +kernel
theorem dX11_image_0 : decode cX11_image 0 = .ok (.iload_n 1, 1) := by decide +kernel
theorem dX11_image_1 : decode cX11_image 1 = .ok (.ifCond .lt 8, 3) := by decide +kernel
theorem dX11_image_4 : decode cX11_image 4 = .ok (.iload_n 1, 1) := by decide +kernel
theorem dX11_image_5 : decode cX11_image 5 = .ok (.iconst 2, 1) := by decide +kernel
theorem dX11_image_6 : decode cX11_image 6 = .ok (.if_icmp .lt 6, 3) := by decide +kernel
theorem dX11_image_9 : decode cX11_image 9 = .ok (.bipush (-2), 2) := by decide +kernel
theorem dX11_image_11 : decode cX11_image 11 = .ok (.ireturn, 1) := by decide +kernel
theorem dX11_image_12 : decode cX11_image 12 = .ok (.aload_n 0, 1) := by decide +kernel
theorem dX11_image_13 : decode cX11_image 13 = .ok (.getfield 73, 3) := by decide +kernel
theorem dX11_image_16 : decode cX11_image 16 = .ok (.iload_n 1, 1) := by decide +kernel
theorem dX11_image_17 : decode cX11_image 17 = .ok (.aaload, 1) := by decide +kernel
theorem dX11_image_18 : decode cX11_image 18 = .ok (.getfield 337, 3) := by decide +kernel
theorem dX11_image_21 : decode cX11_image 21 = .ok (.aload_n 0, 1) := by decide +kernel
theorem dX11_image_22 : decode cX11_image 22 = .ok (.getfield 23, 3) := by decide +kernel
theorem dX11_image_25 : decode cX11_image 25 = .ok (.invokevirtual 95, 3) := by decide +kernel
theorem dX11_image_28 : decode cX11_image 28 = .ok (.aload_n 0, 1) := by decide +kernel
theorem dX11_image_29 : decode cX11_image 29 = .ok (.getfield 73, 3) := by decide +kernel
theorem dX11_image_32 : decode cX11_image 32 = .ok (.iload_n 1, 1) := by decide +kernel
theorem dX11_image_33 : decode cX11_image 33 = .ok (.aaload, 1) := by decide +kernel
theorem dX11_image_34 : decode cX11_image 34 = .ok (.getfield 338, 3) := by decide +kernel
theorem dX11_image_37 : decode cX11_image 37 = .ok (.aload_n 0, 1) := by decide +kernel
theorem dX11_image_38 : decode cX11_image 38 = .ok (.getfield 30, 3) := by decide +kernel
theorem dX11_image_41 : decode cX11_image 41 = .ok (.invokevirtual 100, 3) := by decide +kernel
theorem dX11_image_44 : decode cX11_image 44 = .ok (.aload_n 0, 1) := by decide +kernel
theorem dX11_image_45 : decode cX11_image 45 = .ok (.getfield 73, 3) := by decide +kernel
theorem dX11_image_48 : decode cX11_image 48 = .ok (.iload_n 1, 1) := by decide +kernel
theorem dX11_image_49 : decode cX11_image 49 = .ok (.aaload, 1) := by decide +kernel
theorem dX11_image_50 : decode cX11_image 50 = .ok (.iconst 1, 1) := by decide +kernel
theorem dX11_image_51 : decode cX11_image 51 = .ok (.putfield 339, 3) := by decide +kernel
theorem dX11_image_54 : decode cX11_image 54 = .ok (.iconst 0, 1) := by decide +kernel
theorem dX11_image_55 : decode cX11_image 55 = .ok (.ireturn, 1) := by decide +kernel
theorem dX11_restore_0 : decode cX11_restore 0 = .ok (.iload_n 1, 1) := by decide +kernel
theorem dX11_restore_1 : decode cX11_restore 1 = .ok (.ifCond .lt 8, 3) := by decide +kernel
theorem dX11_restore_4 : decode cX11_restore 4 = .ok (.iload_n 1, 1) := by decide +kernel
theorem dX11_restore_5 : decode cX11_restore 5 = .ok (.iconst 2, 1) := by decide +kernel
theorem dX11_restore_6 : decode cX11_restore 6 = .ok (.if_icmp .lt 6, 3) := by decide +kernel
theorem dX11_restore_9 : decode cX11_restore 9 = .ok (.bipush (-2), 2) := by decide +kernel
theorem dX11_restore_11 : decode cX11_restore 11 = .ok (.ireturn, 1) := by decide +kernel
theorem dX11_restore_12 : decode cX11_restore 12 = .ok (.aload_n 0, 1) := by decide +kernel
theorem dX11_restore_13 : decode cX11_restore 13 = .ok (.getfield 73, 3) := by decide +kernel
theorem dX11_restore_16 : decode cX11_restore 16 = .ok (.iload_n 1, 1) := by decide +kernel
theorem dX11_restore_17 : decode cX11_restore 17 = .ok (.aaload, 1) := by decide +kernel
theorem dX11_restore_18 : decode cX11_restore 18 = .ok (.getfield 339, 3) := by decide +kernel
theorem dX11_restore_21 : decode cX11_restore 21 = .ok (.ifCond .ne 6, 3) := by decide +kernel
theorem dX11_restore_24 : decode cX11_restore 24 = .ok (.bipush (-5), 2) := by decide +kernel
theorem dX11_restore_26 : decode cX11_restore 26 = .ok (.ireturn, 1) := by decide +kernel
theorem dX11_restore_27 : decode cX11_restore 27 = .ok (.aload_n 0, 1) := by decide +kernel
theorem dX11_restore_28 : decode cX11_restore 28 = .ok (.getfield 23, 3) := by decide +kernel
theorem dX11_restore_31 : decode cX11_restore 31 = .ok (.aload_n 0, 1) := by decide +kernel
theorem dX11_restore_32 : decode cX11_restore 32 = .ok (.getfield 73, 3) := by decide +kernel
theorem dX11_restore_35 : decode cX11_restore 35 = .ok (.iload_n 1, 1) := by decide +kernel
theorem dX11_restore_36 : decode cX11_restore 36 = .ok (.aaload, 1) := by decide +kernel
theorem dX11_restore_37 : decode cX11_restore 37 = .ok (.getfield 337, 3) := by decide +kernel
theorem dX11_restore_40 : decode cX11_restore 40 = .ok (.invokevirtual 95, 3) := by decide +kernel
theorem dX11_restore_43 : decode cX11_restore 43 = .ok (.aload_n 0, 1) := by decide +kernel
theorem dX11_restore_44 : decode cX11_restore 44 = .ok (.getfield 30, 3) := by decide +kernel
theorem dX11_restore_47 : decode cX11_restore 47 = .ok (.aload_n 0, 1) := by decide +kernel
theorem dX11_restore_48 : decode cX11_restore 48 = .ok (.getfield 73, 3) := by decide +kernel
theorem dX11_restore_51 : decode cX11_restore 51 = .ok (.iload_n 1, 1) := by decide +kernel
theorem dX11_restore_52 : decode cX11_restore 52 = .ok (.aaload, 1) := by decide +kernel
theorem dX11_restore_53 : decode cX11_restore 53 = .ok (.getfield 338, 3) := by decide +kernel
theorem dX11_restore_56 : decode cX11_restore 56 = .ok (.invokevirtual 100, 3) := by decide +kernel
theorem dX11_restore_59 : decode cX11_restore 59 = .ok (.aload_n 0, 1) := by decide +kernel
theorem dX11_restore_60 : decode cX11_restore 60 = .ok (.getfield 40, 3) := by decide +kernel
theorem dX11_restore_63 : decode cX11_restore 63 = .ok (.invokevirtual 103, 3) := by decide +kernel
theorem dX11_restore_66 : decode cX11_restore 66 = .ok (.iconst 0, 1) := by decide +kernel
theorem dX11_restore_67 : decode cX11_restore 67 = .ok (.ireturn, 1) := by decide +kernel
theorem dX11_count_0 : decode cX11_count 0 = .ok (.iload_n 1, 1) := by decide +kernel
theorem dX11_count_1 : decode cX11_count 1 = .ok (.tableswitch 156 0 9 #[55, 63, 71, 79, 101, 109, 117, 128, 143, 148], 55) := by decide +kernel
theorem dX11_count_56 : decode cX11_count 56 = .ok (.aload_n 0, 1) := by decide +kernel
theorem dX11_count_57 : decode cX11_count 57 = .ok (.getfield 23, 3) := by decide +kernel
theorem dX11_count_60 : decode cX11_count 60 = .ok (.getfield 165, 3) := by decide +kernel
theorem dX11_count_63 : decode cX11_count 63 = .ok (.ireturn, 1) := by decide +kernel
theorem dX11_count_64 : decode cX11_count 64 = .ok (.aload_n 0, 1) := by decide +kernel
theorem dX11_count_65 : decode cX11_count 65 = .ok (.getfield 23, 3) := by decide +kernel
theorem dX11_count_68 : decode cX11_count 68 = .ok (.getfield 168, 3) := by decide +kernel
theorem dX11_count_71 : decode cX11_count 71 = .ok (.ireturn, 1) := by decide +kernel
theorem dX11_count_72 : decode cX11_count 72 = .ok (.aload_n 0, 1) := by decide +kernel
theorem dX11_count_73 : decode cX11_count 73 = .ok (.getfield 23, 3) := by decide +kernel
theorem dX11_count_76 : decode cX11_count 76 = .ok (.getfield 171, 3) := by decide +kernel
theorem dX11_count_79 : decode cX11_count 79 = .ok (.ireturn, 1) := by decide +kernel
theorem dX11_count_80 : decode cX11_count 80 = .ok (.aload_n 0, 1) := by decide +kernel
theorem dX11_count_81 : decode cX11_count 81 = .ok (.getfield 23, 3) := by decide +kernel
theorem dX11_count_84 : decode cX11_count 84 = .ok (.getfield 165, 3) := by decide +kernel
theorem dX11_count_87 : decode cX11_count 87 = .ok (.ifCond .ne 7, 3) := by decide +kernel
theorem dX11_count_90 : decode cX11_count 90 = .ok (.iconst (-1), 1) := by decide +kernel
theorem dX11_count_91 : decode cX11_count 91 = .ok (.goto 10, 3) := by decide +kernel
theorem dX11_count_94 : decode cX11_count 94 = .ok (.aload_n 0, 1) := by decide +kernel
theorem dX11_count_95 : decode cX11_count 95 = .ok (.getfield 30, 3) := by decide +kernel
theorem dX11_count_98 : decode cX11_count 98 = .ok (.getfield 174, 3) := by decide +kernel
theorem dX11_count_101 : decode cX11_count 101 = .ok (.ireturn, 1) := by decide +kernel
theorem dX11_count_102 : decode cX11_count 102 = .ok (.aload_n 0, 1) := by decide +kernel
theorem dX11_count_103 : decode cX11_count 103 = .ok (.getfield 40, 3) := by decide +kernel
theorem dX11_count_106 : decode cX11_count 106 = .ok (.getfield 193, 3) := by decide +kernel
theorem dX11_count_109 : decode cX11_count 109 = .ok (.ireturn, 1) := by decide +kernel
theorem dX11_count_110 : decode cX11_count 110 = .ok (.aload_n 0, 1) := by decide +kernel
theorem dX11_count_111 : decode cX11_count 111 = .ok (.getfield 23, 3) := by decide +kernel
theorem dX11_count_114 : decode cX11_count 114 = .ok (.invokevirtual 343, 3) := by decide +kernel
theorem dX11_count_117 : decode cX11_count 117 = .ok (.ireturn, 1) := by decide +kernel
theorem dX11_count_118 : decode cX11_count 118 = .ok (.aload_n 0, 1) := by decide +kernel
theorem dX11_count_119 : decode cX11_count 119 = .ok (.getfield 23, 3) := by decide +kernel
theorem dX11_count_122 : decode cX11_count 122 = .ok (.getfield 123, 3) := by decide +kernel
theorem dX11_count_125 : decode cX11_count 125 = .ok (.invokestatic 180, 3) := by decide +kernel
theorem dX11_count_128 : decode cX11_count 128 = .ok (.ireturn, 1) := by decide +kernel
theorem dX11_count_129 : decode cX11_count 129 = .ok (.aload_n 0, 1) := by decide +kernel
theorem dX11_count_130 : decode cX11_count 130 = .ok (.getfield 23, 3) := by decide +kernel
theorem dX11_count_133 : decode cX11_count 133 = .ok (.aload_n 0, 1) := by decide +kernel
theorem dX11_count_134 : decode cX11_count 134 = .ok (.getfield 23, 3) := by decide +kernel
theorem dX11_count_137 : decode cX11_count 137 = .ok (.invokevirtual 346, 3) := by decide +kernel
theorem dX11_count_140 : decode cX11_count 140 = .ok (.invokevirtual 349, 3) := by decide +kernel
theorem dX11_count_143 : decode cX11_count 143 = .ok (.ireturn, 1) := by decide +kernel
theorem dX11_count_144 : decode cX11_count 144 = .ok (.aload_n 0, 1) := by decide +kernel
theorem dX11_count_145 : decode cX11_count 145 = .ok (.getfield 79, 3) := by decide +kernel
theorem dX11_count_148 : decode cX11_count 148 = .ok (.ireturn, 1) := by decide +kernel
theorem dX11_count_149 : decode cX11_count 149 = .ok (.aload_n 0, 1) := by decide +kernel
theorem dX11_count_150 : decode cX11_count 150 = .ok (.getfield 23, 3) := by decide +kernel
theorem dX11_count_153 : decode cX11_count 153 = .ok (.getfield 106, 3) := by decide +kernel
theorem dX11_count_156 : decode cX11_count 156 = .ok (.ireturn, 1) := by decide +kernel
theorem dX11_count_157 : decode cX11_count 157 = .ok (.iconst (-1), 1) := by decide +kernel
theorem dX11_count_158 : decode cX11_count 158 = .ok (.ireturn, 1) := by decide +kernel
