theorem dX12_within_0 : decode cX12_within 0 = .ok (.lload_n 0, 1) := by decide +kernel
theorem dX12_within_1 : decode cX12_within 1 = .ok (.lload_n 2, 1) := by decide +kernel
theorem dX12_within_2 : decode cX12_within 2 = .ok (.lcmp, 1) := by decide +kernel
theorem dX12_within_3 : decode cX12_within 3 = .ok (.ifCond .lt 14, 3) := by decide +kernel
theorem dX12_within_6 : decode cX12_within 6 = .ok (.lload_n 0, 1) := by decide +kernel
theorem dX12_within_7 : decode cX12_within 7 = .ok (.lload 4, 2) := by decide +kernel
theorem dX12_within_9 : decode cX12_within 9 = .ok (.lcmp, 1) := by decide +kernel
theorem dX12_within_10 : decode cX12_within 10 = .ok (.ifCond .gt 7, 3) := by decide +kernel
theorem dX12_within_13 : decode cX12_within 13 = .ok (.iconst 1, 1) := by decide +kernel
theorem dX12_within_14 : decode cX12_within 14 = .ok (.goto 4, 3) := by decide +kernel
theorem dX12_within_17 : decode cX12_within 17 = .ok (.iconst 0, 1) := by decide +kernel
theorem dX12_within_18 : decode cX12_within 18 = .ok (.ireturn, 1) := by decide +kernel
theorem dX12_init_0 : decode cX12_init 0 = .ok (.aload_n 0, 1) := by decide +kernel
theorem dX12_init_1 : decode cX12_init 1 = .ok (.invokespecial 7, 3) := by decide +kernel
theorem dX12_init_4 : decode cX12_init 4 = .ok (.aload_n 0, 1) := by decide +kernel
theorem dX12_init_5 : decode cX12_init 5 = .ok (.sipush 594, 3) := by decide +kernel
theorem dX12_init_8 : decode cX12_init 8 = .ok (.newarray .int, 2) := by decide +kernel
theorem dX12_init_10 : decode cX12_init 10 = .ok (.putfield 13, 3) := by decide +kernel
theorem dX12_init_13 : decode cX12_init 13 = .ok (.aload_n 0, 1) := by decide +kernel
theorem dX12_init_14 : decode cX12_init 14 = .ok (.iconst 2, 1) := by decide +kernel
theorem dX12_init_15 : decode cX12_init 15 = .ok (.newarray .boolean, 2) := by decide +kernel
theorem dX12_init_17 : decode cX12_init 17 = .ok (.putfield 17, 3) := by decide +kernel
theorem dX12_init_20 : decode cX12_init 20 = .ok (.aload_n 0, 1) := by decide +kernel
theorem dX12_init_21 : decode cX12_init 21 = .ok (.sipush 900, 3) := by decide +kernel
theorem dX12_init_24 : decode cX12_init 24 = .ok (.newarray .int, 2) := by decide +kernel
theorem dX12_init_26 : decode cX12_init 26 = .ok (.putfield 21, 3) := by decide +kernel
theorem dX12_init_29 : decode cX12_init 29 = .ok (.aload_n 0, 1) := by decide +kernel
theorem dX12_init_30 : decode cX12_init 30 = .ok (.sipush 198, 3) := by decide +kernel
theorem dX12_init_33 : decode cX12_init 33 = .ok (.newarray .int, 2) := by decide +kernel
theorem dX12_init_35 : decode cX12_init 35 = .ok (.putfield 24, 3) := by decide +kernel
theorem dX12_init_38 : decode cX12_init 38 = .ok (.aload_n 0, 1) := by decide +kernel
theorem dX12_init_39 : decode cX12_init 39 = .ok (.sipush 900, 3) := by decide +kernel
theorem dX12_init_42 : decode cX12_init 42 = .ok (.newarray .int, 2) := by decide +kernel
theorem dX12_init_44 : decode cX12_init 44 = .ok (.putfield 27, 3) := by decide +kernel
theorem dX12_init_47 : decode cX12_init 47 = .ok (.aload_n 0, 1) := by decide +kernel
theorem dX12_init_48 : decode cX12_init 48 = .ok (.bipush 8, 2) := by decide +kernel
theorem dX12_init_50 : decode cX12_init 50 = .ok (.newarray .int, 2) := by decide +kernel
theorem dX12_init_52 : decode cX12_init 52 = .ok (.putfield 30, 3) := by decide +kernel
theorem dX12_init_55 : decode cX12_init 55 = .ok (.aload_n 0, 1) := by decide +kernel
theorem dX12_init_56 : decode cX12_init 56 = .ok (.bipush 8, 2) := by decide +kernel
theorem dX12_init_58 : decode cX12_init 58 = .ok (.newarray .int, 2) := by decide +kernel
theorem dX12_init_60 : decode cX12_init 60 = .ok (.putfield 33, 3) := by decide +kernel
theorem dX12_init_63 : decode cX12_init 63 = .ok (.aload_n 0, 1) := by decide +kernel
theorem dX12_init_64 : decode cX12_init 64 = .ok (.iconst (-1), 1) := by decide +kernel
theorem dX12_init_65 : decode cX12_init 65 = .ok (.putfield 36, 3) := by decide +kernel
theorem dX12_init_68 : decode cX12_init 68 = .ok (.aload_n 0, 1) := by decide +kernel
theorem dX12_init_69 : decode cX12_init 69 = .ok (.sipush 900, 3) := by decide +kernel
theorem dX12_init_72 : decode cX12_init 72 = .ok (.newarray .int, 2) := by decide +kernel
theorem dX12_init_74 : decode cX12_init 74 = .ok (.putfield 39, 3) := by decide +kernel
theorem dX12_init_77 : decode cX12_init 77 = .ok (.aload_n 0, 1) := by decide +kernel
theorem dX12_init_78 : decode cX12_init 78 = .ok (.bipush 7, 2) := by decide +kernel
theorem dX12_init_80 : decode cX12_init 80 = .ok (.newarray .int, 2) := by decide +kernel
theorem dX12_init_82 : decode cX12_init 82 = .ok (.putfield 42, 3) := by decide +kernel
theorem dX12_init_85 : decode cX12_init 85 = .ok (.aload_n 0, 1) := by decide +kernel
theorem dX12_init_86 : decode cX12_init 86 = .ok (.bipush 6, 2) := by decide +kernel
theorem dX12_init_88 : decode cX12_init 88 = .ok (.newarray .int, 2) := by decide +kernel
theorem dX12_init_90 : decode cX12_init 90 = .ok (.putfield 45, 3) := by decide +kernel
theorem dX12_init_93 : decode cX12_init 93 = .ok (.aload_n 0, 1) := by decide +kernel
theorem dX12_init_94 : decode cX12_init 94 = .ok (.sipush 256, 3) := by decide +kernel
theorem dX12_init_97 : decode cX12_init 97 = .ok (.newarray .int, 2) := by decide +kernel
theorem dX12_init_99 : decode cX12_init 99 = .ok (.putfield 48, 3) := by decide +kernel
theorem dX12_init_102 : decode cX12_init 102 = .ok (.aload_n 0, 1) := by decide +kernel
theorem dX12_init_103 : decode cX12_init 103 = .ok (.sipush 256, 3) := by decide +kernel
theorem dX12_init_106 : decode cX12_init 106 = .ok (.newarray .int, 2) := by decide +kernel
theorem dX12_init_108 : decode cX12_init 108 = .ok (.putfield 51, 3) := by decide +kernel
theorem dX12_init_111 : decode cX12_init 111 = .ok (.aload_n 0, 1) := by decide +kernel
theorem dX12_init_112 : decode cX12_init 112 = .ok (.sipush 1536, 3) := by decide +kernel
theorem dX12_init_115 : decode cX12_init 115 = .ok (.newarray .int, 2) := by decide +kernel
theorem dX12_init_117 : decode cX12_init 117 = .ok (.putfield 54, 3) := by decide +kernel
theorem dX12_init_120 : decode cX12_init 120 = .ok (.aload_n 0, 1) := by decide +kernel
theorem dX12_init_121 : decode cX12_init 121 = .ok (.sipush 1536, 3) := by decide +kernel
theorem dX12_init_124 : decode cX12_init 124 = .ok (.newarray .int, 2) := by decide +kernel
theorem dX12_init_126 : decode cX12_init 126 = .ok (.putfield 57, 3) := by decide +kernel
theorem dX12_init_129 : decode cX12_init 129 = .ok (.aload_n 0, 1) := by decide +kernel
theorem dX12_init_130 : decode cX12_init 130 = .ok (.bipush 6, 2) := by decide +kernel
theorem dX12_init_132 : decode cX12_init 132 = .ok (.newarray .int, 2) := by decide +kernel
theorem dX12_init_134 : decode cX12_init 134 = .ok (.putfield 60, 3) := by decide +kernel
theorem dX12_init_137 : decode cX12_init 137 = .ok (.aload_n 0, 1) := by decide +kernel
theorem dX12_init_138 : decode cX12_init 138 = .ok (.bipush 6, 2) := by decide +kernel
theorem dX12_init_140 : decode cX12_init 140 = .ok (.newarray .int, 2) := by decide +kernel
theorem dX12_init_142 : decode cX12_init 142 = .ok (.putfield 63, 3) := by decide +kernel
theorem dX12_init_145 : decode cX12_init 145 = .ok (.aload_n 0, 1) := by decide +kernel
theorem dX12_init_146 : decode cX12_init 146 = .ok (.sipush 2401, 3) := by decide +kernel
theorem dX12_init_149 : decode cX12_init 149 = .ok (.newarray .int, 2) := by decide +kernel
theorem dX12_init_151 : decode cX12_init 151 = .ok (.putfield 66, 3) := by decide +kernel
theorem dX12_init_154 : decode cX12_init 154 = .ok (.aload_n 0, 1) := by decide +kernel
theorem dX12_init_155 : decode cX12_init 155 = .ok (.ldc 69, 2) := by decide +kernel
theorem dX12_init_157 : decode cX12_init 157 = .ok (.newarray .int, 2) := by decide +kernel
theorem dX12_init_159 : decode cX12_init 159 = .ok (.putfield 70, 3) := by decide +kernel
theorem dX12_init_162 : decode cX12_init 162 = .ok (.aload_n 0, 1) := by decide +kernel
theorem dX12_init_163 : decode cX12_init 163 = .ok (.iconst 4, 1) := by decide +kernel
theorem dX12_init_164 : decode cX12_init 164 = .ok (.newarray .int, 2) := by decide +kernel
theorem dX12_init_166 : decode cX12_init 166 = .ok (.dup, 1) := by decide +kernel
theorem dX12_init_167 : decode cX12_init 167 = .ok (.iconst 0, 1) := by decide +kernel
theorem dX12_init_168 : decode cX12_init 168 = .ok (.iconst (-1), 1) := by decide +kernel
theorem dX12_init_169 : decode cX12_init 169 = .ok (.iastore, 1) := by decide +kernel
theorem dX12_init_170 : decode cX12_init 170 = .ok (.dup, 1) := by decide +kernel
theorem dX12_init_171 : decode cX12_init 171 = .ok (.iconst 1, 1) := by decide +kernel
theorem dX12_init_172 : decode cX12_init 172 = .ok (.iconst (-1), 1) := by decide +kernel
theorem dX12_init_173 : decode cX12_init 173 = .ok (.iastore, 1) := by decide +kernel
theorem dX12_init_174 : decode cX12_init 174 = .ok (.dup, 1) := by decide +kernel
theorem dX12_init_175 : decode cX12_init 175 = .ok (.iconst 2, 1) := by decide +kernel
theorem dX12_init_176 : decode cX12_init 176 = .ok (.iconst (-1), 1) := by decide +kernel
theorem dX12_init_177 : decode cX12_init 177 = .ok (.iastore, 1) := by decide +kernel
theorem dX12_init_178 : decode cX12_init 178 = .ok (.dup, 1) := by decide +kernel
theorem dX12_init_179 : decode cX12_init 179 = .ok (.iconst 3, 1) := by decide +kernel
theorem dX12_init_180 : decode cX12_init 180 = .ok (.iconst (-1), 1) := by decide +kernel
theorem dX12_init_181 : decode cX12_init 181 = .ok (.iastore, 1) := by decide +kernel
theorem dX12_init_182 : decode cX12_init 182 = .ok (.putfield 73, 3) := by decide +kernel
theorem dX12_init_185 : decode cX12_init 185 = .ok (.aload_n 0, 1) := by decide +kernel
theorem dX12_init_186 : decode cX12_init 186 = .ok (.iconst 4, 1) := by decide +kernel
theorem dX12_init_187 : decode cX12_init 187 = .ok (.newarray .int, 2) := by decide +kernel
theorem dX12_init_189 : decode cX12_init 189 = .ok (.putfield 76, 3) := by decide +kernel
theorem dX12_init_192 : decode cX12_init 192 = .ok (.aload_n 0, 1) := by decide +kernel
theorem dX12_init_193 : decode cX12_init 193 = .ok (.sipush 160, 3) := by decide +kernel
theorem dX12_init_196 : decode cX12_init 196 = .ok (.newarray .long, 2) := by decide +kernel
theorem dX12_init_198 : decode cX12_init 198 = .ok (.putfield 79, 3) := by decide +kernel
theorem dX12_init_201 : decode cX12_init 201 = .ok (.return_, 1) := by decide +kernel
theorem dX12_feed_0 : decode cX12_feed 0 = .ok (.aload_n 0, 1) := by decide +kernel
theorem dX12_feed_1 : decode cX12_feed 1 = .ok (.iconst 0, 1) := by decide +kernel
theorem dX12_feed_2 : decode cX12_feed 2 = .ok (.putfield 1, 3) := by decide +kernel
theorem dX12_feed_5 : decode cX12_feed 5 = .ok (.aload_n 0, 1) := by decide +kernel
theorem dX12_feed_6 : decode cX12_feed 6 = .ok (.getfield 83, 3) := by decide +kernel
theorem dX12_feed_9 : decode cX12_feed 9 = .ok (.bipush 20, 2) := by decide +kernel
theorem dX12_feed_11 : decode cX12_feed 11 = .ok (.iadd, 1) := by decide +kernel
theorem dX12_feed_12 : decode cX12_feed 12 = .ok (.sipush 900, 3) := by decide +kernel
theorem dX12_feed_15 : decode cX12_feed 15 = .ok (.if_icmp .le 6, 3) := by decide +kernel
theorem dX12_feed_18 : decode cX12_feed 18 = .ok (.bipush (-5), 2) := by decide +kernel
theorem dX12_feed_20 : decode cX12_feed 20 = .ok (.ireturn, 1) := by decide +kernel
theorem dX12_feed_21 : decode cX12_feed 21 = .ok (.iconst 0, 1) := by decide +kernel
theorem dX12_feed_22 : decode cX12_feed 22 = .ok (.istore 6, 2) := by decide +kernel
theorem dX12_feed_24 : decode cX12_feed 24 = .ok (.iload 6, 2) := by decide +kernel
theorem dX12_feed_26 : decode cX12_feed 26 = .ok (.bipush 20, 2) := by decide +kernel
theorem dX12_feed_28 : decode cX12_feed 28 = .ok (.if_icmp .ge 93, 3) := by decide +kernel
theorem dX12_feed_31 : decode cX12_feed 31 = .ok (.iload 6, 2) := by decide +kernel
theorem dX12_feed_33 : decode cX12_feed 33 = .ok (.iconst 4, 1) := by decide +kernel
theorem dX12_feed_34 : decode cX12_feed 34 = .ok (.if_icmp .ge 7, 3) := by decide +kernel
theorem dX12_feed_37 : decode cX12_feed 37 = .ok (.iload_n 1, 1) := by decide +kernel
theorem dX12_feed_38 : decode cX12_feed 38 = .ok (.goto 39, 3) := by decide +kernel
theorem dX12_feed_41 : decode cX12_feed 41 = .ok (.iload 6, 2) := by decide +kernel
theorem dX12_feed_43 : decode cX12_feed 43 = .ok (.bipush 8, 2) := by decide +kernel
theorem dX12_feed_45 : decode cX12_feed 45 = .ok (.if_icmp .ge 7, 3) := by decide +kernel
theorem dX12_feed_48 : decode cX12_feed 48 = .ok (.iload_n 2, 1) := by decide +kernel
theorem dX12_feed_49 : decode cX12_feed 49 = .ok (.goto 28, 3) := by decide +kernel
theorem dX12_feed_52 : decode cX12_feed 52 = .ok (.iload 6, 2) := by decide +kernel
theorem dX12_feed_54 : decode cX12_feed 54 = .ok (.bipush 12, 2) := by decide +kernel
theorem dX12_feed_56 : decode cX12_feed 56 = .ok (.if_icmp .ge 7, 3) := by decide +kernel
theorem dX12_feed_59 : decode cX12_feed 59 = .ok (.iload_n 3, 1) := by decide +kernel
theorem dX12_feed_60 : decode cX12_feed 60 = .ok (.goto 17, 3) := by decide +kernel
theorem dX12_feed_63 : decode cX12_feed 63 = .ok (.iload 6, 2) := by decide +kernel
theorem dX12_feed_65 : decode cX12_feed 65 = .ok (.bipush 16, 2) := by decide +kernel
theorem dX12_feed_67 : decode cX12_feed 67 = .ok (.if_icmp .ge 8, 3) := by decide +kernel
theorem dX12_feed_70 : decode cX12_feed 70 = .ok (.iload 4, 2) := by decide +kernel
theorem dX12_feed_72 : decode cX12_feed 72 = .ok (.goto 5, 3) := by decide +kernel
theorem dX12_feed_75 : decode cX12_feed 75 = .ok (.iload 5, 2) := by decide +kernel
theorem dX12_feed_77 : decode cX12_feed 77 = .ok (.istore 7, 2) := by decide +kernel
theorem dX12_feed_79 : decode cX12_feed 79 = .ok (.aload_n 0, 1) := by decide +kernel
theorem dX12_feed_80 : decode cX12_feed 80 = .ok (.getfield 21, 3) := by decide +kernel
theorem dX12_feed_83 : decode cX12_feed 83 = .ok (.aload_n 0, 1) := by decide +kernel
theorem dX12_feed_84 : decode cX12_feed 84 = .ok (.getfield 83, 3) := by decide +kernel
theorem dX12_feed_87 : decode cX12_feed 87 = .ok (.iload 7, 2) := by decide +kernel
theorem dX12_feed_89 : decode cX12_feed 89 = .ok (.bipush 24, 2) := by decide +kernel
theorem dX12_feed_91 : decode cX12_feed 91 = .ok (.bipush 8, 2) := by decide +kernel
theorem dX12_feed_93 : decode cX12_feed 93 = .ok (.iload 6, 2) := by decide +kernel
theorem dX12_feed_95 : decode cX12_feed 95 = .ok (.iconst 4, 1) := by decide +kernel
theorem dX12_feed_96 : decode cX12_feed 96 = .ok (.irem, 1) := by decide +kernel
theorem dX12_feed_97 : decode cX12_feed 97 = .ok (.imul, 1) := by decide +kernel
theorem dX12_feed_98 : decode cX12_feed 98 = .ok (.isub, 1) := by decide +kernel
theorem dX12_feed_99 : decode cX12_feed 99 = .ok (.ishr, 1) := by decide +kernel
theorem dX12_feed_100 : decode cX12_feed 100 = .ok (.sipush 255, 3) := by decide +kernel
theorem dX12_feed_103 : decode cX12_feed 103 = .ok (.iand, 1) := by decide +kernel
theorem dX12_feed_104 : decode cX12_feed 104 = .ok (.iastore, 1) := by decide +kernel
theorem dX12_feed_105 : decode cX12_feed 105 = .ok (.aload_n 0, 1) := by decide +kernel
theorem dX12_feed_106 : decode cX12_feed 106 = .ok (.dup, 1) := by decide +kernel
theorem dX12_feed_107 : decode cX12_feed 107 = .ok (.getfield 83, 3) := by decide +kernel
theorem dX12_feed_110 : decode cX12_feed 110 = .ok (.iconst 1, 1) := by decide +kernel
theorem dX12_feed_111 : decode cX12_feed 111 = .ok (.iadd, 1) := by decide +kernel
theorem dX12_feed_112 : decode cX12_feed 112 = .ok (.putfield 83, 3) := by decide +kernel
theorem dX12_feed_115 : decode cX12_feed 115 = .ok (.iinc 6 1, 3) := by decide +kernel
theorem dX12_feed_118 : decode cX12_feed 118 = .ok (.goto (-94), 3) := by decide +kernel
theorem dX12_feed_121 : decode cX12_feed 121 = .ok (.aload_n 0, 1) := by decide +kernel
theorem dX12_feed_122 : decode cX12_feed 122 = .ok (.getfield 83, 3) := by decide +kernel
theorem dX12_feed_125 : decode cX12_feed 125 = .ok (.ireturn, 1) := by decide +kernel
theorem dX12_see_0 : decode cX12_see 0 = .ok (.iload_n 1, 1) := by decide +kernel
theorem dX12_see_1 : decode cX12_see 1 = .ok (.aload_n 0, 1) := by decide +kernel
theorem dX12_see_2 : decode cX12_see 2 = .ok (.getfield 86, 3) := by decide +kernel
theorem dX12_see_5 : decode cX12_see 5 = .ok (.if_icmp .ge 12, 3) := by decide +kernel
theorem dX12_see_8 : decode cX12_see 8 = .ok (.aload_n 0, 1) := by decide +kernel
theorem dX12_see_9 : decode cX12_see 9 = .ok (.getfield 21, 3) := by decide +kernel
theorem dX12_see_12 : decode cX12_see 12 = .ok (.iload_n 1, 1) := by decide +kernel
theorem dX12_see_13 : decode cX12_see 13 = .ok (.iaload, 1) := by decide +kernel
theorem dX12_see_14 : decode cX12_see 14 = .ok (.goto 4, 3) := by decide +kernel
theorem dX12_see_17 : decode cX12_see 17 = .ok (.iconst (-1), 1) := by decide +kernel
theorem dX12_see_18 : decode cX12_see 18 = .ok (.ireturn, 1) := by decide +kernel
theorem dX12_isSmall_0 : decode cX12_isSmall 0 = .ok (.iload_n 0, 1) := by decide +kernel
theorem dX12_isSmall_1 : decode cX12_isSmall 1 = .ok (.bipush 97, 2) := by decide +kernel
theorem dX12_isSmall_3 : decode cX12_isSmall 3 = .ok (.if_icmp .lt 13, 3) := by decide +kernel
theorem dX12_isSmall_6 : decode cX12_isSmall 6 = .ok (.iload_n 0, 1) := by decide +kernel
theorem dX12_isSmall_7 : decode cX12_isSmall 7 = .ok (.bipush 122, 2) := by decide +kernel
theorem dX12_isSmall_9 : decode cX12_isSmall 9 = .ok (.if_icmp .gt 7, 3) := by decide +kernel
theorem dX12_isSmall_12 : decode cX12_isSmall 12 = .ok (.iconst 1, 1) := by decide +kernel
theorem dX12_isSmall_13 : decode cX12_isSmall 13 = .ok (.goto 4, 3) := by decide +kernel
theorem dX12_isSmall_16 : decode cX12_isSmall 16 = .ok (.iconst 0, 1) := by decide +kernel
theorem dX12_isSmall_17 : decode cX12_isSmall 17 = .ok (.ireturn, 1) := by decide +kernel
theorem dX12_isDigit_0 : decode cX12_isDigit 0 = .ok (.iload_n 0, 1) := by decide +kernel
theorem dX12_isDigit_1 : decode cX12_isDigit 1 = .ok (.bipush 48, 2) := by decide +kernel
theorem dX12_isDigit_3 : decode cX12_isDigit 3 = .ok (.if_icmp .lt 13, 3) := by decide +kernel
theorem dX12_isDigit_6 : decode cX12_isDigit 6 = .ok (.iload_n 0, 1) := by decide +kernel
theorem dX12_isDigit_7 : decode cX12_isDigit 7 = .ok (.bipush 57, 2) := by decide +kernel
theorem dX12_isDigit_9 : decode cX12_isDigit 9 = .ok (.if_icmp .gt 7, 3) := by decide +kernel
theorem dX12_isDigit_12 : decode cX12_isDigit 12 = .ok (.iconst 1, 1) := by decide +kernel
theorem dX12_isDigit_13 : decode cX12_isDigit 13 = .ok (.goto 4, 3) := by decide +kernel
theorem dX12_isDigit_16 : decode cX12_isDigit 16 = .ok (.iconst 0, 1) := by decide +kernel
theorem dX12_isDigit_17 : decode cX12_isDigit 17 = .ok (.ireturn, 1) := by decide +kernel
theorem dX12_keyAt_0 : decode cX12_keyAt 0 = .ok (.iconst 0, 1) := by decide +kernel
theorem dX12_keyAt_1 : decode cX12_keyAt 1 = .ok (.istore_n 1, 1) := by decide +kernel
theorem dX12_keyAt_2 : decode cX12_keyAt 2 = .ok (.iconst 1, 1) := by decide +kernel
theorem dX12_keyAt_3 : decode cX12_keyAt 3 = .ok (.istore_n 2, 1) := by decide +kernel
theorem dX12_keyAt_4 : decode cX12_keyAt 4 = .ok (.iload_n 2, 1) := by decide +kernel
theorem dX12_keyAt_5 : decode cX12_keyAt 5 = .ok (.ldc 89, 2) := by decide +kernel
theorem dX12_keyAt_7 : decode cX12_keyAt 7 = .ok (.invokevirtual 91, 3) := by decide +kernel
theorem dX12_keyAt_10 : decode cX12_keyAt 10 = .ok (.if_icmp .ge 113, 3) := by decide +kernel
theorem dX12_keyAt_13 : decode cX12_keyAt 13 = .ok (.iconst 0, 1) := by decide +kernel
theorem dX12_keyAt_14 : decode cX12_keyAt 14 = .ok (.istore_n 3, 1) := by decide +kernel
theorem dX12_keyAt_15 : decode cX12_keyAt 15 = .ok (.ldc 89, 2) := by decide +kernel
theorem dX12_keyAt_17 : decode cX12_keyAt 17 = .ok (.iload_n 2, 1) := by decide +kernel
theorem dX12_keyAt_18 : decode cX12_keyAt 18 = .ok (.iload_n 3, 1) := by decide +kernel
theorem dX12_keyAt_19 : decode cX12_keyAt 19 = .ok (.iadd, 1) := by decide +kernel
theorem dX12_keyAt_20 : decode cX12_keyAt 20 = .ok (.invokevirtual 97, 3) := by decide +kernel
theorem dX12_keyAt_23 : decode cX12_keyAt 23 = .ok (.bipush 32, 2) := by decide +kernel
theorem dX12_keyAt_25 : decode cX12_keyAt 25 = .ok (.if_icmp .eq 44, 3) := by decide +kernel
theorem dX12_keyAt_28 : decode cX12_keyAt 28 = .ok (.aload_n 0, 1) := by decide +kernel
theorem dX12_keyAt_29 : decode cX12_keyAt 29 = .ok (.getfield 101, 3) := by decide +kernel
theorem dX12_keyAt_32 : decode cX12_keyAt 32 = .ok (.iload_n 3, 1) := by decide +kernel
theorem dX12_keyAt_33 : decode cX12_keyAt 33 = .ok (.iadd, 1) := by decide +kernel
theorem dX12_keyAt_34 : decode cX12_keyAt 34 = .ok (.aload_n 0, 1) := by decide +kernel
theorem dX12_keyAt_35 : decode cX12_keyAt 35 = .ok (.getfield 104, 3) := by decide +kernel
theorem dX12_keyAt_38 : decode cX12_keyAt 38 = .ok (.if_icmp .ge 31, 3) := by decide +kernel
theorem dX12_keyAt_41 : decode cX12_keyAt 41 = .ok (.aload_n 0, 1) := by decide +kernel
theorem dX12_keyAt_42 : decode cX12_keyAt 42 = .ok (.getfield 21, 3) := by decide +kernel
theorem dX12_keyAt_45 : decode cX12_keyAt 45 = .ok (.aload_n 0, 1) := by decide +kernel
theorem dX12_keyAt_46 : decode cX12_keyAt 46 = .ok (.getfield 101, 3) := by decide +kernel
theorem dX12_keyAt_49 : decode cX12_keyAt 49 = .ok (.iload_n 3, 1) := by decide +kernel
theorem dX12_keyAt_50 : decode cX12_keyAt 50 = .ok (.iadd, 1) := by decide +kernel
theorem dX12_keyAt_51 : decode cX12_keyAt 51 = .ok (.iaload, 1) := by decide +kernel
theorem dX12_keyAt_52 : decode cX12_keyAt 52 = .ok (.ldc 89, 2) := by decide +kernel
theorem dX12_keyAt_54 : decode cX12_keyAt 54 = .ok (.iload_n 2, 1) := by decide +kernel
theorem dX12_keyAt_55 : decode cX12_keyAt 55 = .ok (.iload_n 3, 1) := by decide +kernel
theorem dX12_keyAt_56 : decode cX12_keyAt 56 = .ok (.iadd, 1) := by decide +kernel
theorem dX12_keyAt_57 : decode cX12_keyAt 57 = .ok (.invokevirtual 97, 3) := by decide +kernel
theorem dX12_keyAt_60 : decode cX12_keyAt 60 = .ok (.if_icmp .ne 9, 3) := by decide +kernel
theorem dX12_keyAt_63 : decode cX12_keyAt 63 = .ok (.iinc 3 1, 3) := by decide +kernel
theorem dX12_keyAt_66 : decode cX12_keyAt 66 = .ok (.goto (-51), 3) := by decide +kernel
theorem dX12_keyAt_69 : decode cX12_keyAt 69 = .ok (.ldc 89, 2) := by decide +kernel
theorem dX12_keyAt_71 : decode cX12_keyAt 71 = .ok (.iload_n 2, 1) := by decide +kernel
theorem dX12_keyAt_72 : decode cX12_keyAt 72 = .ok (.iload_n 3, 1) := by decide +kernel
theorem dX12_keyAt_73 : decode cX12_keyAt 73 = .ok (.iadd, 1) := by decide +kernel
theorem dX12_keyAt_74 : decode cX12_keyAt 74 = .ok (.invokevirtual 97, 3) := by decide +kernel
theorem dX12_keyAt_77 : decode cX12_keyAt 77 = .ok (.bipush 32, 2) := by decide +kernel
theorem dX12_keyAt_79 : decode cX12_keyAt 79 = .ok (.if_icmp .ne 18, 3) := by decide +kernel
theorem dX12_keyAt_82 : decode cX12_keyAt 82 = .ok (.aload_n 0, 1) := by decide +kernel
theorem dX12_keyAt_83 : decode cX12_keyAt 83 = .ok (.getfield 101, 3) := by decide +kernel
theorem dX12_keyAt_86 : decode cX12_keyAt 86 = .ok (.iload_n 3, 1) := by decide +kernel
theorem dX12_keyAt_87 : decode cX12_keyAt 87 = .ok (.iadd, 1) := by decide +kernel
theorem dX12_keyAt_88 : decode cX12_keyAt 88 = .ok (.aload_n 0, 1) := by decide +kernel
theorem dX12_keyAt_89 : decode cX12_keyAt 89 = .ok (.getfield 104, 3) := by decide +kernel
theorem dX12_keyAt_92 : decode cX12_keyAt 92 = .ok (.if_icmp .ne 5, 3) := by decide +kernel
theorem dX12_keyAt_95 : decode cX12_keyAt 95 = .ok (.iload_n 1, 1) := by decide +kernel
theorem dX12_keyAt_96 : decode cX12_keyAt 96 = .ok (.ireturn, 1) := by decide +kernel
theorem dX12_keyAt_97 : decode cX12_keyAt 97 = .ok (.ldc 89, 2) := by decide +kernel
theorem dX12_keyAt_99 : decode cX12_keyAt 99 = .ok (.iload_n 2, 1) := by decide +kernel
theorem dX12_keyAt_100 : decode cX12_keyAt 100 = .ok (.invokevirtual 97, 3) := by decide +kernel
theorem dX12_keyAt_103 : decode cX12_keyAt 103 = .ok (.bipush 32, 2) := by decide +kernel
theorem dX12_keyAt_105 : decode cX12_keyAt 105 = .ok (.if_icmp .eq 9, 3) := by decide +kernel
theorem dX12_keyAt_108 : decode cX12_keyAt 108 = .ok (.iinc 2 1, 3) := by decide +kernel
theorem dX12_keyAt_111 : decode cX12_keyAt 111 = .ok (.goto (-14), 3) := by decide +kernel
theorem dX12_keyAt_114 : decode cX12_keyAt 114 = .ok (.iinc 2 1, 3) := by decide +kernel
theorem dX12_keyAt_117 : decode cX12_keyAt 117 = .ok (.iinc 1 1, 3) := by decide +kernel
theorem dX12_keyAt_120 : decode cX12_keyAt 120 = .ok (.goto (-116), 3) := by decide +kernel
theorem dX12_keyAt_123 : decode cX12_keyAt 123 = .ok (.bipush 15, 2) := by decide +kernel
theorem dX12_keyAt_125 : decode cX12_keyAt 125 = .ok (.ireturn, 1) := by decide +kernel
theorem dX12_next_0 : decode cX12_next 0 = .ok (.aload_n 0, 1) := by decide +kernel
theorem dX12_next_1 : decode cX12_next 1 = .ok (.aload_n 0, 1) := by decide +kernel
theorem dX12_next_2 : decode cX12_next 2 = .ok (.getfield 104, 3) := by decide +kernel
theorem dX12_next_5 : decode cX12_next 5 = .ok (.putfield 101, 3) := by decide +kernel
theorem dX12_next_8 : decode cX12_next 8 = .ok (.aload_n 0, 1) := by decide +kernel
theorem dX12_next_9 : decode cX12_next 9 = .ok (.aload_n 0, 1) := by decide +kernel
theorem dX12_next_10 : decode cX12_next 10 = .ok (.getfield 101, 3) := by decide +kernel
theorem dX12_next_13 : decode cX12_next 13 = .ok (.invokevirtual 107, 3) := by decide +kernel
theorem dX12_next_16 : decode cX12_next 16 = .ok (.bipush 10, 2) := by decide +kernel
theorem dX12_next_18 : decode cX12_next 18 = .ok (.if_icmp .eq 16, 3) := by decide +kernel
theorem dX12_next_21 : decode cX12_next 21 = .ok (.aload_n 0, 1) := by decide +kernel
theorem dX12_next_22 : decode cX12_next 22 = .ok (.aload_n 0, 1) := by decide +kernel
theorem dX12_next_23 : decode cX12_next 23 = .ok (.getfield 101, 3) := by decide +kernel
theorem dX12_next_26 : decode cX12_next 26 = .ok (.invokevirtual 107, 3) := by decide +kernel
theorem dX12_next_29 : decode cX12_next 29 = .ok (.bipush 32, 2) := by decide +kernel
theorem dX12_next_31 : decode cX12_next 31 = .ok (.if_icmp .ne 16, 3) := by decide +kernel
theorem dX12_next_34 : decode cX12_next 34 = .ok (.aload_n 0, 1) := by decide +kernel
theorem dX12_next_35 : decode cX12_next 35 = .ok (.dup, 1) := by decide +kernel
theorem dX12_next_36 : decode cX12_next 36 = .ok (.getfield 101, 3) := by decide +kernel
theorem dX12_next_39 : decode cX12_next 39 = .ok (.iconst 1, 1) := by decide +kernel
theorem dX12_next_40 : decode cX12_next 40 = .ok (.iadd, 1) := by decide +kernel
theorem dX12_next_41 : decode cX12_next 41 = .ok (.putfield 101, 3) := by decide +kernel
theorem dX12_next_44 : decode cX12_next 44 = .ok (.goto (-36), 3) := by decide +kernel
theorem dX12_next_47 : decode cX12_next 47 = .ok (.aload_n 0, 1) := by decide +kernel
theorem dX12_next_48 : decode cX12_next 48 = .ok (.aload_n 0, 1) := by decide +kernel
theorem dX12_next_49 : decode cX12_next 49 = .ok (.getfield 101, 3) := by decide +kernel
theorem dX12_next_52 : decode cX12_next 52 = .ok (.putfield 104, 3) := by decide +kernel
theorem dX12_next_55 : decode cX12_next 55 = .ok (.aload_n 0, 1) := by decide +kernel
theorem dX12_next_56 : decode cX12_next 56 = .ok (.getfield 101, 3) := by decide +kernel
theorem dX12_next_59 : decode cX12_next 59 = .ok (.aload_n 0, 1) := by decide +kernel
theorem dX12_next_60 : decode cX12_next 60 = .ok (.getfield 86, 3) := by decide +kernel
theorem dX12_next_63 : decode cX12_next 63 = .ok (.if_icmp .lt 12, 3) := by decide +kernel
theorem dX12_next_66 : decode cX12_next 66 = .ok (.aload_n 0, 1) := by decide +kernel
theorem dX12_next_67 : decode cX12_next 67 = .ok (.bipush 17, 2) := by decide +kernel
theorem dX12_next_69 : decode cX12_next 69 = .ok (.putfield 111, 3) := by decide +kernel
theorem dX12_next_72 : decode cX12_next 72 = .ok (.goto 222, 3) := by decide +kernel
theorem dX12_next_75 : decode cX12_next 75 = .ok (.aload_n 0, 1) := by decide +kernel
theorem dX12_next_76 : decode cX12_next 76 = .ok (.aload_n 0, 1) := by decide +kernel
theorem dX12_next_77 : decode cX12_next 77 = .ok (.getfield 101, 3) := by decide +kernel
theorem dX12_next_80 : decode cX12_next 80 = .ok (.invokevirtual 107, 3) := by decide +kernel
theorem dX12_next_83 : decode cX12_next 83 = .ok (.invokestatic 114, 3) := by decide +kernel
theorem dX12_next_86 : decode cX12_next 86 = .ok (.ifCond .eq 41, 3) := by decide +kernel
theorem dX12_next_89 : decode cX12_next 89 = .ok (.aload_n 0, 1) := by decide +kernel
theorem dX12_next_90 : decode cX12_next 90 = .ok (.aload_n 0, 1) := by decide +kernel
theorem dX12_next_91 : decode cX12_next 91 = .ok (.getfield 104, 3) := by decide +kernel
theorem dX12_next_94 : decode cX12_next 94 = .ok (.invokevirtual 107, 3) := by decide +kernel
theorem dX12_next_97 : decode cX12_next 97 = .ok (.invokestatic 114, 3) := by decide +kernel
theorem dX12_next_100 : decode cX12_next 100 = .ok (.ifCond .eq 16, 3) := by decide +kernel
theorem dX12_next_103 : decode cX12_next 103 = .ok (.aload_n 0, 1) := by decide +kernel
theorem dX12_next_104 : decode cX12_next 104 = .ok (.dup, 1) := by decide +kernel
theorem dX12_next_105 : decode cX12_next 105 = .ok (.getfield 104, 3) := by decide +kernel
theorem dX12_next_108 : decode cX12_next 108 = .ok (.iconst 1, 1) := by decide +kernel
theorem dX12_next_109 : decode cX12_next 109 = .ok (.iadd, 1) := by decide +kernel
theorem dX12_next_110 : decode cX12_next 110 = .ok (.putfield 104, 3) := by decide +kernel
theorem dX12_next_113 : decode cX12_next 113 = .ok (.goto (-24), 3) := by decide +kernel
theorem dX12_next_116 : decode cX12_next 116 = .ok (.aload_n 0, 1) := by decide +kernel
theorem dX12_next_117 : decode cX12_next 117 = .ok (.aload_n 0, 1) := by decide +kernel
theorem dX12_next_118 : decode cX12_next 118 = .ok (.invokevirtual 118, 3) := by decide +kernel
theorem dX12_next_121 : decode cX12_next 121 = .ok (.putfield 111, 3) := by decide +kernel
theorem dX12_next_124 : decode cX12_next 124 = .ok (.goto 170, 3) := by decide +kernel
theorem dX12_next_127 : decode cX12_next 127 = .ok (.aload_n 0, 1) := by decide +kernel
theorem dX12_next_128 : decode cX12_next 128 = .ok (.aload_n 0, 1) := by decide +kernel
theorem dX12_next_129 : decode cX12_next 129 = .ok (.getfield 101, 3) := by decide +kernel
theorem dX12_next_132 : decode cX12_next 132 = .ok (.invokevirtual 107, 3) := by decide +kernel
theorem dX12_next_135 : decode cX12_next 135 = .ok (.invokestatic 121, 3) := by decide +kernel
theorem dX12_next_138 : decode cX12_next 138 = .ok (.ifCond .eq 98, 3) := by decide +kernel
theorem dX12_next_141 : decode cX12_next 141 = .ok (.aload_n 0, 1) := by decide +kernel
theorem dX12_next_142 : decode cX12_next 142 = .ok (.iconst 0, 1) := by decide +kernel
theorem dX12_next_143 : decode cX12_next 143 = .ok (.putfield 124, 3) := by decide +kernel
theorem dX12_next_146 : decode cX12_next 146 = .ok (.aload_n 0, 1) := by decide +kernel
theorem dX12_next_147 : decode cX12_next 147 = .ok (.aload_n 0, 1) := by decide +kernel
theorem dX12_next_148 : decode cX12_next 148 = .ok (.getfield 104, 3) := by decide +kernel
theorem dX12_next_151 : decode cX12_next 151 = .ok (.invokevirtual 107, 3) := by decide +kernel
theorem dX12_next_154 : decode cX12_next 154 = .ok (.invokestatic 121, 3) := by decide +kernel
theorem dX12_next_157 : decode cX12_next 157 = .ok (.ifCond .eq 52, 3) := by decide +kernel
theorem dX12_next_160 : decode cX12_next 160 = .ok (.aload_n 0, 1) := by decide +kernel
theorem dX12_next_161 : decode cX12_next 161 = .ok (.getfield 104, 3) := by decide +kernel
theorem dX12_next_164 : decode cX12_next 164 = .ok (.aload_n 0, 1) := by decide +kernel
theorem dX12_next_165 : decode cX12_next 165 = .ok (.getfield 101, 3) := by decide +kernel
theorem dX12_next_168 : decode cX12_next 168 = .ok (.isub, 1) := by decide +kernel
theorem dX12_next_169 : decode cX12_next 169 = .ok (.iconst 3, 1) := by decide +kernel
theorem dX12_next_170 : decode cX12_next 170 = .ok (.if_icmp .ge 26, 3) := by decide +kernel
theorem dX12_next_173 : decode cX12_next 173 = .ok (.aload_n 0, 1) := by decide +kernel
theorem dX12_next_174 : decode cX12_next 174 = .ok (.bipush 10, 2) := by decide +kernel
theorem dX12_next_176 : decode cX12_next 176 = .ok (.aload_n 0, 1) := by decide +kernel
theorem dX12_next_177 : decode cX12_next 177 = .ok (.getfield 124, 3) := by decide +kernel
theorem dX12_next_180 : decode cX12_next 180 = .ok (.imul, 1) := by decide +kernel
theorem dX12_next_181 : decode cX12_next 181 = .ok (.aload_n 0, 1) := by decide +kernel
theorem dX12_next_182 : decode cX12_next 182 = .ok (.aload_n 0, 1) := by decide +kernel
theorem dX12_next_183 : decode cX12_next 183 = .ok (.getfield 104, 3) := by decide +kernel
theorem dX12_next_186 : decode cX12_next 186 = .ok (.invokevirtual 107, 3) := by decide +kernel
theorem dX12_next_189 : decode cX12_next 189 = .ok (.iadd, 1) := by decide +kernel
theorem dX12_next_190 : decode cX12_next 190 = .ok (.bipush 48, 2) := by decide +kernel
theorem dX12_next_192 : decode cX12_next 192 = .ok (.isub, 1) := by decide +kernel
theorem dX12_next_193 : decode cX12_next 193 = .ok (.putfield 124, 3) := by decide +kernel
theorem dX12_next_196 : decode cX12_next 196 = .ok (.aload_n 0, 1) := by decide +kernel
theorem dX12_next_197 : decode cX12_next 197 = .ok (.dup, 1) := by decide +kernel
theorem dX12_next_198 : decode cX12_next 198 = .ok (.getfield 104, 3) := by decide +kernel
theorem dX12_next_201 : decode cX12_next 201 = .ok (.iconst 1, 1) := by decide +kernel
theorem dX12_next_202 : decode cX12_next 202 = .ok (.iadd, 1) := by decide +kernel
theorem dX12_next_203 : decode cX12_next 203 = .ok (.putfield 104, 3) := by decide +kernel
theorem dX12_next_206 : decode cX12_next 206 = .ok (.goto (-60), 3) := by decide +kernel
theorem dX12_next_209 : decode cX12_next 209 = .ok (.aload_n 0, 1) := by decide +kernel
theorem dX12_next_210 : decode cX12_next 210 = .ok (.aload_n 0, 1) := by decide +kernel
theorem dX12_next_211 : decode cX12_next 211 = .ok (.getfield 104, 3) := by decide +kernel
theorem dX12_next_214 : decode cX12_next 214 = .ok (.aload_n 0, 1) := by decide +kernel
theorem dX12_next_215 : decode cX12_next 215 = .ok (.getfield 101, 3) := by decide +kernel
theorem dX12_next_218 : decode cX12_next 218 = .ok (.isub, 1) := by decide +kernel
theorem dX12_next_219 : decode cX12_next 219 = .ok (.iconst 3, 1) := by decide +kernel
theorem dX12_next_220 : decode cX12_next 220 = .ok (.if_icmp .le 8, 3) := by decide +kernel
theorem dX12_next_223 : decode cX12_next 223 = .ok (.bipush 18, 2) := by decide +kernel
theorem dX12_next_225 : decode cX12_next 225 = .ok (.goto 5, 3) := by decide +kernel
theorem dX12_next_228 : decode cX12_next 228 = .ok (.bipush 16, 2) := by decide +kernel
theorem dX12_next_230 : decode cX12_next 230 = .ok (.putfield 111, 3) := by decide +kernel
theorem dX12_next_233 : decode cX12_next 233 = .ok (.goto 61, 3) := by decide +kernel
theorem dX12_next_236 : decode cX12_next 236 = .ok (.aload_n 0, 1) := by decide +kernel
theorem dX12_next_237 : decode cX12_next 237 = .ok (.dup, 1) := by decide +kernel
theorem dX12_next_238 : decode cX12_next 238 = .ok (.getfield 104, 3) := by decide +kernel
theorem dX12_next_241 : decode cX12_next 241 = .ok (.iconst 1, 1) := by decide +kernel
theorem dX12_next_242 : decode cX12_next 242 = .ok (.iadd, 1) := by decide +kernel
theorem dX12_next_243 : decode cX12_next 243 = .ok (.putfield 104, 3) := by decide +kernel
theorem dX12_next_246 : decode cX12_next 246 = .ok (.aload_n 0, 1) := by decide +kernel
theorem dX12_next_247 : decode cX12_next 247 = .ok (.bipush 18, 2) := by decide +kernel
theorem dX12_next_249 : decode cX12_next 249 = .ok (.putfield 111, 3) := by decide +kernel
theorem dX12_next_252 : decode cX12_next 252 = .ok (.iconst 0, 1) := by decide +kernel
theorem dX12_next_253 : decode cX12_next 253 = .ok (.istore_n 1, 1) := by decide +kernel
theorem dX12_next_254 : decode cX12_next 254 = .ok (.iload_n 1, 1) := by decide +kernel
theorem dX12_next_255 : decode cX12_next 255 = .ok (.ldc 127, 2) := by decide +kernel
theorem dX12_next_257 : decode cX12_next 257 = .ok (.invokevirtual 91, 3) := by decide +kernel
theorem dX12_next_260 : decode cX12_next 260 = .ok (.if_icmp .ge 34, 3) := by decide +kernel
theorem dX12_next_263 : decode cX12_next 263 = .ok (.aload_n 0, 1) := by decide +kernel
theorem dX12_next_264 : decode cX12_next 264 = .ok (.aload_n 0, 1) := by decide +kernel
theorem dX12_next_265 : decode cX12_next 265 = .ok (.getfield 101, 3) := by decide +kernel
theorem dX12_next_268 : decode cX12_next 268 = .ok (.invokevirtual 107, 3) := by decide +kernel
theorem dX12_next_271 : decode cX12_next 271 = .ok (.ldc 127, 2) := by decide +kernel
theorem dX12_next_273 : decode cX12_next 273 = .ok (.iload_n 1, 1) := by decide +kernel
theorem dX12_next_274 : decode cX12_next 274 = .ok (.invokevirtual 97, 3) := by decide +kernel
theorem dX12_next_277 : decode cX12_next 277 = .ok (.if_icmp .ne 11, 3) := by decide +kernel
theorem dX12_next_280 : decode cX12_next 280 = .ok (.aload_n 0, 1) := by decide +kernel
theorem dX12_next_281 : decode cX12_next 281 = .ok (.bipush 20, 2) := by decide +kernel
theorem dX12_next_283 : decode cX12_next 283 = .ok (.iload_n 1, 1) := by decide +kernel
theorem dX12_next_284 : decode cX12_next 284 = .ok (.iadd, 1) := by decide +kernel
theorem dX12_next_285 : decode cX12_next 285 = .ok (.putfield 111, 3) := by decide +kernel
theorem dX12_next_288 : decode cX12_next 288 = .ok (.iinc 1 1, 3) := by decide +kernel
theorem dX12_next_291 : decode cX12_next 291 = .ok (.goto (-37), 3) := by decide +kernel
theorem dX12_next_294 : decode cX12_next 294 = .ok (.return_, 1) := by decide +kernel
theorem dX12_fails_0 : decode cX12_fails 0 = .ok (.aload_n 0, 1) := by decide +kernel
theorem dX12_fails_1 : decode cX12_fails 1 = .ok (.getfield 129, 3) := by decide +kernel
theorem dX12_fails_4 : decode cX12_fails 4 = .ok (.ifCond .eq 4, 3) := by decide +kernel
theorem dX12_fails_7 : decode cX12_fails 7 = .ok (.return_, 1) := by decide +kernel
theorem dX12_fails_8 : decode cX12_fails 8 = .ok (.aload_n 0, 1) := by decide +kernel
theorem dX12_fails_9 : decode cX12_fails 9 = .ok (.aload_n 0, 1) := by decide +kernel
theorem dX12_fails_10 : decode cX12_fails 10 = .ok (.getfield 111, 3) := by decide +kernel
theorem dX12_fails_13 : decode cX12_fails 13 = .ok (.bipush 18, 2) := by decide +kernel
theorem dX12_fails_15 : decode cX12_fails 15 = .ok (.if_icmp .ne 7, 3) := by decide +kernel
theorem dX12_fails_18 : decode cX12_fails 18 = .ok (.iconst 1, 1) := by decide +kernel
theorem dX12_fails_19 : decode cX12_fails 19 = .ok (.goto 4, 3) := by decide +kernel
theorem dX12_fails_22 : decode cX12_fails 22 = .ok (.iload_n 1, 1) := by decide +kernel
theorem dX12_fails_23 : decode cX12_fails 23 = .ok (.putfield 129, 3) := by decide +kernel
theorem dX12_fails_26 : decode cX12_fails 26 = .ok (.aload_n 0, 1) := by decide +kernel
theorem dX12_fails_27 : decode cX12_fails 27 = .ok (.aload_n 0, 1) := by decide +kernel
theorem dX12_fails_28 : decode cX12_fails 28 = .ok (.getfield 101, 3) := by decide +kernel
theorem dX12_fails_31 : decode cX12_fails 31 = .ok (.putfield 132, 3) := by decide +kernel
theorem dX12_fails_34 : decode cX12_fails 34 = .ok (.return_, 1) := by decide +kernel
theorem dX12_is_0 : decode cX12_is 0 = .ok (.aload_n 0, 1) := by decide +kernel
theorem dX12_is_1 : decode cX12_is 1 = .ok (.getfield 129, 3) := by decide +kernel
theorem dX12_is_4 : decode cX12_is 4 = .ok (.ifCond .ne 15, 3) := by decide +kernel
theorem dX12_is_7 : decode cX12_is 7 = .ok (.aload_n 0, 1) := by decide +kernel
theorem dX12_is_8 : decode cX12_is 8 = .ok (.getfield 111, 3) := by decide +kernel
theorem dX12_is_11 : decode cX12_is 11 = .ok (.iload_n 1, 1) := by decide +kernel
theorem dX12_is_12 : decode cX12_is 12 = .ok (.if_icmp .ne 7, 3) := by decide +kernel
theorem dX12_is_15 : decode cX12_is 15 = .ok (.iconst 1, 1) := by decide +kernel
theorem dX12_is_16 : decode cX12_is 16 = .ok (.goto 4, 3) := by decide +kernel
theorem dX12_is_19 : decode cX12_is 19 = .ok (.iconst 0, 1) := by decide +kernel
theorem dX12_is_20 : decode cX12_is 20 = .ok (.ireturn, 1) := by decide +kernel
theorem dX12_eats_0 : decode cX12_eats 0 = .ok (.aload_n 0, 1) := by decide +kernel
theorem dX12_eats_1 : decode cX12_eats 1 = .ok (.iload_n 1, 1) := by decide +kernel
theorem dX12_eats_2 : decode cX12_eats 2 = .ok (.invokevirtual 135, 3) := by decide +kernel
theorem dX12_eats_5 : decode cX12_eats 5 = .ok (.ifCond .ne 5, 3) := by decide +kernel
theorem dX12_eats_8 : decode cX12_eats 8 = .ok (.iconst 0, 1) := by decide +kernel
theorem dX12_eats_9 : decode cX12_eats 9 = .ok (.ireturn, 1) := by decide +kernel
theorem dX12_eats_10 : decode cX12_eats 10 = .ok (.aload_n 0, 1) := by decide +kernel
theorem dX12_eats_11 : decode cX12_eats 11 = .ok (.invokevirtual 138, 3) := by decide +kernel
theorem dX12_eats_14 : decode cX12_eats 14 = .ok (.iconst 1, 1) := by decide +kernel
theorem dX12_eats_15 : decode cX12_eats 15 = .ok (.ireturn, 1) := by decide +kernel
theorem dX12_takes_0 : decode cX12_takes 0 = .ok (.aload_n 0, 1) := by decide +kernel
theorem dX12_takes_1 : decode cX12_takes 1 = .ok (.bipush 16, 2) := by decide +kernel
theorem dX12_takes_3 : decode cX12_takes 3 = .ok (.invokevirtual 135, 3) := by decide +kernel
theorem dX12_takes_6 : decode cX12_takes 6 = .ok (.ifCond .ne 11, 3) := by decide +kernel
theorem dX12_takes_9 : decode cX12_takes 9 = .ok (.aload_n 0, 1) := by decide +kernel
theorem dX12_takes_10 : decode cX12_takes 10 = .ok (.iconst 2, 1) := by decide +kernel
theorem dX12_takes_11 : decode cX12_takes 11 = .ok (.invokevirtual 141, 3) := by decide +kernel
theorem dX12_takes_14 : decode cX12_takes 14 = .ok (.goto 23, 3) := by decide +kernel
theorem dX12_takes_17 : decode cX12_takes 17 = .ok (.aload_n 0, 1) := by decide +kernel
theorem dX12_takes_18 : decode cX12_takes 18 = .ok (.getfield 124, 3) := by decide +kernel
theorem dX12_takes_21 : decode cX12_takes 21 = .ok (.i2l, 1) := by decide +kernel
theorem dX12_takes_22 : decode cX12_takes 22 = .ok (.iload_n 1, 1) := by decide +kernel
theorem dX12_takes_23 : decode cX12_takes 23 = .ok (.i2l, 1) := by decide +kernel
theorem dX12_takes_24 : decode cX12_takes 24 = .ok (.iload_n 2, 1) := by decide +kernel
theorem dX12_takes_25 : decode cX12_takes 25 = .ok (.i2l, 1) := by decide +kernel
theorem dX12_takes_26 : decode cX12_takes 26 = .ok (.invokestatic 145, 3) := by decide +kernel
theorem dX12_takes_29 : decode cX12_takes 29 = .ok (.ifCond .ne 8, 3) := by decide +kernel
theorem dX12_takes_32 : decode cX12_takes 32 = .ok (.aload_n 0, 1) := by decide +kernel
theorem dX12_takes_33 : decode cX12_takes 33 = .ok (.iconst 3, 1) := by decide +kernel
theorem dX12_takes_34 : decode cX12_takes 34 = .ok (.invokevirtual 141, 3) := by decide +kernel
theorem dX12_takes_37 : decode cX12_takes 37 = .ok (.aload_n 0, 1) := by decide +kernel
theorem dX12_takes_38 : decode cX12_takes 38 = .ok (.getfield 124, 3) := by decide +kernel
theorem dX12_takes_41 : decode cX12_takes 41 = .ok (.istore_n 3, 1) := by decide +kernel
theorem dX12_takes_42 : decode cX12_takes 42 = .ok (.aload_n 0, 1) := by decide +kernel
theorem dX12_takes_43 : decode cX12_takes 43 = .ok (.getfield 129, 3) := by decide +kernel
theorem dX12_takes_46 : decode cX12_takes 46 = .ok (.ifCond .ne 7, 3) := by decide +kernel
theorem dX12_takes_49 : decode cX12_takes 49 = .ok (.aload_n 0, 1) := by decide +kernel
theorem dX12_takes_50 : decode cX12_takes 50 = .ok (.invokevirtual 138, 3) := by decide +kernel
theorem dX12_takes_53 : decode cX12_takes 53 = .ok (.iload_n 3, 1) := by decide +kernel
theorem dX12_takes_54 : decode cX12_takes 54 = .ok (.ireturn, 1) := by decide +kernel
theorem dX12_isIn_0 : decode cX12_isIn 0 = .ok (.lload_n 0, 1) := by decide +kernel
theorem dX12_isIn_1 : decode cX12_isIn 1 = .ok (.iload_n 2, 1) := by decide +kernel
theorem dX12_isIn_2 : decode cX12_isIn 2 = .ok (.lshr, 1) := by decide +kernel
theorem dX12_isIn_3 : decode cX12_isIn 3 = .ok (.lconst 1, 1) := by decide +kernel
theorem dX12_isIn_4 : decode cX12_isIn 4 = .ok (.land, 1) := by decide +kernel
theorem dX12_isIn_5 : decode cX12_isIn 5 = .ok (.lconst 1, 1) := by decide +kernel
theorem dX12_isIn_6 : decode cX12_isIn 6 = .ok (.lcmp, 1) := by decide +kernel
theorem dX12_isIn_7 : decode cX12_isIn 7 = .ok (.ifCond .ne 7, 3) := by decide +kernel
theorem dX12_isIn_10 : decode cX12_isIn 10 = .ok (.iconst 1, 1) := by decide +kernel
theorem dX12_isIn_11 : decode cX12_isIn 11 = .ok (.goto 4, 3) := by decide +kernel
theorem dX12_isIn_14 : decode cX12_isIn 14 = .ok (.iconst 0, 1) := by decide +kernel
theorem dX12_isIn_15 : decode cX12_isIn 15 = .ok (.ireturn, 1) := by decide +kernel
theorem dX12_readWorld_0 : decode cX12_readWorld 0 = .ok (.aload_n 0, 1) := by decide +kernel
theorem dX12_readWorld_1 : decode cX12_readWorld 1 = .ok (.getfield 24, 3) := by decide +kernel
theorem dX12_readWorld_4 : decode cX12_readWorld 4 = .ok (.iconst 1, 1) := by decide +kernel
theorem dX12_readWorld_5 : decode cX12_readWorld 5 = .ok (.iaload, 1) := by decide +kernel
theorem dX12_readWorld_6 : decode cX12_readWorld 6 = .ok (.istore_n 1, 1) := by decide +kernel
theorem dX12_readWorld_7 : decode cX12_readWorld 7 = .ok (.iload_n 1, 1) := by decide +kernel
theorem dX12_readWorld_8 : decode cX12_readWorld 8 = .ok (.bipush 16, 2) := by decide +kernel
theorem dX12_readWorld_10 : decode cX12_readWorld 10 = .ok (.if_icmp .ne 8, 3) := by decide +kernel
theorem dX12_readWorld_13 : decode cX12_readWorld 13 = .ok (.aload_n 0, 1) := by decide +kernel
theorem dX12_readWorld_14 : decode cX12_readWorld 14 = .ok (.iconst 4, 1) := by decide +kernel
theorem dX12_readWorld_15 : decode cX12_readWorld 15 = .ok (.invokevirtual 141, 3) := by decide +kernel
theorem dX12_readWorld_18 : decode cX12_readWorld 18 = .ok (.aload_n 0, 1) := by decide +kernel
theorem dX12_readWorld_19 : decode cX12_readWorld 19 = .ok (.getfield 129, 3) := by decide +kernel
theorem dX12_readWorld_22 : decode cX12_readWorld 22 = .ok (.ifCond .eq 4, 3) := by decide +kernel
theorem dX12_readWorld_25 : decode cX12_readWorld 25 = .ok (.return_, 1) := by decide +kernel
theorem dX12_readWorld_26 : decode cX12_readWorld 26 = .ok (.aload_n 0, 1) := by decide +kernel
theorem dX12_readWorld_27 : decode cX12_readWorld 27 = .ok (.invokevirtual 138, 3) := by decide +kernel
theorem dX12_readWorld_30 : decode cX12_readWorld 30 = .ok (.iconst 0, 1) := by decide +kernel
theorem dX12_readWorld_31 : decode cX12_readWorld 31 = .ok (.istore_n 2, 1) := by decide +kernel
theorem dX12_readWorld_32 : decode cX12_readWorld 32 = .ok (.iload_n 2, 1) := by decide +kernel
theorem dX12_readWorld_33 : decode cX12_readWorld 33 = .ok (.iconst 3, 1) := by decide +kernel
theorem dX12_readWorld_34 : decode cX12_readWorld 34 = .ok (.if_icmp .ge 39, 3) := by decide +kernel
theorem dX12_readWorld_37 : decode cX12_readWorld 37 = .ok (.aload_n 0, 1) := by decide +kernel
theorem dX12_readWorld_38 : decode cX12_readWorld 38 = .ok (.iconst 0, 1) := by decide +kernel
theorem dX12_readWorld_39 : decode cX12_readWorld 39 = .ok (.bipush 99, 2) := by decide +kernel
theorem dX12_readWorld_41 : decode cX12_readWorld 41 = .ok (.invokevirtual 149, 3) := by decide +kernel
theorem dX12_readWorld_44 : decode cX12_readWorld 44 = .ok (.istore_n 3, 1) := by decide +kernel
theorem dX12_readWorld_45 : decode cX12_readWorld 45 = .ok (.aload_n 0, 1) := by decide +kernel
theorem dX12_readWorld_46 : decode cX12_readWorld 46 = .ok (.getfield 129, 3) := by decide +kernel
theorem dX12_readWorld_49 : decode cX12_readWorld 49 = .ok (.ifCond .ne 18, 3) := by decide +kernel
theorem dX12_readWorld_52 : decode cX12_readWorld 52 = .ok (.aload_n 0, 1) := by decide +kernel
theorem dX12_readWorld_53 : decode cX12_readWorld 53 = .ok (.getfield 24, 3) := by decide +kernel
theorem dX12_readWorld_56 : decode cX12_readWorld 56 = .ok (.bipush 11, 2) := by decide +kernel
theorem dX12_readWorld_58 : decode cX12_readWorld 58 = .ok (.bipush 16, 2) := by decide +kernel
theorem dX12_readWorld_60 : decode cX12_readWorld 60 = .ok (.iload_n 2, 1) := by decide +kernel
theorem dX12_readWorld_61 : decode cX12_readWorld 61 = .ok (.imul, 1) := by decide +kernel
theorem dX12_readWorld_62 : decode cX12_readWorld 62 = .ok (.iadd, 1) := by decide +kernel
theorem dX12_readWorld_63 : decode cX12_readWorld 63 = .ok (.iload_n 1, 1) := by decide +kernel
theorem dX12_readWorld_64 : decode cX12_readWorld 64 = .ok (.iadd, 1) := by decide +kernel
theorem dX12_readWorld_65 : decode cX12_readWorld 65 = .ok (.iload_n 3, 1) := by decide +kernel
theorem dX12_readWorld_66 : decode cX12_readWorld 66 = .ok (.iastore, 1) := by decide +kernel
theorem dX12_readWorld_67 : decode cX12_readWorld 67 = .ok (.iinc 2 1, 3) := by decide +kernel
theorem dX12_readWorld_70 : decode cX12_readWorld 70 = .ok (.goto (-38), 3) := by decide +kernel
theorem dX12_readWorld_73 : decode cX12_readWorld 73 = .ok (.aload_n 0, 1) := by decide +kernel
theorem dX12_readWorld_74 : decode cX12_readWorld 74 = .ok (.iconst 1, 1) := by decide +kernel
theorem dX12_readWorld_75 : decode cX12_readWorld 75 = .ok (.invokevirtual 153, 3) := by decide +kernel
theorem dX12_readWorld_78 : decode cX12_readWorld 78 = .ok (.ifCond .eq 13, 3) := by decide +kernel
theorem dX12_readWorld_81 : decode cX12_readWorld 81 = .ok (.aload_n 0, 1) := by decide +kernel
theorem dX12_readWorld_82 : decode cX12_readWorld 82 = .ok (.iconst 1, 1) := by decide +kernel
theorem dX12_readWorld_83 : decode cX12_readWorld 83 = .ok (.bipush 9, 2) := by decide +kernel
theorem dX12_readWorld_85 : decode cX12_readWorld 85 = .ok (.invokevirtual 149, 3) := by decide +kernel
theorem dX12_readWorld_88 : decode cX12_readWorld 88 = .ok (.goto 4, 3) := by decide +kernel
theorem dX12_readWorld_91 : decode cX12_readWorld 91 = .ok (.iconst 1, 1) := by decide +kernel
theorem dX12_readWorld_92 : decode cX12_readWorld 92 = .ok (.istore_n 2, 1) := by decide +kernel
theorem dX12_readWorld_93 : decode cX12_readWorld 93 = .ok (.aload_n 0, 1) := by decide +kernel
theorem dX12_readWorld_94 : decode cX12_readWorld 94 = .ok (.iconst 2, 1) := by decide +kernel
theorem dX12_readWorld_95 : decode cX12_readWorld 95 = .ok (.invokevirtual 153, 3) := by decide +kernel
theorem dX12_readWorld_98 : decode cX12_readWorld 98 = .ok (.ifCond .eq 7, 3) := by decide +kernel
theorem dX12_readWorld_101 : decode cX12_readWorld 101 = .ok (.iconst 1, 1) := by decide +kernel
theorem dX12_readWorld_102 : decode cX12_readWorld 102 = .ok (.goto 4, 3) := by decide +kernel
theorem dX12_readWorld_105 : decode cX12_readWorld 105 = .ok (.iconst 0, 1) := by decide +kernel
theorem dX12_readWorld_106 : decode cX12_readWorld 106 = .ok (.istore_n 3, 1) := by decide +kernel
theorem dX12_readWorld_107 : decode cX12_readWorld 107 = .ok (.aload_n 0, 1) := by decide +kernel
theorem dX12_readWorld_108 : decode cX12_readWorld 108 = .ok (.getfield 129, 3) := by decide +kernel
theorem dX12_readWorld_111 : decode cX12_readWorld 111 = .ok (.ifCond .eq 4, 3) := by decide +kernel
theorem dX12_readWorld_114 : decode cX12_readWorld 114 = .ok (.return_, 1) := by decide +kernel
theorem dX12_readWorld_115 : decode cX12_readWorld 115 = .ok (.aload_n 0, 1) := by decide +kernel
theorem dX12_readWorld_116 : decode cX12_readWorld 116 = .ok (.getfield 24, 3) := by decide +kernel
theorem dX12_readWorld_119 : decode cX12_readWorld 119 = .ok (.bipush 59, 2) := by decide +kernel
theorem dX12_readWorld_121 : decode cX12_readWorld 121 = .ok (.iload_n 1, 1) := by decide +kernel
theorem dX12_readWorld_122 : decode cX12_readWorld 122 = .ok (.iadd, 1) := by decide +kernel
theorem dX12_readWorld_123 : decode cX12_readWorld 123 = .ok (.iload_n 2, 1) := by decide +kernel
theorem dX12_readWorld_124 : decode cX12_readWorld 124 = .ok (.iastore, 1) := by decide +kernel
theorem dX12_readWorld_125 : decode cX12_readWorld 125 = .ok (.aload_n 0, 1) := by decide +kernel
theorem dX12_readWorld_126 : decode cX12_readWorld 126 = .ok (.getfield 24, 3) := by decide +kernel
theorem dX12_readWorld_129 : decode cX12_readWorld 129 = .ok (.bipush 75, 2) := by decide +kernel
theorem dX12_readWorld_131 : decode cX12_readWorld 131 = .ok (.iload_n 1, 1) := by decide +kernel
theorem dX12_readWorld_132 : decode cX12_readWorld 132 = .ok (.iadd, 1) := by decide +kernel
theorem dX12_readWorld_133 : decode cX12_readWorld 133 = .ok (.iload_n 3, 1) := by decide +kernel
theorem dX12_readWorld_134 : decode cX12_readWorld 134 = .ok (.iastore, 1) := by decide +kernel
theorem dX12_readWorld_135 : decode cX12_readWorld 135 = .ok (.aload_n 0, 1) := by decide +kernel
theorem dX12_readWorld_136 : decode cX12_readWorld 136 = .ok (.getfield 24, 3) := by decide +kernel
theorem dX12_readWorld_139 : decode cX12_readWorld 139 = .ok (.iconst 1, 1) := by decide +kernel
theorem dX12_readWorld_140 : decode cX12_readWorld 140 = .ok (.dup2, 1) := by decide +kernel
theorem dX12_readWorld_141 : decode cX12_readWorld 141 = .ok (.iaload, 1) := by decide +kernel
theorem dX12_readWorld_142 : decode cX12_readWorld 142 = .ok (.iconst 1, 1) := by decide +kernel
theorem dX12_readWorld_143 : decode cX12_readWorld 143 = .ok (.iadd, 1) := by decide +kernel
theorem dX12_readWorld_144 : decode cX12_readWorld 144 = .ok (.iastore, 1) := by decide +kernel
theorem dX12_readWorld_145 : decode cX12_readWorld 145 = .ok (.return_, 1) := by decide +kernel
theorem dX12_readPerson_0 : decode cX12_readPerson 0 = .ok (.aload_n 0, 1) := by decide +kernel
theorem dX12_readPerson_1 : decode cX12_readPerson 1 = .ok (.getfield 24, 3) := by decide +kernel
theorem dX12_readPerson_4 : decode cX12_readPerson 4 = .ok (.iconst 3, 1) := by decide +kernel
theorem dX12_readPerson_5 : decode cX12_readPerson 5 = .ok (.iaload, 1) := by decide +kernel
theorem dX12_readPerson_6 : decode cX12_readPerson 6 = .ok (.istore_n 1, 1) := by decide +kernel
theorem dX12_readPerson_7 : decode cX12_readPerson 7 = .ok (.iload_n 1, 1) := by decide +kernel
theorem dX12_readPerson_8 : decode cX12_readPerson 8 = .ok (.bipush 6, 2) := by decide +kernel
theorem dX12_readPerson_10 : decode cX12_readPerson 10 = .ok (.if_icmp .ne 8, 3) := by decide +kernel
theorem dX12_readPerson_13 : decode cX12_readPerson 13 = .ok (.aload_n 0, 1) := by decide +kernel
theorem dX12_readPerson_14 : decode cX12_readPerson 14 = .ok (.iconst 4, 1) := by decide +kernel
theorem dX12_readPerson_15 : decode cX12_readPerson 15 = .ok (.invokevirtual 141, 3) := by decide +kernel
theorem dX12_readPerson_18 : decode cX12_readPerson 18 = .ok (.aload_n 0, 1) := by decide +kernel
theorem dX12_readPerson_19 : decode cX12_readPerson 19 = .ok (.getfield 129, 3) := by decide +kernel
theorem dX12_readPerson_22 : decode cX12_readPerson 22 = .ok (.ifCond .eq 4, 3) := by decide +kernel
theorem dX12_readPerson_25 : decode cX12_readPerson 25 = .ok (.return_, 1) := by decide +kernel
theorem dX12_readPerson_26 : decode cX12_readPerson 26 = .ok (.aload_n 0, 1) := by decide +kernel
theorem dX12_readPerson_27 : decode cX12_readPerson 27 = .ok (.invokevirtual 138, 3) := by decide +kernel
theorem dX12_readPerson_30 : decode cX12_readPerson 30 = .ok (.iconst 0, 1) := by decide +kernel
theorem dX12_readPerson_31 : decode cX12_readPerson 31 = .ok (.istore_n 2, 1) := by decide +kernel
theorem dX12_readPerson_32 : decode cX12_readPerson 32 = .ok (.aload_n 0, 1) := by decide +kernel
theorem dX12_readPerson_33 : decode cX12_readPerson 33 = .ok (.iconst 5, 1) := by decide +kernel
theorem dX12_readPerson_34 : decode cX12_readPerson 34 = .ok (.invokevirtual 153, 3) := by decide +kernel
theorem dX12_readPerson_37 : decode cX12_readPerson 37 = .ok (.ifCond .eq 60, 3) := by decide +kernel
theorem dX12_readPerson_40 : decode cX12_readPerson 40 = .ok (.iconst 0, 1) := by decide +kernel
theorem dX12_readPerson_41 : decode cX12_readPerson 41 = .ok (.istore_n 3, 1) := by decide +kernel
theorem dX12_readPerson_42 : decode cX12_readPerson 42 = .ok (.aload_n 0, 1) := by decide +kernel
theorem dX12_readPerson_43 : decode cX12_readPerson 43 = .ok (.getfield 129, 3) := by decide +kernel
theorem dX12_readPerson_46 : decode cX12_readPerson 46 = .ok (.ifCond .ne 51, 3) := by decide +kernel
theorem dX12_readPerson_49 : decode cX12_readPerson 49 = .ok (.iload_n 3, 1) := by decide +kernel
theorem dX12_readPerson_50 : decode cX12_readPerson 50 = .ok (.ifCond .eq 12, 3) := by decide +kernel
theorem dX12_readPerson_53 : decode cX12_readPerson 53 = .ok (.aload_n 0, 1) := by decide +kernel
theorem dX12_readPerson_54 : decode cX12_readPerson 54 = .ok (.getfield 111, 3) := by decide +kernel
theorem dX12_readPerson_57 : decode cX12_readPerson 57 = .ok (.bipush 16, 2) := by decide +kernel
theorem dX12_readPerson_59 : decode cX12_readPerson 59 = .ok (.if_icmp .ne 38, 3) := by decide +kernel
theorem dX12_readPerson_62 : decode cX12_readPerson 62 = .ok (.aload_n 0, 1) := by decide +kernel
theorem dX12_readPerson_63 : decode cX12_readPerson 63 = .ok (.iconst 0, 1) := by decide +kernel
theorem dX12_readPerson_64 : decode cX12_readPerson 64 = .ok (.aload_n 0, 1) := by decide +kernel
theorem dX12_readPerson_65 : decode cX12_readPerson 65 = .ok (.getfield 24, 3) := by decide +kernel
theorem dX12_readPerson_68 : decode cX12_readPerson 68 = .ok (.iconst 2, 1) := by decide +kernel
theorem dX12_readPerson_69 : decode cX12_readPerson 69 = .ok (.iaload, 1) := by decide +kernel
theorem dX12_readPerson_70 : decode cX12_readPerson 70 = .ok (.iconst 1, 1) := by decide +kernel
theorem dX12_readPerson_71 : decode cX12_readPerson 71 = .ok (.isub, 1) := by decide +kernel
theorem dX12_readPerson_72 : decode cX12_readPerson 72 = .ok (.invokevirtual 149, 3) := by decide +kernel
theorem dX12_readPerson_75 : decode cX12_readPerson 75 = .ok (.istore 4, 2) := by decide +kernel
theorem dX12_readPerson_77 : decode cX12_readPerson 77 = .ok (.aload_n 0, 1) := by decide +kernel
theorem dX12_readPerson_78 : decode cX12_readPerson 78 = .ok (.getfield 129, 3) := by decide +kernel
theorem dX12_readPerson_81 : decode cX12_readPerson 81 = .ok (.ifCond .ne 10, 3) := by decide +kernel
theorem dX12_readPerson_84 : decode cX12_readPerson 84 = .ok (.iload_n 2, 1) := by decide +kernel
theorem dX12_readPerson_85 : decode cX12_readPerson 85 = .ok (.iconst 1, 1) := by decide +kernel
theorem dX12_readPerson_86 : decode cX12_readPerson 86 = .ok (.iload 4, 2) := by decide +kernel
theorem dX12_readPerson_88 : decode cX12_readPerson 88 = .ok (.ishl, 1) := by decide +kernel
theorem dX12_readPerson_89 : decode cX12_readPerson 89 = .ok (.ior, 1) := by decide +kernel
theorem dX12_readPerson_90 : decode cX12_readPerson 90 = .ok (.istore_n 2, 1) := by decide +kernel
theorem dX12_readPerson_91 : decode cX12_readPerson 91 = .ok (.iinc 3 1, 3) := by decide +kernel
theorem dX12_readPerson_94 : decode cX12_readPerson 94 = .ok (.goto (-52), 3) := by decide +kernel
theorem dX12_readPerson_97 : decode cX12_readPerson 97 = .ok (.aload_n 0, 1) := by decide +kernel
theorem dX12_readPerson_98 : decode cX12_readPerson 98 = .ok (.getfield 129, 3) := by decide +kernel
theorem dX12_readPerson_101 : decode cX12_readPerson 101 = .ok (.ifCond .eq 4, 3) := by decide +kernel
theorem dX12_readPerson_104 : decode cX12_readPerson 104 = .ok (.return_, 1) := by decide +kernel
theorem dX12_readPerson_105 : decode cX12_readPerson 105 = .ok (.aload_n 0, 1) := by decide +kernel
theorem dX12_readPerson_106 : decode cX12_readPerson 106 = .ok (.getfield 24, 3) := by decide +kernel
theorem dX12_readPerson_109 : decode cX12_readPerson 109 = .ok (.iconst 5, 1) := by decide +kernel
theorem dX12_readPerson_110 : decode cX12_readPerson 110 = .ok (.iload_n 1, 1) := by decide +kernel
theorem dX12_readPerson_111 : decode cX12_readPerson 111 = .ok (.iadd, 1) := by decide +kernel
theorem dX12_readPerson_112 : decode cX12_readPerson 112 = .ok (.iload_n 2, 1) := by decide +kernel
theorem dX12_readPerson_113 : decode cX12_readPerson 113 = .ok (.iastore, 1) := by decide +kernel
theorem dX12_readPerson_114 : decode cX12_readPerson 114 = .ok (.aload_n 0, 1) := by decide +kernel
theorem dX12_readPerson_115 : decode cX12_readPerson 115 = .ok (.getfield 24, 3) := by decide +kernel
theorem dX12_readPerson_118 : decode cX12_readPerson 118 = .ok (.iconst 3, 1) := by decide +kernel
theorem dX12_readPerson_119 : decode cX12_readPerson 119 = .ok (.dup2, 1) := by decide +kernel
theorem dX12_readPerson_120 : decode cX12_readPerson 120 = .ok (.iaload, 1) := by decide +kernel
theorem dX12_readPerson_121 : decode cX12_readPerson 121 = .ok (.iconst 1, 1) := by decide +kernel
theorem dX12_readPerson_122 : decode cX12_readPerson 122 = .ok (.iadd, 1) := by decide +kernel
theorem dX12_readPerson_123 : decode cX12_readPerson 123 = .ok (.iastore, 1) := by decide +kernel
theorem dX12_readPerson_124 : decode cX12_readPerson 124 = .ok (.return_, 1) := by decide +kernel
theorem dX12_readRoad_0 : decode cX12_readRoad 0 = .ok (.aload_n 0, 1) := by decide +kernel
theorem dX12_readRoad_1 : decode cX12_readRoad 1 = .ok (.iconst 0, 1) := by decide +kernel
theorem dX12_readRoad_2 : decode cX12_readRoad 2 = .ok (.aload_n 0, 1) := by decide +kernel
theorem dX12_readRoad_3 : decode cX12_readRoad 3 = .ok (.getfield 24, 3) := by decide +kernel
theorem dX12_readRoad_6 : decode cX12_readRoad 6 = .ok (.iconst 3, 1) := by decide +kernel
theorem dX12_readRoad_7 : decode cX12_readRoad 7 = .ok (.iaload, 1) := by decide +kernel
theorem dX12_readRoad_8 : decode cX12_readRoad 8 = .ok (.iconst 1, 1) := by decide +kernel
theorem dX12_readRoad_9 : decode cX12_readRoad 9 = .ok (.isub, 1) := by decide +kernel
theorem dX12_readRoad_10 : decode cX12_readRoad 10 = .ok (.invokevirtual 149, 3) := by decide +kernel
theorem dX12_readRoad_13 : decode cX12_readRoad 13 = .ok (.istore_n 1, 1) := by decide +kernel
theorem dX12_readRoad_14 : decode cX12_readRoad 14 = .ok (.aload_n 0, 1) := by decide +kernel
theorem dX12_readRoad_15 : decode cX12_readRoad 15 = .ok (.bipush 16, 2) := by decide +kernel
theorem dX12_readRoad_17 : decode cX12_readRoad 17 = .ok (.invokevirtual 135, 3) := by decide +kernel
theorem dX12_readRoad_20 : decode cX12_readRoad 20 = .ok (.ifCond .eq 16, 3) := by decide +kernel
theorem dX12_readRoad_23 : decode cX12_readRoad 23 = .ok (.aload_n 0, 1) := by decide +kernel
theorem dX12_readRoad_24 : decode cX12_readRoad 24 = .ok (.getfield 124, 3) := by decide +kernel
theorem dX12_readRoad_27 : decode cX12_readRoad 27 = .ok (.iload_n 1, 1) := by decide +kernel
theorem dX12_readRoad_28 : decode cX12_readRoad 28 = .ok (.if_icmp .ne 8, 3) := by decide +kernel
theorem dX12_readRoad_31 : decode cX12_readRoad 31 = .ok (.aload_n 0, 1) := by decide +kernel
theorem dX12_readRoad_32 : decode cX12_readRoad 32 = .ok (.iconst 3, 1) := by decide +kernel
theorem dX12_readRoad_33 : decode cX12_readRoad 33 = .ok (.invokevirtual 141, 3) := by decide +kernel
theorem dX12_readRoad_36 : decode cX12_readRoad 36 = .ok (.aload_n 0, 1) := by decide +kernel
theorem dX12_readRoad_37 : decode cX12_readRoad 37 = .ok (.iconst 0, 1) := by decide +kernel
theorem dX12_readRoad_38 : decode cX12_readRoad 38 = .ok (.aload_n 0, 1) := by decide +kernel
theorem dX12_readRoad_39 : decode cX12_readRoad 39 = .ok (.getfield 24, 3) := by decide +kernel
theorem dX12_readRoad_42 : decode cX12_readRoad 42 = .ok (.iconst 3, 1) := by decide +kernel
theorem dX12_readRoad_43 : decode cX12_readRoad 43 = .ok (.iaload, 1) := by decide +kernel
theorem dX12_readRoad_44 : decode cX12_readRoad 44 = .ok (.iconst 1, 1) := by decide +kernel
theorem dX12_readRoad_45 : decode cX12_readRoad 45 = .ok (.isub, 1) := by decide +kernel
theorem dX12_readRoad_46 : decode cX12_readRoad 46 = .ok (.invokevirtual 149, 3) := by decide +kernel
theorem dX12_readRoad_49 : decode cX12_readRoad 49 = .ok (.istore_n 2, 1) := by decide +kernel
theorem dX12_readRoad_50 : decode cX12_readRoad 50 = .ok (.aload_n 0, 1) := by decide +kernel
theorem dX12_readRoad_51 : decode cX12_readRoad 51 = .ok (.getfield 129, 3) := by decide +kernel
theorem dX12_readRoad_54 : decode cX12_readRoad 54 = .ok (.ifCond .eq 4, 3) := by decide +kernel
theorem dX12_readRoad_57 : decode cX12_readRoad 57 = .ok (.return_, 1) := by decide +kernel
theorem dX12_readRoad_58 : decode cX12_readRoad 58 = .ok (.aload_n 0, 1) := by decide +kernel
theorem dX12_readRoad_59 : decode cX12_readRoad 59 = .ok (.getfield 24, 3) := by decide +kernel
theorem dX12_readRoad_62 : decode cX12_readRoad 62 = .ok (.bipush 91, 2) := by decide +kernel
theorem dX12_readRoad_64 : decode cX12_readRoad 64 = .ok (.iload_n 1, 1) := by decide +kernel
theorem dX12_readRoad_65 : decode cX12_readRoad 65 = .ok (.iadd, 1) := by decide +kernel
theorem dX12_readRoad_66 : decode cX12_readRoad 66 = .ok (.dup2, 1) := by decide +kernel
theorem dX12_readRoad_67 : decode cX12_readRoad 67 = .ok (.iaload, 1) := by decide +kernel
theorem dX12_readRoad_68 : decode cX12_readRoad 68 = .ok (.iconst 1, 1) := by decide +kernel
theorem dX12_readRoad_69 : decode cX12_readRoad 69 = .ok (.iload_n 2, 1) := by decide +kernel
theorem dX12_readRoad_70 : decode cX12_readRoad 70 = .ok (.ishl, 1) := by decide +kernel
theorem dX12_readRoad_71 : decode cX12_readRoad 71 = .ok (.ior, 1) := by decide +kernel
theorem dX12_readRoad_72 : decode cX12_readRoad 72 = .ok (.iastore, 1) := by decide +kernel
theorem dX12_readRoad_73 : decode cX12_readRoad 73 = .ok (.aload_n 0, 1) := by decide +kernel
theorem dX12_readRoad_74 : decode cX12_readRoad 74 = .ok (.getfield 24, 3) := by decide +kernel
theorem dX12_readRoad_77 : decode cX12_readRoad 77 = .ok (.bipush 91, 2) := by decide +kernel
theorem dX12_readRoad_79 : decode cX12_readRoad 79 = .ok (.iload_n 2, 1) := by decide +kernel
theorem dX12_readRoad_80 : decode cX12_readRoad 80 = .ok (.iadd, 1) := by decide +kernel
theorem dX12_readRoad_81 : decode cX12_readRoad 81 = .ok (.dup2, 1) := by decide +kernel
theorem dX12_readRoad_82 : decode cX12_readRoad 82 = .ok (.iaload, 1) := by decide +kernel
theorem dX12_readRoad_83 : decode cX12_readRoad 83 = .ok (.iconst 1, 1) := by decide +kernel
theorem dX12_readRoad_84 : decode cX12_readRoad 84 = .ok (.iload_n 1, 1) := by decide +kernel
theorem dX12_readRoad_85 : decode cX12_readRoad 85 = .ok (.ishl, 1) := by decide +kernel
theorem dX12_readRoad_86 : decode cX12_readRoad 86 = .ok (.ior, 1) := by decide +kernel
theorem dX12_readRoad_87 : decode cX12_readRoad 87 = .ok (.iastore, 1) := by decide +kernel
theorem dX12_readRoad_88 : decode cX12_readRoad 88 = .ok (.return_, 1) := by decide +kernel
theorem dX12_readHint_0 : decode cX12_readHint 0 = .ok (.aload_n 0, 1) := by decide +kernel
theorem dX12_readHint_1 : decode cX12_readHint 1 = .ok (.iconst 0, 1) := by decide +kernel
theorem dX12_readHint_2 : decode cX12_readHint 2 = .ok (.aload_n 0, 1) := by decide +kernel
theorem dX12_readHint_3 : decode cX12_readHint 3 = .ok (.getfield 24, 3) := by decide +kernel
theorem dX12_readHint_6 : decode cX12_readHint 6 = .ok (.iconst 2, 1) := by decide +kernel
theorem dX12_readHint_7 : decode cX12_readHint 7 = .ok (.iaload, 1) := by decide +kernel
theorem dX12_readHint_8 : decode cX12_readHint 8 = .ok (.iconst 1, 1) := by decide +kernel
theorem dX12_readHint_9 : decode cX12_readHint 9 = .ok (.isub, 1) := by decide +kernel
theorem dX12_readHint_10 : decode cX12_readHint 10 = .ok (.invokevirtual 149, 3) := by decide +kernel
theorem dX12_readHint_13 : decode cX12_readHint 13 = .ok (.istore_n 1, 1) := by decide +kernel
theorem dX12_readHint_14 : decode cX12_readHint 14 = .ok (.aload_n 0, 1) := by decide +kernel
theorem dX12_readHint_15 : decode cX12_readHint 15 = .ok (.iconst 0, 1) := by decide +kernel
theorem dX12_readHint_16 : decode cX12_readHint 16 = .ok (.aload_n 0, 1) := by decide +kernel
theorem dX12_readHint_17 : decode cX12_readHint 17 = .ok (.getfield 24, 3) := by decide +kernel
theorem dX12_readHint_20 : decode cX12_readHint 20 = .ok (.iconst 2, 1) := by decide +kernel
theorem dX12_readHint_21 : decode cX12_readHint 21 = .ok (.iaload, 1) := by decide +kernel
theorem dX12_readHint_22 : decode cX12_readHint 22 = .ok (.iconst 1, 1) := by decide +kernel
theorem dX12_readHint_23 : decode cX12_readHint 23 = .ok (.isub, 1) := by decide +kernel
theorem dX12_readHint_24 : decode cX12_readHint 24 = .ok (.invokevirtual 149, 3) := by decide +kernel
theorem dX12_readHint_27 : decode cX12_readHint 27 = .ok (.istore_n 2, 1) := by decide +kernel
theorem dX12_readHint_28 : decode cX12_readHint 28 = .ok (.aload_n 0, 1) := by decide +kernel
theorem dX12_readHint_29 : decode cX12_readHint 29 = .ok (.getfield 129, 3) := by decide +kernel
theorem dX12_readHint_32 : decode cX12_readHint 32 = .ok (.ifCond .ne 18, 3) := by decide +kernel
theorem dX12_readHint_35 : decode cX12_readHint 35 = .ok (.aload_n 0, 1) := by decide +kernel
theorem dX12_readHint_36 : decode cX12_readHint 36 = .ok (.getfield 24, 3) := by decide +kernel
theorem dX12_readHint_39 : decode cX12_readHint 39 = .ok (.bipush 97, 2) := by decide +kernel
theorem dX12_readHint_41 : decode cX12_readHint 41 = .ok (.iload_n 1, 1) := by decide +kernel
theorem dX12_readHint_42 : decode cX12_readHint 42 = .ok (.iadd, 1) := by decide +kernel
theorem dX12_readHint_43 : decode cX12_readHint 43 = .ok (.dup2, 1) := by decide +kernel
theorem dX12_readHint_44 : decode cX12_readHint 44 = .ok (.iaload, 1) := by decide +kernel
theorem dX12_readHint_45 : decode cX12_readHint 45 = .ok (.iconst 1, 1) := by decide +kernel
theorem dX12_readHint_46 : decode cX12_readHint 46 = .ok (.iload_n 2, 1) := by decide +kernel
theorem dX12_readHint_47 : decode cX12_readHint 47 = .ok (.ishl, 1) := by decide +kernel
theorem dX12_readHint_48 : decode cX12_readHint 48 = .ok (.ior, 1) := by decide +kernel
theorem dX12_readHint_49 : decode cX12_readHint 49 = .ok (.iastore, 1) := by decide +kernel
theorem dX12_readHint_50 : decode cX12_readHint 50 = .ok (.return_, 1) := by decide +kernel
theorem dX12_tells_0 : decode cX12_tells 0 = .ok (.aload_n 0, 1) := by decide +kernel
theorem dX12_tells_1 : decode cX12_tells 1 = .ok (.getfield 129, 3) := by decide +kernel
theorem dX12_tells_4 : decode cX12_tells 4 = .ok (.ifCond .eq 4, 3) := by decide +kernel
theorem dX12_tells_7 : decode cX12_tells 7 = .ok (.return_, 1) := by decide +kernel
theorem dX12_tells_8 : decode cX12_tells 8 = .ok (.aload_n 0, 1) := by decide +kernel
theorem dX12_tells_9 : decode cX12_tells 9 = .ok (.getfield 27, 3) := by decide +kernel
theorem dX12_tells_12 : decode cX12_tells 12 = .ok (.aload_n 0, 1) := by decide +kernel
theorem dX12_tells_13 : decode cX12_tells 13 = .ok (.getfield 156, 3) := by decide +kernel
theorem dX12_tells_16 : decode cX12_tells 16 = .ok (.iload_n 1, 1) := by decide +kernel
theorem dX12_tells_17 : decode cX12_tells 17 = .ok (.iastore, 1) := by decide +kernel
theorem dX12_tells_18 : decode cX12_tells 18 = .ok (.aload_n 0, 1) := by decide +kernel
theorem dX12_tells_19 : decode cX12_tells 19 = .ok (.dup, 1) := by decide +kernel
theorem dX12_tells_20 : decode cX12_tells 20 = .ok (.getfield 156, 3) := by decide +kernel
theorem dX12_tells_23 : decode cX12_tells 23 = .ok (.iconst 1, 1) := by decide +kernel
theorem dX12_tells_24 : decode cX12_tells 24 = .ok (.iadd, 1) := by decide +kernel
theorem dX12_tells_25 : decode cX12_tells 25 = .ok (.putfield 156, 3) := by decide +kernel
theorem dX12_tells_28 : decode cX12_tells 28 = .ok (.return_, 1) := by decide +kernel
theorem dX12_goesIn_0 : decode cX12_goesIn 0 = .ok (.iload_n 1, 1) := by decide +kernel
theorem dX12_goesIn_1 : decode cX12_goesIn 1 = .ok (.bipush 6, 2) := by decide +kernel
theorem dX12_goesIn_3 : decode cX12_goesIn 3 = .ok (.if_icmp .ne 8, 3) := by decide +kernel
theorem dX12_goesIn_6 : decode cX12_goesIn 6 = .ok (.aload_n 0, 1) := by decide +kernel
theorem dX12_goesIn_7 : decode cX12_goesIn 7 = .ok (.iconst 4, 1) := by decide +kernel
theorem dX12_goesIn_8 : decode cX12_goesIn 8 = .ok (.invokevirtual 141, 3) := by decide +kernel
theorem dX12_goesIn_11 : decode cX12_goesIn 11 = .ok (.aload_n 0, 1) := by decide +kernel
theorem dX12_goesIn_12 : decode cX12_goesIn 12 = .ok (.getfield 129, 3) := by decide +kernel
theorem dX12_goesIn_15 : decode cX12_goesIn 15 = .ok (.ifCond .ne 7, 3) := by decide +kernel
theorem dX12_goesIn_18 : decode cX12_goesIn 18 = .ok (.aload_n 0, 1) := by decide +kernel
theorem dX12_goesIn_19 : decode cX12_goesIn 19 = .ok (.invokevirtual 138, 3) := by decide +kernel
theorem dX12_goesIn_22 : decode cX12_goesIn 22 = .ok (.aload_n 0, 1) := by decide +kernel
theorem dX12_goesIn_23 : decode cX12_goesIn 23 = .ok (.getfield 129, 3) := by decide +kernel
theorem dX12_goesIn_26 : decode cX12_goesIn 26 = .ok (.ifCond .ne 7, 3) := by decide +kernel
theorem dX12_goesIn_29 : decode cX12_goesIn 29 = .ok (.iconst 1, 1) := by decide +kernel
theorem dX12_goesIn_30 : decode cX12_goesIn 30 = .ok (.goto 4, 3) := by decide +kernel
theorem dX12_goesIn_33 : decode cX12_goesIn 33 = .ok (.iconst 0, 1) := by decide +kernel
theorem dX12_goesIn_34 : decode cX12_goesIn 34 = .ok (.ireturn, 1) := by decide +kernel
theorem dX12_readAtom_0 : decode cX12_readAtom 0 = .ok (.aload_n 0, 1) := by decide +kernel
theorem dX12_readAtom_1 : decode cX12_readAtom 1 = .ok (.bipush 16, 2) := by decide +kernel
theorem dX12_readAtom_3 : decode cX12_readAtom 3 = .ok (.invokevirtual 135, 3) := by decide +kernel
theorem dX12_readAtom_6 : decode cX12_readAtom 6 = .ok (.ifCond .eq 18, 3) := by decide +kernel
theorem dX12_readAtom_9 : decode cX12_readAtom 9 = .ok (.aload_n 0, 1) := by decide +kernel
theorem dX12_readAtom_10 : decode cX12_readAtom 10 = .ok (.aload_n 0, 1) := by decide +kernel
theorem dX12_readAtom_11 : decode cX12_readAtom 11 = .ok (.getfield 124, 3) := by decide +kernel
theorem dX12_readAtom_14 : decode cX12_readAtom 14 = .ok (.invokevirtual 159, 3) := by decide +kernel
theorem dX12_readAtom_17 : decode cX12_readAtom 17 = .ok (.aload_n 0, 1) := by decide +kernel
theorem dX12_readAtom_18 : decode cX12_readAtom 18 = .ok (.invokevirtual 138, 3) := by decide +kernel
theorem dX12_readAtom_21 : decode cX12_readAtom 21 = .ok (.goto 108, 3) := by decide +kernel
theorem dX12_readAtom_24 : decode cX12_readAtom 24 = .ok (.aload_n 0, 1) := by decide +kernel
theorem dX12_readAtom_25 : decode cX12_readAtom 25 = .ok (.getfield 129, 3) := by decide +kernel
theorem dX12_readAtom_28 : decode cX12_readAtom 28 = .ok (.ifCond .ne 54, 3) := by decide +kernel
theorem dX12_readAtom_31 : decode cX12_readAtom 31 = .ok (.aload_n 0, 1) := by decide +kernel
theorem dX12_readAtom_32 : decode cX12_readAtom 32 = .ok (.getfield 111, 3) := by decide +kernel
theorem dX12_readAtom_35 : decode cX12_readAtom 35 = .ok (.i2l, 1) := by decide +kernel
theorem dX12_readAtom_36 : decode cX12_readAtom 36 = .ok (.lconst 0, 1) := by decide +kernel
theorem dX12_readAtom_37 : decode cX12_readAtom 37 = .ok (.ldc2_w 162, 3) := by decide +kernel
theorem dX12_readAtom_40 : decode cX12_readAtom 40 = .ok (.invokestatic 145, 3) := by decide +kernel
theorem dX12_readAtom_43 : decode cX12_readAtom 43 = .ok (.ifCond .ne 20, 3) := by decide +kernel
theorem dX12_readAtom_46 : decode cX12_readAtom 46 = .ok (.aload_n 0, 1) := by decide +kernel
theorem dX12_readAtom_47 : decode cX12_readAtom 47 = .ok (.getfield 111, 3) := by decide +kernel
theorem dX12_readAtom_50 : decode cX12_readAtom 50 = .ok (.i2l, 1) := by decide +kernel
theorem dX12_readAtom_51 : decode cX12_readAtom 51 = .ok (.ldc2_w 164, 3) := by decide +kernel
theorem dX12_readAtom_54 : decode cX12_readAtom 54 = .ok (.ldc2_w 166, 3) := by decide +kernel
theorem dX12_readAtom_57 : decode cX12_readAtom 57 = .ok (.invokestatic 145, 3) := by decide +kernel
theorem dX12_readAtom_60 : decode cX12_readAtom 60 = .ok (.ifCond .eq 22, 3) := by decide +kernel
theorem dX12_readAtom_63 : decode cX12_readAtom 63 = .ok (.aload_n 0, 1) := by decide +kernel
theorem dX12_readAtom_64 : decode cX12_readAtom 64 = .ok (.sipush 1000, 3) := by decide +kernel
theorem dX12_readAtom_67 : decode cX12_readAtom 67 = .ok (.aload_n 0, 1) := by decide +kernel
theorem dX12_readAtom_68 : decode cX12_readAtom 68 = .ok (.getfield 111, 3) := by decide +kernel
theorem dX12_readAtom_71 : decode cX12_readAtom 71 = .ok (.iadd, 1) := by decide +kernel
theorem dX12_readAtom_72 : decode cX12_readAtom 72 = .ok (.invokevirtual 159, 3) := by decide +kernel
theorem dX12_readAtom_75 : decode cX12_readAtom 75 = .ok (.aload_n 0, 1) := by decide +kernel
theorem dX12_readAtom_76 : decode cX12_readAtom 76 = .ok (.invokevirtual 138, 3) := by decide +kernel
theorem dX12_readAtom_79 : decode cX12_readAtom 79 = .ok (.goto 50, 3) := by decide +kernel
theorem dX12_readAtom_82 : decode cX12_readAtom 82 = .ok (.aload_n 0, 1) := by decide +kernel
theorem dX12_readAtom_83 : decode cX12_readAtom 83 = .ok (.bipush 25, 2) := by decide +kernel
theorem dX12_readAtom_85 : decode cX12_readAtom 85 = .ok (.invokevirtual 135, 3) := by decide +kernel
theorem dX12_readAtom_88 : decode cX12_readAtom 88 = .ok (.ifCond .eq 36, 3) := by decide +kernel
theorem dX12_readAtom_91 : decode cX12_readAtom 91 = .ok (.aload_n 0, 1) := by decide +kernel
theorem dX12_readAtom_92 : decode cX12_readAtom 92 = .ok (.iload_n 1, 1) := by decide +kernel
theorem dX12_readAtom_93 : decode cX12_readAtom 93 = .ok (.invokevirtual 168, 3) := by decide +kernel
theorem dX12_readAtom_96 : decode cX12_readAtom 96 = .ok (.ifCond .ne 4, 3) := by decide +kernel
theorem dX12_readAtom_99 : decode cX12_readAtom 99 = .ok (.return_, 1) := by decide +kernel
theorem dX12_readAtom_100 : decode cX12_readAtom 100 = .ok (.aload_n 0, 1) := by decide +kernel
theorem dX12_readAtom_101 : decode cX12_readAtom 101 = .ok (.iload_n 1, 1) := by decide +kernel
theorem dX12_readAtom_102 : decode cX12_readAtom 102 = .ok (.iconst 1, 1) := by decide +kernel
theorem dX12_readAtom_103 : decode cX12_readAtom 103 = .ok (.iadd, 1) := by decide +kernel
theorem dX12_readAtom_104 : decode cX12_readAtom 104 = .ok (.invokevirtual 171, 3) := by decide +kernel
theorem dX12_readAtom_107 : decode cX12_readAtom 107 = .ok (.aload_n 0, 1) := by decide +kernel
theorem dX12_readAtom_108 : decode cX12_readAtom 108 = .ok (.bipush 26, 2) := by decide +kernel
theorem dX12_readAtom_110 : decode cX12_readAtom 110 = .ok (.invokevirtual 153, 3) := by decide +kernel
theorem dX12_readAtom_113 : decode cX12_readAtom 113 = .ok (.ifCond .ne 16, 3) := by decide +kernel
theorem dX12_readAtom_116 : decode cX12_readAtom 116 = .ok (.aload_n 0, 1) := by decide +kernel
theorem dX12_readAtom_117 : decode cX12_readAtom 117 = .ok (.iconst 2, 1) := by decide +kernel
theorem dX12_readAtom_118 : decode cX12_readAtom 118 = .ok (.invokevirtual 141, 3) := by decide +kernel
theorem dX12_readAtom_121 : decode cX12_readAtom 121 = .ok (.goto 8, 3) := by decide +kernel
theorem dX12_readAtom_124 : decode cX12_readAtom 124 = .ok (.aload_n 0, 1) := by decide +kernel
theorem dX12_readAtom_125 : decode cX12_readAtom 125 = .ok (.iconst 2, 1) := by decide +kernel
theorem dX12_readAtom_126 : decode cX12_readAtom 126 = .ok (.invokevirtual 141, 3) := by decide +kernel
theorem dX12_readAtom_129 : decode cX12_readAtom 129 = .ok (.return_, 1) := by decide +kernel
theorem dX12_readTerm_0 : decode cX12_readTerm 0 = .ok (.aload_n 0, 1) := by decide +kernel
theorem dX12_readTerm_1 : decode cX12_readTerm 1 = .ok (.iload_n 1, 1) := by decide +kernel
theorem dX12_readTerm_2 : decode cX12_readTerm 2 = .ok (.invokevirtual 174, 3) := by decide +kernel
theorem dX12_readTerm_5 : decode cX12_readTerm 5 = .ok (.aload_n 0, 1) := by decide +kernel
theorem dX12_readTerm_6 : decode cX12_readTerm 6 = .ok (.bipush 24, 2) := by decide +kernel
theorem dX12_readTerm_8 : decode cX12_readTerm 8 = .ok (.invokevirtual 153, 3) := by decide +kernel
theorem dX12_readTerm_11 : decode cX12_readTerm 11 = .ok (.ifCond .eq 18, 3) := by decide +kernel
theorem dX12_readTerm_14 : decode cX12_readTerm 14 = .ok (.aload_n 0, 1) := by decide +kernel
theorem dX12_readTerm_15 : decode cX12_readTerm 15 = .ok (.iload_n 1, 1) := by decide +kernel
theorem dX12_readTerm_16 : decode cX12_readTerm 16 = .ok (.invokevirtual 174, 3) := by decide +kernel
theorem dX12_readTerm_19 : decode cX12_readTerm 19 = .ok (.aload_n 0, 1) := by decide +kernel
theorem dX12_readTerm_20 : decode cX12_readTerm 20 = .ok (.sipush 3002, 3) := by decide +kernel
theorem dX12_readTerm_23 : decode cX12_readTerm 23 = .ok (.invokevirtual 159, 3) := by decide +kernel
theorem dX12_readTerm_26 : decode cX12_readTerm 26 = .ok (.goto (-21), 3) := by decide +kernel
theorem dX12_readTerm_29 : decode cX12_readTerm 29 = .ok (.return_, 1) := by decide +kernel
theorem dX12_readSum_0 : decode cX12_readSum 0 = .ok (.aload_n 0, 1) := by decide +kernel
theorem dX12_readSum_1 : decode cX12_readSum 1 = .ok (.iload_n 1, 1) := by decide +kernel
theorem dX12_readSum_2 : decode cX12_readSum 2 = .ok (.invokevirtual 177, 3) := by decide +kernel
theorem dX12_readSum_5 : decode cX12_readSum 5 = .ok (.aload_n 0, 1) := by decide +kernel
theorem dX12_readSum_6 : decode cX12_readSum 6 = .ok (.bipush 22, 2) := by decide +kernel
theorem dX12_readSum_8 : decode cX12_readSum 8 = .ok (.invokevirtual 135, 3) := by decide +kernel
theorem dX12_readSum_11 : decode cX12_readSum 11 = .ok (.ifCond .ne 12, 3) := by decide +kernel
theorem dX12_readSum_14 : decode cX12_readSum 14 = .ok (.aload_n 0, 1) := by decide +kernel
theorem dX12_readSum_15 : decode cX12_readSum 15 = .ok (.bipush 23, 2) := by decide +kernel
theorem dX12_readSum_17 : decode cX12_readSum 17 = .ok (.invokevirtual 135, 3) := by decide +kernel
theorem dX12_readSum_20 : decode cX12_readSum 20 = .ok (.ifCond .eq 39, 3) := by decide +kernel
theorem dX12_readSum_23 : decode cX12_readSum 23 = .ok (.aload_n 0, 1) := by decide +kernel
theorem dX12_readSum_24 : decode cX12_readSum 24 = .ok (.getfield 111, 3) := by decide +kernel
theorem dX12_readSum_27 : decode cX12_readSum 27 = .ok (.bipush 22, 2) := by decide +kernel
theorem dX12_readSum_29 : decode cX12_readSum 29 = .ok (.if_icmp .ne 9, 3) := by decide +kernel
theorem dX12_readSum_32 : decode cX12_readSum 32 = .ok (.sipush 3000, 3) := by decide +kernel
theorem dX12_readSum_35 : decode cX12_readSum 35 = .ok (.goto 6, 3) := by decide +kernel
theorem dX12_readSum_38 : decode cX12_readSum 38 = .ok (.sipush 3001, 3) := by decide +kernel
theorem dX12_readSum_41 : decode cX12_readSum 41 = .ok (.istore_n 2, 1) := by decide +kernel
theorem dX12_readSum_42 : decode cX12_readSum 42 = .ok (.aload_n 0, 1) := by decide +kernel
theorem dX12_readSum_43 : decode cX12_readSum 43 = .ok (.invokevirtual 138, 3) := by decide +kernel
theorem dX12_readSum_46 : decode cX12_readSum 46 = .ok (.aload_n 0, 1) := by decide +kernel
theorem dX12_readSum_47 : decode cX12_readSum 47 = .ok (.iload_n 1, 1) := by decide +kernel
theorem dX12_readSum_48 : decode cX12_readSum 48 = .ok (.invokevirtual 177, 3) := by decide +kernel
theorem dX12_readSum_51 : decode cX12_readSum 51 = .ok (.aload_n 0, 1) := by decide +kernel
theorem dX12_readSum_52 : decode cX12_readSum 52 = .ok (.iload_n 2, 1) := by decide +kernel
theorem dX12_readSum_53 : decode cX12_readSum 53 = .ok (.invokevirtual 159, 3) := by decide +kernel
theorem dX12_readSum_56 : decode cX12_readSum 56 = .ok (.goto (-51), 3) := by decide +kernel
theorem dX12_readSum_59 : decode cX12_readSum 59 = .ok (.return_, 1) := by decide +kernel
theorem dX12_readUnit_0 : decode cX12_readUnit 0 = .ok (.aload_n 0, 1) := by decide +kernel
theorem dX12_readUnit_1 : decode cX12_readUnit 1 = .ok (.bipush 11, 2) := by decide +kernel
theorem dX12_readUnit_3 : decode cX12_readUnit 3 = .ok (.invokevirtual 135, 3) := by decide +kernel
theorem dX12_readUnit_6 : decode cX12_readUnit 6 = .ok (.ifCond .eq 27, 3) := by decide +kernel
theorem dX12_readUnit_9 : decode cX12_readUnit 9 = .ok (.aload_n 0, 1) := by decide +kernel
theorem dX12_readUnit_10 : decode cX12_readUnit 10 = .ok (.iload_n 1, 1) := by decide +kernel
theorem dX12_readUnit_11 : decode cX12_readUnit 11 = .ok (.invokevirtual 168, 3) := by decide +kernel
theorem dX12_readUnit_14 : decode cX12_readUnit 14 = .ok (.ifCond .ne 4, 3) := by decide +kernel
theorem dX12_readUnit_17 : decode cX12_readUnit 17 = .ok (.return_, 1) := by decide +kernel
theorem dX12_readUnit_18 : decode cX12_readUnit 18 = .ok (.aload_n 0, 1) := by decide +kernel
theorem dX12_readUnit_19 : decode cX12_readUnit 19 = .ok (.iload_n 1, 1) := by decide +kernel
theorem dX12_readUnit_20 : decode cX12_readUnit 20 = .ok (.iconst 1, 1) := by decide +kernel
theorem dX12_readUnit_21 : decode cX12_readUnit 21 = .ok (.iadd, 1) := by decide +kernel
theorem dX12_readUnit_22 : decode cX12_readUnit 22 = .ok (.invokevirtual 180, 3) := by decide +kernel
theorem dX12_readUnit_25 : decode cX12_readUnit 25 = .ok (.aload_n 0, 1) := by decide +kernel
theorem dX12_readUnit_26 : decode cX12_readUnit 26 = .ok (.sipush 3008, 3) := by decide +kernel
theorem dX12_readUnit_29 : decode cX12_readUnit 29 = .ok (.invokevirtual 159, 3) := by decide +kernel
theorem dX12_readUnit_32 : decode cX12_readUnit 32 = .ok (.return_, 1) := by decide +kernel
theorem dX12_readUnit_33 : decode cX12_readUnit 33 = .ok (.aload_n 0, 1) := by decide +kernel
theorem dX12_readUnit_34 : decode cX12_readUnit 34 = .ok (.bipush 27, 2) := by decide +kernel
theorem dX12_readUnit_36 : decode cX12_readUnit 36 = .ok (.invokevirtual 135, 3) := by decide +kernel
theorem dX12_readUnit_39 : decode cX12_readUnit 39 = .ok (.ifCond .eq 34, 3) := by decide +kernel
theorem dX12_readUnit_42 : decode cX12_readUnit 42 = .ok (.aload_n 0, 1) := by decide +kernel
theorem dX12_readUnit_43 : decode cX12_readUnit 43 = .ok (.iload_n 1, 1) := by decide +kernel
theorem dX12_readUnit_44 : decode cX12_readUnit 44 = .ok (.invokevirtual 168, 3) := by decide +kernel
theorem dX12_readUnit_47 : decode cX12_readUnit 47 = .ok (.ifCond .ne 4, 3) := by decide +kernel
theorem dX12_readUnit_50 : decode cX12_readUnit 50 = .ok (.return_, 1) := by decide +kernel
theorem dX12_readUnit_51 : decode cX12_readUnit 51 = .ok (.aload_n 0, 1) := by decide +kernel
theorem dX12_readUnit_52 : decode cX12_readUnit 52 = .ok (.iload_n 1, 1) := by decide +kernel
theorem dX12_readUnit_53 : decode cX12_readUnit 53 = .ok (.iconst 1, 1) := by decide +kernel
theorem dX12_readUnit_54 : decode cX12_readUnit 54 = .ok (.iadd, 1) := by decide +kernel
theorem dX12_readUnit_55 : decode cX12_readUnit 55 = .ok (.invokevirtual 183, 3) := by decide +kernel
theorem dX12_readUnit_58 : decode cX12_readUnit 58 = .ok (.aload_n 0, 1) := by decide +kernel
theorem dX12_readUnit_59 : decode cX12_readUnit 59 = .ok (.bipush 28, 2) := by decide +kernel
theorem dX12_readUnit_61 : decode cX12_readUnit 61 = .ok (.invokevirtual 153, 3) := by decide +kernel
theorem dX12_readUnit_64 : decode cX12_readUnit 64 = .ok (.ifCond .ne 8, 3) := by decide +kernel
theorem dX12_readUnit_67 : decode cX12_readUnit 67 = .ok (.aload_n 0, 1) := by decide +kernel
theorem dX12_readUnit_68 : decode cX12_readUnit 68 = .ok (.iconst 2, 1) := by decide +kernel
theorem dX12_readUnit_69 : decode cX12_readUnit 69 = .ok (.invokevirtual 141, 3) := by decide +kernel
theorem dX12_readUnit_72 : decode cX12_readUnit 72 = .ok (.return_, 1) := by decide +kernel
theorem dX12_readUnit_73 : decode cX12_readUnit 73 = .ok (.aload_n 0, 1) := by decide +kernel
theorem dX12_readUnit_74 : decode cX12_readUnit 74 = .ok (.iload_n 1, 1) := by decide +kernel
theorem dX12_readUnit_75 : decode cX12_readUnit 75 = .ok (.invokevirtual 171, 3) := by decide +kernel
theorem dX12_readUnit_78 : decode cX12_readUnit 78 = .ok (.aload_n 0, 1) := by decide +kernel
theorem dX12_readUnit_79 : decode cX12_readUnit 79 = .ok (.bipush 29, 2) := by decide +kernel
theorem dX12_readUnit_81 : decode cX12_readUnit 81 = .ok (.invokevirtual 135, 3) := by decide +kernel
theorem dX12_readUnit_84 : decode cX12_readUnit 84 = .ok (.ifCond .eq 9, 3) := by decide +kernel
theorem dX12_readUnit_87 : decode cX12_readUnit 87 = .ok (.sipush 3003, 3) := by decide +kernel
theorem dX12_readUnit_90 : decode cX12_readUnit 90 = .ok (.goto 21, 3) := by decide +kernel
theorem dX12_readUnit_93 : decode cX12_readUnit 93 = .ok (.aload_n 0, 1) := by decide +kernel
theorem dX12_readUnit_94 : decode cX12_readUnit 94 = .ok (.bipush 30, 2) := by decide +kernel
theorem dX12_readUnit_96 : decode cX12_readUnit 96 = .ok (.invokevirtual 135, 3) := by decide +kernel
theorem dX12_readUnit_99 : decode cX12_readUnit 99 = .ok (.ifCond .eq 9, 3) := by decide +kernel
theorem dX12_readUnit_102 : decode cX12_readUnit 102 = .ok (.sipush 3004, 3) := by decide +kernel
theorem dX12_readUnit_105 : decode cX12_readUnit 105 = .ok (.goto 6, 3) := by decide +kernel
theorem dX12_readUnit_108 : decode cX12_readUnit 108 = .ok (.sipush 3005, 3) := by decide +kernel
theorem dX12_readUnit_111 : decode cX12_readUnit 111 = .ok (.istore_n 2, 1) := by decide +kernel
theorem dX12_readUnit_112 : decode cX12_readUnit 112 = .ok (.aload_n 0, 1) := by decide +kernel
theorem dX12_readUnit_113 : decode cX12_readUnit 113 = .ok (.bipush 29, 2) := by decide +kernel
theorem dX12_readUnit_115 : decode cX12_readUnit 115 = .ok (.invokevirtual 135, 3) := by decide +kernel
theorem dX12_readUnit_118 : decode cX12_readUnit 118 = .ok (.ifCond .ne 21, 3) := by decide +kernel
theorem dX12_readUnit_121 : decode cX12_readUnit 121 = .ok (.aload_n 0, 1) := by decide +kernel
theorem dX12_readUnit_122 : decode cX12_readUnit 122 = .ok (.bipush 30, 2) := by decide +kernel
theorem dX12_readUnit_124 : decode cX12_readUnit 124 = .ok (.invokevirtual 135, 3) := by decide +kernel
theorem dX12_readUnit_127 : decode cX12_readUnit 127 = .ok (.ifCond .ne 12, 3) := by decide +kernel
theorem dX12_readUnit_130 : decode cX12_readUnit 130 = .ok (.aload_n 0, 1) := by decide +kernel
theorem dX12_readUnit_131 : decode cX12_readUnit 131 = .ok (.bipush 31, 2) := by decide +kernel
theorem dX12_readUnit_133 : decode cX12_readUnit 133 = .ok (.invokevirtual 135, 3) := by decide +kernel
theorem dX12_readUnit_136 : decode cX12_readUnit 136 = .ok (.ifCond .eq 10, 3) := by decide +kernel
theorem dX12_readUnit_139 : decode cX12_readUnit 139 = .ok (.aload_n 0, 1) := by decide +kernel
theorem dX12_readUnit_140 : decode cX12_readUnit 140 = .ok (.invokevirtual 138, 3) := by decide +kernel
theorem dX12_readUnit_143 : decode cX12_readUnit 143 = .ok (.goto 8, 3) := by decide +kernel
theorem dX12_readUnit_146 : decode cX12_readUnit 146 = .ok (.aload_n 0, 1) := by decide +kernel
theorem dX12_readUnit_147 : decode cX12_readUnit 147 = .ok (.iconst 2, 1) := by decide +kernel
theorem dX12_readUnit_148 : decode cX12_readUnit 148 = .ok (.invokevirtual 141, 3) := by decide +kernel
theorem dX12_readUnit_151 : decode cX12_readUnit 151 = .ok (.aload_n 0, 1) := by decide +kernel
theorem dX12_readUnit_152 : decode cX12_readUnit 152 = .ok (.iload_n 1, 1) := by decide +kernel
theorem dX12_readUnit_153 : decode cX12_readUnit 153 = .ok (.invokevirtual 171, 3) := by decide +kernel
theorem dX12_readUnit_156 : decode cX12_readUnit 156 = .ok (.aload_n 0, 1) := by decide +kernel
theorem dX12_readUnit_157 : decode cX12_readUnit 157 = .ok (.iload_n 2, 1) := by decide +kernel
theorem dX12_readUnit_158 : decode cX12_readUnit 158 = .ok (.invokevirtual 159, 3) := by decide +kernel
theorem dX12_readUnit_161 : decode cX12_readUnit 161 = .ok (.return_, 1) := by decide +kernel
theorem dX12_readBoth_0 : decode cX12_readBoth 0 = .ok (.aload_n 0, 1) := by decide +kernel
theorem dX12_readBoth_1 : decode cX12_readBoth 1 = .ok (.iload_n 1, 1) := by decide +kernel
theorem dX12_readBoth_2 : decode cX12_readBoth 2 = .ok (.invokevirtual 180, 3) := by decide +kernel
theorem dX12_readBoth_5 : decode cX12_readBoth 5 = .ok (.aload_n 0, 1) := by decide +kernel
theorem dX12_readBoth_6 : decode cX12_readBoth 6 = .ok (.bipush 10, 2) := by decide +kernel
theorem dX12_readBoth_8 : decode cX12_readBoth 8 = .ok (.invokevirtual 153, 3) := by decide +kernel
theorem dX12_readBoth_11 : decode cX12_readBoth 11 = .ok (.ifCond .eq 18, 3) := by decide +kernel
theorem dX12_readBoth_14 : decode cX12_readBoth 14 = .ok (.aload_n 0, 1) := by decide +kernel
theorem dX12_readBoth_15 : decode cX12_readBoth 15 = .ok (.iload_n 1, 1) := by decide +kernel
theorem dX12_readBoth_16 : decode cX12_readBoth 16 = .ok (.invokevirtual 180, 3) := by decide +kernel
theorem dX12_readBoth_19 : decode cX12_readBoth 19 = .ok (.aload_n 0, 1) := by decide +kernel
theorem dX12_readBoth_20 : decode cX12_readBoth 20 = .ok (.sipush 3006, 3) := by decide +kernel
theorem dX12_readBoth_23 : decode cX12_readBoth 23 = .ok (.invokevirtual 159, 3) := by decide +kernel
theorem dX12_readBoth_26 : decode cX12_readBoth 26 = .ok (.goto (-21), 3) := by decide +kernel
theorem dX12_readBoth_29 : decode cX12_readBoth 29 = .ok (.return_, 1) := by decide +kernel
theorem dX12_readTruth_0 : decode cX12_readTruth 0 = .ok (.aload_n 0, 1) := by decide +kernel
theorem dX12_readTruth_1 : decode cX12_readTruth 1 = .ok (.iload_n 1, 1) := by decide +kernel
theorem dX12_readTruth_2 : decode cX12_readTruth 2 = .ok (.invokevirtual 186, 3) := by decide +kernel
theorem dX12_readTruth_5 : decode cX12_readTruth 5 = .ok (.aload_n 0, 1) := by decide +kernel
theorem dX12_readTruth_6 : decode cX12_readTruth 6 = .ok (.bipush 9, 2) := by decide +kernel
theorem dX12_readTruth_8 : decode cX12_readTruth 8 = .ok (.invokevirtual 153, 3) := by decide +kernel
theorem dX12_readTruth_11 : decode cX12_readTruth 11 = .ok (.ifCond .eq 18, 3) := by decide +kernel
theorem dX12_readTruth_14 : decode cX12_readTruth 14 = .ok (.aload_n 0, 1) := by decide +kernel
theorem dX12_readTruth_15 : decode cX12_readTruth 15 = .ok (.iload_n 1, 1) := by decide +kernel
theorem dX12_readTruth_16 : decode cX12_readTruth 16 = .ok (.invokevirtual 186, 3) := by decide +kernel
theorem dX12_readTruth_19 : decode cX12_readTruth 19 = .ok (.aload_n 0, 1) := by decide +kernel
theorem dX12_readTruth_20 : decode cX12_readTruth 20 = .ok (.sipush 3007, 3) := by decide +kernel
theorem dX12_readTruth_23 : decode cX12_readTruth 23 = .ok (.invokevirtual 159, 3) := by decide +kernel
theorem dX12_readTruth_26 : decode cX12_readTruth 26 = .ok (.goto (-21), 3) := by decide +kernel
theorem dX12_readTruth_29 : decode cX12_readTruth 29 = .ok (.return_, 1) := by decide +kernel
theorem dX12_readFact_0 : decode cX12_readFact 0 = .ok (.aload_n 0, 1) := by decide +kernel
theorem dX12_readFact_1 : decode cX12_readFact 1 = .ok (.getfield 24, 3) := by decide +kernel
theorem dX12_readFact_4 : decode cX12_readFact 4 = .ok (.iconst 2, 1) := by decide +kernel
theorem dX12_readFact_5 : decode cX12_readFact 5 = .ok (.iaload, 1) := by decide +kernel
theorem dX12_readFact_6 : decode cX12_readFact 6 = .ok (.istore_n 1, 1) := by decide +kernel
theorem dX12_readFact_7 : decode cX12_readFact 7 = .ok (.iload_n 1, 1) := by decide +kernel
theorem dX12_readFact_8 : decode cX12_readFact 8 = .ok (.bipush 8, 2) := by decide +kernel
theorem dX12_readFact_10 : decode cX12_readFact 10 = .ok (.if_icmp .ne 8, 3) := by decide +kernel
theorem dX12_readFact_13 : decode cX12_readFact 13 = .ok (.aload_n 0, 1) := by decide +kernel
theorem dX12_readFact_14 : decode cX12_readFact 14 = .ok (.iconst 4, 1) := by decide +kernel
theorem dX12_readFact_15 : decode cX12_readFact 15 = .ok (.invokevirtual 141, 3) := by decide +kernel
theorem dX12_readFact_18 : decode cX12_readFact 18 = .ok (.aload_n 0, 1) := by decide +kernel
theorem dX12_readFact_19 : decode cX12_readFact 19 = .ok (.getfield 129, 3) := by decide +kernel
theorem dX12_readFact_22 : decode cX12_readFact 22 = .ok (.ifCond .eq 4, 3) := by decide +kernel
theorem dX12_readFact_25 : decode cX12_readFact 25 = .ok (.return_, 1) := by decide +kernel
theorem dX12_readFact_26 : decode cX12_readFact 26 = .ok (.aload_n 0, 1) := by decide +kernel
theorem dX12_readFact_27 : decode cX12_readFact 27 = .ok (.invokevirtual 138, 3) := by decide +kernel
theorem dX12_readFact_30 : decode cX12_readFact 30 = .ok (.aload_n 0, 1) := by decide +kernel
theorem dX12_readFact_31 : decode cX12_readFact 31 = .ok (.bipush 21, 2) := by decide +kernel
theorem dX12_readFact_33 : decode cX12_readFact 33 = .ok (.invokevirtual 153, 3) := by decide +kernel
theorem dX12_readFact_36 : decode cX12_readFact 36 = .ok (.ifCond .ne 8, 3) := by decide +kernel
theorem dX12_readFact_39 : decode cX12_readFact 39 = .ok (.aload_n 0, 1) := by decide +kernel
theorem dX12_readFact_40 : decode cX12_readFact 40 = .ok (.iconst 2, 1) := by decide +kernel
theorem dX12_readFact_41 : decode cX12_readFact 41 = .ok (.invokevirtual 141, 3) := by decide +kernel
theorem dX12_readFact_44 : decode cX12_readFact 44 = .ok (.aload_n 0, 1) := by decide +kernel
theorem dX12_readFact_45 : decode cX12_readFact 45 = .ok (.getfield 30, 3) := by decide +kernel
theorem dX12_readFact_48 : decode cX12_readFact 48 = .ok (.iload_n 1, 1) := by decide +kernel
theorem dX12_readFact_49 : decode cX12_readFact 49 = .ok (.aload_n 0, 1) := by decide +kernel
theorem dX12_readFact_50 : decode cX12_readFact 50 = .ok (.getfield 156, 3) := by decide +kernel
theorem dX12_readFact_53 : decode cX12_readFact 53 = .ok (.iastore, 1) := by decide +kernel
theorem dX12_readFact_54 : decode cX12_readFact 54 = .ok (.aload_n 0, 1) := by decide +kernel
theorem dX12_readFact_55 : decode cX12_readFact 55 = .ok (.iconst 0, 1) := by decide +kernel
theorem dX12_readFact_56 : decode cX12_readFact 56 = .ok (.invokevirtual 183, 3) := by decide +kernel
theorem dX12_readFact_59 : decode cX12_readFact 59 = .ok (.aload_n 0, 1) := by decide +kernel
theorem dX12_readFact_60 : decode cX12_readFact 60 = .ok (.getfield 129, 3) := by decide +kernel
theorem dX12_readFact_63 : decode cX12_readFact 63 = .ok (.ifCond .eq 4, 3) := by decide +kernel
theorem dX12_readFact_66 : decode cX12_readFact 66 = .ok (.return_, 1) := by decide +kernel
theorem dX12_readFact_67 : decode cX12_readFact 67 = .ok (.aload_n 0, 1) := by decide +kernel
theorem dX12_readFact_68 : decode cX12_readFact 68 = .ok (.getfield 33, 3) := by decide +kernel
theorem dX12_readFact_71 : decode cX12_readFact 71 = .ok (.iload_n 1, 1) := by decide +kernel
theorem dX12_readFact_72 : decode cX12_readFact 72 = .ok (.aload_n 0, 1) := by decide +kernel
theorem dX12_readFact_73 : decode cX12_readFact 73 = .ok (.getfield 156, 3) := by decide +kernel
theorem dX12_readFact_76 : decode cX12_readFact 76 = .ok (.aload_n 0, 1) := by decide +kernel
theorem dX12_readFact_77 : decode cX12_readFact 77 = .ok (.getfield 30, 3) := by decide +kernel
theorem dX12_readFact_80 : decode cX12_readFact 80 = .ok (.iload_n 1, 1) := by decide +kernel
theorem dX12_readFact_81 : decode cX12_readFact 81 = .ok (.iaload, 1) := by decide +kernel
theorem dX12_readFact_82 : decode cX12_readFact 82 = .ok (.isub, 1) := by decide +kernel
theorem dX12_readFact_83 : decode cX12_readFact 83 = .ok (.iastore, 1) := by decide +kernel
theorem dX12_readFact_84 : decode cX12_readFact 84 = .ok (.aload_n 0, 1) := by decide +kernel
theorem dX12_readFact_85 : decode cX12_readFact 85 = .ok (.getfield 24, 3) := by decide +kernel
theorem dX12_readFact_88 : decode cX12_readFact 88 = .ok (.iconst 2, 1) := by decide +kernel
theorem dX12_readFact_89 : decode cX12_readFact 89 = .ok (.dup2, 1) := by decide +kernel
theorem dX12_readFact_90 : decode cX12_readFact 90 = .ok (.iaload, 1) := by decide +kernel
theorem dX12_readFact_91 : decode cX12_readFact 91 = .ok (.iconst 1, 1) := by decide +kernel
theorem dX12_readFact_92 : decode cX12_readFact 92 = .ok (.iadd, 1) := by decide +kernel
theorem dX12_readFact_93 : decode cX12_readFact 93 = .ok (.iastore, 1) := by decide +kernel
theorem dX12_readFact_94 : decode cX12_readFact 94 = .ok (.return_, 1) := by decide +kernel
theorem dX12_wordOf_0 : decode cX12_wordOf 0 = .ok (.iload_n 1, 1) := by decide +kernel
theorem dX12_wordOf_1 : decode cX12_wordOf 1 = .ok (.sipush 1000, 3) := by decide +kernel
theorem dX12_wordOf_4 : decode cX12_wordOf 4 = .ok (.isub, 1) := by decide +kernel
theorem dX12_wordOf_5 : decode cX12_wordOf 5 = .ok (.istore_n 3, 1) := by decide +kernel
theorem dX12_wordOf_6 : decode cX12_wordOf 6 = .ok (.iload_n 3, 1) := by decide +kernel
theorem dX12_wordOf_7 : decode cX12_wordOf 7 = .ok (.ifCond .ge 5, 3) := by decide +kernel
theorem dX12_wordOf_10 : decode cX12_wordOf 10 = .ok (.iload_n 1, 1) := by decide +kernel
theorem dX12_wordOf_11 : decode cX12_wordOf 11 = .ok (.ireturn, 1) := by decide +kernel
theorem dX12_wordOf_12 : decode cX12_wordOf 12 = .ok (.iload_n 3, 1) := by decide +kernel
theorem dX12_wordOf_13 : decode cX12_wordOf 13 = .ok (.bipush 12, 2) := by decide +kernel
theorem dX12_wordOf_15 : decode cX12_wordOf 15 = .ok (.if_icmp .lt 21, 3) := by decide +kernel
theorem dX12_wordOf_18 : decode cX12_wordOf 18 = .ok (.aload_n 0, 1) := by decide +kernel
theorem dX12_wordOf_19 : decode cX12_wordOf 19 = .ok (.getfield 24, 3) := by decide +kernel
theorem dX12_wordOf_22 : decode cX12_wordOf 22 = .ok (.bipush 11, 2) := by decide +kernel
theorem dX12_wordOf_24 : decode cX12_wordOf 24 = .ok (.bipush 16, 2) := by decide +kernel
theorem dX12_wordOf_26 : decode cX12_wordOf 26 = .ok (.iload_n 3, 1) := by decide +kernel
theorem dX12_wordOf_27 : decode cX12_wordOf 27 = .ok (.bipush 12, 2) := by decide +kernel
theorem dX12_wordOf_29 : decode cX12_wordOf 29 = .ok (.isub, 1) := by decide +kernel
theorem dX12_wordOf_30 : decode cX12_wordOf 30 = .ok (.imul, 1) := by decide +kernel
theorem dX12_wordOf_31 : decode cX12_wordOf 31 = .ok (.iadd, 1) := by decide +kernel
theorem dX12_wordOf_32 : decode cX12_wordOf 32 = .ok (.iload_n 2, 1) := by decide +kernel
theorem dX12_wordOf_33 : decode cX12_wordOf 33 = .ok (.iadd, 1) := by decide +kernel
theorem dX12_wordOf_34 : decode cX12_wordOf 34 = .ok (.iaload, 1) := by decide +kernel
theorem dX12_wordOf_35 : decode cX12_wordOf 35 = .ok (.ireturn, 1) := by decide +kernel
theorem dX12_wordOf_36 : decode cX12_wordOf 36 = .ok (.iload_n 3, 1) := by decide +kernel
theorem dX12_wordOf_37 : decode cX12_wordOf 37 = .ok (.ifCond .ne 7, 3) := by decide +kernel
theorem dX12_wordOf_40 : decode cX12_wordOf 40 = .ok (.iload_n 2, 1) := by decide +kernel
theorem dX12_wordOf_41 : decode cX12_wordOf 41 = .ok (.goto 29, 3) := by decide +kernel
theorem dX12_wordOf_44 : decode cX12_wordOf 44 = .ok (.iload_n 3, 1) := by decide +kernel
theorem dX12_wordOf_45 : decode cX12_wordOf 45 = .ok (.iconst 1, 1) := by decide +kernel
theorem dX12_wordOf_46 : decode cX12_wordOf 46 = .ok (.if_icmp .ne 15, 3) := by decide +kernel
theorem dX12_wordOf_49 : decode cX12_wordOf 49 = .ok (.aload_n 0, 1) := by decide +kernel
theorem dX12_wordOf_50 : decode cX12_wordOf 50 = .ok (.getfield 24, 3) := by decide +kernel
theorem dX12_wordOf_53 : decode cX12_wordOf 53 = .ok (.bipush 59, 2) := by decide +kernel
theorem dX12_wordOf_55 : decode cX12_wordOf 55 = .ok (.iload_n 2, 1) := by decide +kernel
theorem dX12_wordOf_56 : decode cX12_wordOf 56 = .ok (.iadd, 1) := by decide +kernel
theorem dX12_wordOf_57 : decode cX12_wordOf 57 = .ok (.iaload, 1) := by decide +kernel
theorem dX12_wordOf_58 : decode cX12_wordOf 58 = .ok (.goto 12, 3) := by decide +kernel
theorem dX12_wordOf_61 : decode cX12_wordOf 61 = .ok (.aload_n 0, 1) := by decide +kernel
theorem dX12_wordOf_62 : decode cX12_wordOf 62 = .ok (.getfield 24, 3) := by decide +kernel
theorem dX12_wordOf_65 : decode cX12_wordOf 65 = .ok (.bipush 75, 2) := by decide +kernel
theorem dX12_wordOf_67 : decode cX12_wordOf 67 = .ok (.iload_n 2, 1) := by decide +kernel
theorem dX12_wordOf_68 : decode cX12_wordOf 68 = .ok (.iadd, 1) := by decide +kernel
theorem dX12_wordOf_69 : decode cX12_wordOf 69 = .ok (.iaload, 1) := by decide +kernel
theorem dX12_wordOf_70 : decode cX12_wordOf 70 = .ok (.ireturn, 1) := by decide +kernel
theorem dX12_between_0 : decode cX12_between 0 = .ok (.iload_n 0, 1) := by decide +kernel
theorem dX12_between_1 : decode cX12_between 1 = .ok (.sipush 3002, 3) := by decide +kernel
theorem dX12_between_4 : decode cX12_between 4 = .ok (.if_icmp .gt 70, 3) := by decide +kernel
theorem dX12_between_7 : decode cX12_between 7 = .ok (.iload_n 0, 1) := by decide +kernel
theorem dX12_between_8 : decode cX12_between 8 = .ok (.sipush 3000, 3) := by decide +kernel
theorem dX12_between_11 : decode cX12_between 11 = .ok (.if_icmp .ne 11, 3) := by decide +kernel
theorem dX12_between_14 : decode cX12_between 14 = .ok (.iload_n 1, 1) := by decide +kernel
theorem dX12_between_15 : decode cX12_between 15 = .ok (.i2l, 1) := by decide +kernel
theorem dX12_between_16 : decode cX12_between 16 = .ok (.iload_n 2, 1) := by decide +kernel
theorem dX12_between_17 : decode cX12_between 17 = .ok (.i2l, 1) := by decide +kernel
theorem dX12_between_18 : decode cX12_between 18 = .ok (.ladd, 1) := by decide +kernel
theorem dX12_between_19 : decode cX12_between 19 = .ok (.goto 23, 3) := by decide +kernel
theorem dX12_between_22 : decode cX12_between 22 = .ok (.iload_n 0, 1) := by decide +kernel
theorem dX12_between_23 : decode cX12_between 23 = .ok (.sipush 3001, 3) := by decide +kernel
theorem dX12_between_26 : decode cX12_between 26 = .ok (.if_icmp .ne 11, 3) := by decide +kernel
theorem dX12_between_29 : decode cX12_between 29 = .ok (.iload_n 1, 1) := by decide +kernel
theorem dX12_between_30 : decode cX12_between 30 = .ok (.i2l, 1) := by decide +kernel
theorem dX12_between_31 : decode cX12_between 31 = .ok (.iload_n 2, 1) := by decide +kernel
theorem dX12_between_32 : decode cX12_between 32 = .ok (.i2l, 1) := by decide +kernel
theorem dX12_between_33 : decode cX12_between 33 = .ok (.lsub, 1) := by decide +kernel
theorem dX12_between_34 : decode cX12_between 34 = .ok (.goto 8, 3) := by decide +kernel
theorem dX12_between_37 : decode cX12_between 37 = .ok (.iload_n 1, 1) := by decide +kernel
theorem dX12_between_38 : decode cX12_between 38 = .ok (.i2l, 1) := by decide +kernel
theorem dX12_between_39 : decode cX12_between 39 = .ok (.iload_n 2, 1) := by decide +kernel
theorem dX12_between_40 : decode cX12_between 40 = .ok (.i2l, 1) := by decide +kernel
theorem dX12_between_41 : decode cX12_between 41 = .ok (.lmul, 1) := by decide +kernel
theorem dX12_between_42 : decode cX12_between 42 = .ok (.lstore_n 3, 1) := by decide +kernel
theorem dX12_between_43 : decode cX12_between 43 = .ok (.lload_n 3, 1) := by decide +kernel
theorem dX12_between_44 : decode cX12_between 44 = .ok (.ldc2_w 189, 3) := by decide +kernel
theorem dX12_between_47 : decode cX12_between 47 = .ok (.lcmp, 1) := by decide +kernel
theorem dX12_between_48 : decode cX12_between 48 = .ok (.ifCond .le 9, 3) := by decide +kernel
theorem dX12_between_51 : decode cX12_between 51 = .ok (.ldc2_w 189, 3) := by decide +kernel
theorem dX12_between_54 : decode cX12_between 54 = .ok (.goto 18, 3) := by decide +kernel
theorem dX12_between_57 : decode cX12_between 57 = .ok (.lload_n 3, 1) := by decide +kernel
theorem dX12_between_58 : decode cX12_between 58 = .ok (.ldc2_w 191, 3) := by decide +kernel
theorem dX12_between_61 : decode cX12_between 61 = .ok (.lcmp, 1) := by decide +kernel
theorem dX12_between_62 : decode cX12_between 62 = .ok (.ifCond .ge 9, 3) := by decide +kernel
theorem dX12_between_65 : decode cX12_between 65 = .ok (.ldc2_w 191, 3) := by decide +kernel
theorem dX12_between_68 : decode cX12_between 68 = .ok (.goto 4, 3) := by decide +kernel
theorem dX12_between_71 : decode cX12_between 71 = .ok (.lload_n 3, 1) := by decide +kernel
theorem dX12_between_72 : decode cX12_between 72 = .ok (.l2i, 1) := by decide +kernel
theorem dX12_between_73 : decode cX12_between 73 = .ok (.ireturn, 1) := by decide +kernel
theorem dX12_between_74 : decode cX12_between 74 = .ok (.iload_n 0, 1) := by decide +kernel
theorem dX12_between_75 : decode cX12_between 75 = .ok (.sipush 3003, 3) := by decide +kernel
theorem dX12_between_78 : decode cX12_between 78 = .ok (.if_icmp .ne 16, 3) := by decide +kernel
theorem dX12_between_81 : decode cX12_between 81 = .ok (.iload_n 1, 1) := by decide +kernel
theorem dX12_between_82 : decode cX12_between 82 = .ok (.iload_n 2, 1) := by decide +kernel
theorem dX12_between_83 : decode cX12_between 83 = .ok (.if_icmp .ne 7, 3) := by decide +kernel
theorem dX12_between_86 : decode cX12_between 86 = .ok (.iconst 1, 1) := by decide +kernel
theorem dX12_between_87 : decode cX12_between 87 = .ok (.goto 80, 3) := by decide +kernel
theorem dX12_between_90 : decode cX12_between 90 = .ok (.iconst 0, 1) := by decide +kernel
theorem dX12_between_91 : decode cX12_between 91 = .ok (.goto 76, 3) := by decide +kernel
theorem dX12_between_94 : decode cX12_between 94 = .ok (.iload_n 0, 1) := by decide +kernel
theorem dX12_between_95 : decode cX12_between 95 = .ok (.sipush 3004, 3) := by decide +kernel
theorem dX12_between_98 : decode cX12_between 98 = .ok (.if_icmp .ne 16, 3) := by decide +kernel
theorem dX12_between_101 : decode cX12_between 101 = .ok (.iload_n 1, 1) := by decide +kernel
theorem dX12_between_102 : decode cX12_between 102 = .ok (.iload_n 2, 1) := by decide +kernel
theorem dX12_between_103 : decode cX12_between 103 = .ok (.if_icmp .ge 7, 3) := by decide +kernel
theorem dX12_between_106 : decode cX12_between 106 = .ok (.iconst 1, 1) := by decide +kernel
theorem dX12_between_107 : decode cX12_between 107 = .ok (.goto 60, 3) := by decide +kernel
theorem dX12_between_110 : decode cX12_between 110 = .ok (.iconst 0, 1) := by decide +kernel
theorem dX12_between_111 : decode cX12_between 111 = .ok (.goto 56, 3) := by decide +kernel
theorem dX12_between_114 : decode cX12_between 114 = .ok (.iload_n 0, 1) := by decide +kernel
theorem dX12_between_115 : decode cX12_between 115 = .ok (.sipush 3005, 3) := by decide +kernel
theorem dX12_between_118 : decode cX12_between 118 = .ok (.if_icmp .ne 16, 3) := by decide +kernel
theorem dX12_between_121 : decode cX12_between 121 = .ok (.iload_n 1, 1) := by decide +kernel
theorem dX12_between_122 : decode cX12_between 122 = .ok (.iload_n 2, 1) := by decide +kernel
theorem dX12_between_123 : decode cX12_between 123 = .ok (.if_icmp .le 7, 3) := by decide +kernel
theorem dX12_between_126 : decode cX12_between 126 = .ok (.iconst 1, 1) := by decide +kernel
theorem dX12_between_127 : decode cX12_between 127 = .ok (.goto 40, 3) := by decide +kernel
theorem dX12_between_130 : decode cX12_between 130 = .ok (.iconst 0, 1) := by decide +kernel
theorem dX12_between_131 : decode cX12_between 131 = .ok (.goto 36, 3) := by decide +kernel
theorem dX12_between_134 : decode cX12_between 134 = .ok (.iload_n 0, 1) := by decide +kernel
theorem dX12_between_135 : decode cX12_between 135 = .ok (.sipush 3006, 3) := by decide +kernel
theorem dX12_between_138 : decode cX12_between 138 = .ok (.if_icmp .ne 18, 3) := by decide +kernel
theorem dX12_between_141 : decode cX12_between 141 = .ok (.iload_n 1, 1) := by decide +kernel
theorem dX12_between_142 : decode cX12_between 142 = .ok (.iload_n 2, 1) := by decide +kernel
theorem dX12_between_143 : decode cX12_between 143 = .ok (.iadd, 1) := by decide +kernel
theorem dX12_between_144 : decode cX12_between 144 = .ok (.iconst 2, 1) := by decide +kernel
theorem dX12_between_145 : decode cX12_between 145 = .ok (.if_icmp .ne 7, 3) := by decide +kernel
theorem dX12_between_148 : decode cX12_between 148 = .ok (.iconst 1, 1) := by decide +kernel
theorem dX12_between_149 : decode cX12_between 149 = .ok (.goto 18, 3) := by decide +kernel
theorem dX12_between_152 : decode cX12_between 152 = .ok (.iconst 0, 1) := by decide +kernel
theorem dX12_between_153 : decode cX12_between 153 = .ok (.goto 14, 3) := by decide +kernel
theorem dX12_between_156 : decode cX12_between 156 = .ok (.iload_n 1, 1) := by decide +kernel
theorem dX12_between_157 : decode cX12_between 157 = .ok (.iload_n 2, 1) := by decide +kernel
theorem dX12_between_158 : decode cX12_between 158 = .ok (.iadd, 1) := by decide +kernel
theorem dX12_between_159 : decode cX12_between 159 = .ok (.ifCond .le 7, 3) := by decide +kernel
theorem dX12_between_162 : decode cX12_between 162 = .ok (.iconst 1, 1) := by decide +kernel
theorem dX12_between_163 : decode cX12_between 163 = .ok (.goto 4, 3) := by decide +kernel
theorem dX12_between_166 : decode cX12_between 166 = .ok (.iconst 0, 1) := by decide +kernel
theorem dX12_between_167 : decode cX12_between 167 = .ok (.istore_n 3, 1) := by decide +kernel
theorem dX12_between_168 : decode cX12_between 168 = .ok (.iload_n 3, 1) := by decide +kernel
theorem dX12_between_169 : decode cX12_between 169 = .ok (.ifCond .eq 7, 3) := by decide +kernel
theorem dX12_between_172 : decode cX12_between 172 = .ok (.iconst 1, 1) := by decide +kernel
theorem dX12_between_173 : decode cX12_between 173 = .ok (.goto 4, 3) := by decide +kernel
theorem dX12_between_176 : decode cX12_between 176 = .ok (.iconst 0, 1) := by decide +kernel
theorem dX12_between_177 : decode cX12_between 177 = .ok (.ireturn, 1) := by decide +kernel
theorem dX12_holdsIn_0 : decode cX12_holdsIn 0 = .ok (.iconst 0, 1) := by decide +kernel
theorem dX12_holdsIn_1 : decode cX12_holdsIn 1 = .ok (.istore_n 3, 1) := by decide +kernel
theorem dX12_holdsIn_2 : decode cX12_holdsIn 2 = .ok (.iconst 0, 1) := by decide +kernel
theorem dX12_holdsIn_3 : decode cX12_holdsIn 3 = .ok (.istore 4, 2) := by decide +kernel
theorem dX12_holdsIn_5 : decode cX12_holdsIn 5 = .ok (.iload 4, 2) := by decide +kernel
theorem dX12_holdsIn_7 : decode cX12_holdsIn 7 = .ok (.aload_n 0, 1) := by decide +kernel
theorem dX12_holdsIn_8 : decode cX12_holdsIn 8 = .ok (.getfield 33, 3) := by decide +kernel
theorem dX12_holdsIn_11 : decode cX12_holdsIn 11 = .ok (.iload_n 1, 1) := by decide +kernel
theorem dX12_holdsIn_12 : decode cX12_holdsIn 12 = .ok (.iaload, 1) := by decide +kernel
theorem dX12_holdsIn_13 : decode cX12_holdsIn 13 = .ok (.if_icmp .ge 111, 3) := by decide +kernel
theorem dX12_holdsIn_16 : decode cX12_holdsIn 16 = .ok (.aload_n 0, 1) := by decide +kernel
theorem dX12_holdsIn_17 : decode cX12_holdsIn 17 = .ok (.getfield 27, 3) := by decide +kernel
theorem dX12_holdsIn_20 : decode cX12_holdsIn 20 = .ok (.aload_n 0, 1) := by decide +kernel
theorem dX12_holdsIn_21 : decode cX12_holdsIn 21 = .ok (.getfield 30, 3) := by decide +kernel
theorem dX12_holdsIn_24 : decode cX12_holdsIn 24 = .ok (.iload_n 1, 1) := by decide +kernel
theorem dX12_holdsIn_25 : decode cX12_holdsIn 25 = .ok (.iaload, 1) := by decide +kernel
theorem dX12_holdsIn_26 : decode cX12_holdsIn 26 = .ok (.iload 4, 2) := by decide +kernel
theorem dX12_holdsIn_28 : decode cX12_holdsIn 28 = .ok (.iadd, 1) := by decide +kernel
theorem dX12_holdsIn_29 : decode cX12_holdsIn 29 = .ok (.iaload, 1) := by decide +kernel
theorem dX12_holdsIn_30 : decode cX12_holdsIn 30 = .ok (.istore 5, 2) := by decide +kernel
theorem dX12_holdsIn_32 : decode cX12_holdsIn 32 = .ok (.iload 5, 2) := by decide +kernel
theorem dX12_holdsIn_34 : decode cX12_holdsIn 34 = .ok (.sipush 3000, 3) := by decide +kernel
theorem dX12_holdsIn_37 : decode cX12_holdsIn 37 = .ok (.if_icmp .ge 22, 3) := by decide +kernel
theorem dX12_holdsIn_40 : decode cX12_holdsIn 40 = .ok (.aload_n 0, 1) := by decide +kernel
theorem dX12_holdsIn_41 : decode cX12_holdsIn 41 = .ok (.getfield 39, 3) := by decide +kernel
theorem dX12_holdsIn_44 : decode cX12_holdsIn 44 = .ok (.iload_n 3, 1) := by decide +kernel
theorem dX12_holdsIn_45 : decode cX12_holdsIn 45 = .ok (.aload_n 0, 1) := by decide +kernel
theorem dX12_holdsIn_46 : decode cX12_holdsIn 46 = .ok (.iload 5, 2) := by decide +kernel
theorem dX12_holdsIn_48 : decode cX12_holdsIn 48 = .ok (.iload_n 2, 1) := by decide +kernel
theorem dX12_holdsIn_49 : decode cX12_holdsIn 49 = .ok (.invokevirtual 193, 3) := by decide +kernel
theorem dX12_holdsIn_52 : decode cX12_holdsIn 52 = .ok (.iastore, 1) := by decide +kernel
theorem dX12_holdsIn_53 : decode cX12_holdsIn 53 = .ok (.iinc 3 1, 3) := by decide +kernel
theorem dX12_holdsIn_56 : decode cX12_holdsIn 56 = .ok (.goto 62, 3) := by decide +kernel
theorem dX12_holdsIn_59 : decode cX12_holdsIn 59 = .ok (.iload 5, 2) := by decide +kernel
theorem dX12_holdsIn_61 : decode cX12_holdsIn 61 = .ok (.sipush 3008, 3) := by decide +kernel
theorem dX12_holdsIn_64 : decode cX12_holdsIn 64 = .ok (.if_icmp .ne 24, 3) := by decide +kernel
theorem dX12_holdsIn_67 : decode cX12_holdsIn 67 = .ok (.aload_n 0, 1) := by decide +kernel
theorem dX12_holdsIn_68 : decode cX12_holdsIn 68 = .ok (.getfield 39, 3) := by decide +kernel
theorem dX12_holdsIn_71 : decode cX12_holdsIn 71 = .ok (.iload_n 3, 1) := by decide +kernel
theorem dX12_holdsIn_72 : decode cX12_holdsIn 72 = .ok (.iconst 1, 1) := by decide +kernel
theorem dX12_holdsIn_73 : decode cX12_holdsIn 73 = .ok (.isub, 1) := by decide +kernel
theorem dX12_holdsIn_74 : decode cX12_holdsIn 74 = .ok (.iconst 1, 1) := by decide +kernel
theorem dX12_holdsIn_75 : decode cX12_holdsIn 75 = .ok (.aload_n 0, 1) := by decide +kernel
theorem dX12_holdsIn_76 : decode cX12_holdsIn 76 = .ok (.getfield 39, 3) := by decide +kernel
theorem dX12_holdsIn_79 : decode cX12_holdsIn 79 = .ok (.iload_n 3, 1) := by decide +kernel
theorem dX12_holdsIn_80 : decode cX12_holdsIn 80 = .ok (.iconst 1, 1) := by decide +kernel
theorem dX12_holdsIn_81 : decode cX12_holdsIn 81 = .ok (.isub, 1) := by decide +kernel
theorem dX12_holdsIn_82 : decode cX12_holdsIn 82 = .ok (.iaload, 1) := by decide +kernel
theorem dX12_holdsIn_83 : decode cX12_holdsIn 83 = .ok (.isub, 1) := by decide +kernel
theorem dX12_holdsIn_84 : decode cX12_holdsIn 84 = .ok (.iastore, 1) := by decide +kernel
theorem dX12_holdsIn_85 : decode cX12_holdsIn 85 = .ok (.goto 33, 3) := by decide +kernel
theorem dX12_holdsIn_88 : decode cX12_holdsIn 88 = .ok (.iinc 3 (-1), 3) := by decide +kernel
theorem dX12_holdsIn_91 : decode cX12_holdsIn 91 = .ok (.aload_n 0, 1) := by decide +kernel
theorem dX12_holdsIn_92 : decode cX12_holdsIn 92 = .ok (.getfield 39, 3) := by decide +kernel
theorem dX12_holdsIn_95 : decode cX12_holdsIn 95 = .ok (.iload_n 3, 1) := by decide +kernel
theorem dX12_holdsIn_96 : decode cX12_holdsIn 96 = .ok (.iconst 1, 1) := by decide +kernel
theorem dX12_holdsIn_97 : decode cX12_holdsIn 97 = .ok (.isub, 1) := by decide +kernel
theorem dX12_holdsIn_98 : decode cX12_holdsIn 98 = .ok (.iload 5, 2) := by decide +kernel
theorem dX12_holdsIn_100 : decode cX12_holdsIn 100 = .ok (.aload_n 0, 1) := by decide +kernel
theorem dX12_holdsIn_101 : decode cX12_holdsIn 101 = .ok (.getfield 39, 3) := by decide +kernel
theorem dX12_holdsIn_104 : decode cX12_holdsIn 104 = .ok (.iload_n 3, 1) := by decide +kernel
theorem dX12_holdsIn_105 : decode cX12_holdsIn 105 = .ok (.iconst 1, 1) := by decide +kernel
theorem dX12_holdsIn_106 : decode cX12_holdsIn 106 = .ok (.isub, 1) := by decide +kernel
theorem dX12_holdsIn_107 : decode cX12_holdsIn 107 = .ok (.iaload, 1) := by decide +kernel
theorem dX12_holdsIn_108 : decode cX12_holdsIn 108 = .ok (.aload_n 0, 1) := by decide +kernel
theorem dX12_holdsIn_109 : decode cX12_holdsIn 109 = .ok (.getfield 39, 3) := by decide +kernel
theorem dX12_holdsIn_112 : decode cX12_holdsIn 112 = .ok (.iload_n 3, 1) := by decide +kernel
theorem dX12_holdsIn_113 : decode cX12_holdsIn 113 = .ok (.iaload, 1) := by decide +kernel
theorem dX12_holdsIn_114 : decode cX12_holdsIn 114 = .ok (.invokestatic 196, 3) := by decide +kernel
theorem dX12_holdsIn_117 : decode cX12_holdsIn 117 = .ok (.iastore, 1) := by decide +kernel
theorem dX12_holdsIn_118 : decode cX12_holdsIn 118 = .ok (.iinc 4 1, 3) := by decide +kernel
theorem dX12_holdsIn_121 : decode cX12_holdsIn 121 = .ok (.goto (-116), 3) := by decide +kernel
theorem dX12_holdsIn_124 : decode cX12_holdsIn 124 = .ok (.aload_n 0, 1) := by decide +kernel
theorem dX12_holdsIn_125 : decode cX12_holdsIn 125 = .ok (.getfield 39, 3) := by decide +kernel
theorem dX12_holdsIn_128 : decode cX12_holdsIn 128 = .ok (.iconst 0, 1) := by decide +kernel
theorem dX12_holdsIn_129 : decode cX12_holdsIn 129 = .ok (.iaload, 1) := by decide +kernel
theorem dX12_holdsIn_130 : decode cX12_holdsIn 130 = .ok (.iconst 1, 1) := by decide +kernel
theorem dX12_holdsIn_131 : decode cX12_holdsIn 131 = .ok (.if_icmp .ne 7, 3) := by decide +kernel
theorem dX12_holdsIn_134 : decode cX12_holdsIn 134 = .ok (.iconst 1, 1) := by decide +kernel
theorem dX12_holdsIn_135 : decode cX12_holdsIn 135 = .ok (.goto 4, 3) := by decide +kernel
theorem dX12_holdsIn_138 : decode cX12_holdsIn 138 = .ok (.iconst 0, 1) := by decide +kernel
theorem dX12_holdsIn_139 : decode cX12_holdsIn 139 = .ok (.ireturn, 1) := by decide +kernel
theorem dX12_land_0 : decode cX12_land 0 = .ok (.aload_n 0, 1) := by decide +kernel
theorem dX12_land_1 : decode cX12_land 1 = .ok (.iconst 0, 1) := by decide +kernel
theorem dX12_land_2 : decode cX12_land 2 = .ok (.putfield 1, 3) := by decide +kernel
theorem dX12_land_5 : decode cX12_land 5 = .ok (.iload_n 1, 1) := by decide +kernel
theorem dX12_land_6 : decode cX12_land 6 = .ok (.i2l, 1) := by decide +kernel
theorem dX12_land_7 : decode cX12_land 7 = .ok (.lconst 0, 1) := by decide +kernel
theorem dX12_land_8 : decode cX12_land 8 = .ok (.aload_n 0, 1) := by decide +kernel
theorem dX12_land_9 : decode cX12_land 9 = .ok (.getfield 83, 3) := by decide +kernel
theorem dX12_land_12 : decode cX12_land 12 = .ok (.i2l, 1) := by decide +kernel
theorem dX12_land_13 : decode cX12_land 13 = .ok (.invokestatic 145, 3) := by decide +kernel
theorem dX12_land_16 : decode cX12_land 16 = .ok (.ifCond .ne 6, 3) := by decide +kernel
theorem dX12_land_19 : decode cX12_land 19 = .ok (.bipush (-3), 2) := by decide +kernel
theorem dX12_land_21 : decode cX12_land 21 = .ok (.ireturn, 1) := by decide +kernel
theorem dX12_land_22 : decode cX12_land 22 = .ok (.aload_n 0, 1) := by decide +kernel
theorem dX12_land_23 : decode cX12_land 23 = .ok (.iload_n 1, 1) := by decide +kernel
theorem dX12_land_24 : decode cX12_land 24 = .ok (.putfield 86, 3) := by decide +kernel
theorem dX12_land_27 : decode cX12_land 27 = .ok (.aload_n 0, 1) := by decide +kernel
theorem dX12_land_28 : decode cX12_land 28 = .ok (.iconst 0, 1) := by decide +kernel
theorem dX12_land_29 : decode cX12_land 29 = .ok (.putfield 83, 3) := by decide +kernel
theorem dX12_land_32 : decode cX12_land 32 = .ok (.aload_n 0, 1) := by decide +kernel
theorem dX12_land_33 : decode cX12_land 33 = .ok (.iconst 0, 1) := by decide +kernel
theorem dX12_land_34 : decode cX12_land 34 = .ok (.putfield 104, 3) := by decide +kernel
theorem dX12_land_37 : decode cX12_land 37 = .ok (.aload_n 0, 1) := by decide +kernel
theorem dX12_land_38 : decode cX12_land 38 = .ok (.iconst 0, 1) := by decide +kernel
theorem dX12_land_39 : decode cX12_land 39 = .ok (.putfield 129, 3) := by decide +kernel
theorem dX12_land_42 : decode cX12_land 42 = .ok (.aload_n 0, 1) := by decide +kernel
theorem dX12_land_43 : decode cX12_land 43 = .ok (.iconst 0, 1) := by decide +kernel
theorem dX12_land_44 : decode cX12_land 44 = .ok (.putfield 156, 3) := by decide +kernel
theorem dX12_land_47 : decode cX12_land 47 = .ok (.iconst 0, 1) := by decide +kernel
theorem dX12_land_48 : decode cX12_land 48 = .ok (.istore_n 2, 1) := by decide +kernel
theorem dX12_land_49 : decode cX12_land 49 = .ok (.iload_n 2, 1) := by decide +kernel
theorem dX12_land_50 : decode cX12_land 50 = .ok (.sipush 198, 3) := by decide +kernel
theorem dX12_land_53 : decode cX12_land 53 = .ok (.if_icmp .ge 16, 3) := by decide +kernel
theorem dX12_land_56 : decode cX12_land 56 = .ok (.aload_n 0, 1) := by decide +kernel
theorem dX12_land_57 : decode cX12_land 57 = .ok (.getfield 24, 3) := by decide +kernel
theorem dX12_land_60 : decode cX12_land 60 = .ok (.iload_n 2, 1) := by decide +kernel
theorem dX12_land_61 : decode cX12_land 61 = .ok (.iconst 0, 1) := by decide +kernel
theorem dX12_land_62 : decode cX12_land 62 = .ok (.iastore, 1) := by decide +kernel
theorem dX12_land_63 : decode cX12_land 63 = .ok (.iinc 2 1, 3) := by decide +kernel
theorem dX12_land_66 : decode cX12_land 66 = .ok (.goto (-17), 3) := by decide +kernel
theorem dX12_land_69 : decode cX12_land 69 = .ok (.aload_n 0, 1) := by decide +kernel
theorem dX12_land_70 : decode cX12_land 70 = .ok (.invokevirtual 138, 3) := by decide +kernel
theorem dX12_land_73 : decode cX12_land 73 = .ok (.aload_n 0, 1) := by decide +kernel
theorem dX12_land_74 : decode cX12_land 74 = .ok (.getfield 129, 3) := by decide +kernel
theorem dX12_land_77 : decode cX12_land 77 = .ok (.ifCond .ne 152, 3) := by decide +kernel
theorem dX12_land_80 : decode cX12_land 80 = .ok (.aload_n 0, 1) := by decide +kernel
theorem dX12_land_81 : decode cX12_land 81 = .ok (.getfield 111, 3) := by decide +kernel
theorem dX12_land_84 : decode cX12_land 84 = .ok (.bipush 17, 2) := by decide +kernel
theorem dX12_land_86 : decode cX12_land 86 = .ok (.if_icmp .eq 143, 3) := by decide +kernel
theorem dX12_land_89 : decode cX12_land 89 = .ok (.aload_n 0, 1) := by decide +kernel
theorem dX12_land_90 : decode cX12_land 90 = .ok (.iconst 0, 1) := by decide +kernel
theorem dX12_land_91 : decode cX12_land 91 = .ok (.invokevirtual 135, 3) := by decide +kernel
theorem dX12_land_94 : decode cX12_land 94 = .ok (.ifCond .eq 10, 3) := by decide +kernel
theorem dX12_land_97 : decode cX12_land 97 = .ok (.aload_n 0, 1) := by decide +kernel
theorem dX12_land_98 : decode cX12_land 98 = .ok (.invokevirtual 200, 3) := by decide +kernel
theorem dX12_land_101 : decode cX12_land 101 = .ok (.goto 101, 3) := by decide +kernel
theorem dX12_land_104 : decode cX12_land 104 = .ok (.aload_n 0, 1) := by decide +kernel
theorem dX12_land_105 : decode cX12_land 105 = .ok (.iconst 3, 1) := by decide +kernel
theorem dX12_land_106 : decode cX12_land 106 = .ok (.invokevirtual 135, 3) := by decide +kernel
theorem dX12_land_109 : decode cX12_land 109 = .ok (.ifCond .eq 10, 3) := by decide +kernel
theorem dX12_land_112 : decode cX12_land 112 = .ok (.aload_n 0, 1) := by decide +kernel
theorem dX12_land_113 : decode cX12_land 113 = .ok (.invokevirtual 203, 3) := by decide +kernel
theorem dX12_land_116 : decode cX12_land 116 = .ok (.goto 86, 3) := by decide +kernel
theorem dX12_land_119 : decode cX12_land 119 = .ok (.aload_n 0, 1) := by decide +kernel
theorem dX12_land_120 : decode cX12_land 120 = .ok (.iconst 4, 1) := by decide +kernel
theorem dX12_land_121 : decode cX12_land 121 = .ok (.invokevirtual 135, 3) := by decide +kernel
theorem dX12_land_124 : decode cX12_land 124 = .ok (.ifCond .eq 10, 3) := by decide +kernel
theorem dX12_land_127 : decode cX12_land 127 = .ok (.aload_n 0, 1) := by decide +kernel
theorem dX12_land_128 : decode cX12_land 128 = .ok (.invokevirtual 206, 3) := by decide +kernel
theorem dX12_land_131 : decode cX12_land 131 = .ok (.goto 71, 3) := by decide +kernel
theorem dX12_land_134 : decode cX12_land 134 = .ok (.aload_n 0, 1) := by decide +kernel
theorem dX12_land_135 : decode cX12_land 135 = .ok (.bipush 6, 2) := by decide +kernel
theorem dX12_land_137 : decode cX12_land 137 = .ok (.invokevirtual 153, 3) := by decide +kernel
theorem dX12_land_140 : decode cX12_land 140 = .ok (.ifCond .eq 10, 3) := by decide +kernel
theorem dX12_land_143 : decode cX12_land 143 = .ok (.aload_n 0, 1) := by decide +kernel
theorem dX12_land_144 : decode cX12_land 144 = .ok (.invokevirtual 209, 3) := by decide +kernel
theorem dX12_land_147 : decode cX12_land 147 = .ok (.goto 55, 3) := by decide +kernel
theorem dX12_land_150 : decode cX12_land 150 = .ok (.aload_n 0, 1) := by decide +kernel
theorem dX12_land_151 : decode cX12_land 151 = .ok (.bipush 7, 2) := by decide +kernel
theorem dX12_land_153 : decode cX12_land 153 = .ok (.invokevirtual 153, 3) := by decide +kernel
theorem dX12_land_156 : decode cX12_land 156 = .ok (.ifCond .eq 10, 3) := by decide +kernel
theorem dX12_land_159 : decode cX12_land 159 = .ok (.aload_n 0, 1) := by decide +kernel
theorem dX12_land_160 : decode cX12_land 160 = .ok (.invokevirtual 212, 3) := by decide +kernel
theorem dX12_land_163 : decode cX12_land 163 = .ok (.goto 39, 3) := by decide +kernel
theorem dX12_land_166 : decode cX12_land 166 = .ok (.aload_n 0, 1) := by decide +kernel
theorem dX12_land_167 : decode cX12_land 167 = .ok (.bipush 8, 2) := by decide +kernel
theorem dX12_land_169 : decode cX12_land 169 = .ok (.invokevirtual 153, 3) := by decide +kernel
theorem dX12_land_172 : decode cX12_land 172 = .ok (.ifCond .eq 25, 3) := by decide +kernel
theorem dX12_land_175 : decode cX12_land 175 = .ok (.aload_n 0, 1) := by decide +kernel
theorem dX12_land_176 : decode cX12_land 176 = .ok (.getfield 24, 3) := by decide +kernel
theorem dX12_land_179 : decode cX12_land 179 = .ok (.iconst 4, 1) := by decide +kernel
theorem dX12_land_180 : decode cX12_land 180 = .ok (.aload_n 0, 1) := by decide +kernel
theorem dX12_land_181 : decode cX12_land 181 = .ok (.iconst 0, 1) := by decide +kernel
theorem dX12_land_182 : decode cX12_land 182 = .ok (.aload_n 0, 1) := by decide +kernel
theorem dX12_land_183 : decode cX12_land 183 = .ok (.getfield 24, 3) := by decide +kernel
theorem dX12_land_186 : decode cX12_land 186 = .ok (.iconst 1, 1) := by decide +kernel
theorem dX12_land_187 : decode cX12_land 187 = .ok (.iaload, 1) := by decide +kernel
theorem dX12_land_188 : decode cX12_land 188 = .ok (.iconst 1, 1) := by decide +kernel
theorem dX12_land_189 : decode cX12_land 189 = .ok (.isub, 1) := by decide +kernel
theorem dX12_land_190 : decode cX12_land 190 = .ok (.invokevirtual 149, 3) := by decide +kernel
theorem dX12_land_193 : decode cX12_land 193 = .ok (.iastore, 1) := by decide +kernel
theorem dX12_land_194 : decode cX12_land 194 = .ok (.goto 8, 3) := by decide +kernel
theorem dX12_land_197 : decode cX12_land 197 = .ok (.aload_n 0, 1) := by decide +kernel
theorem dX12_land_198 : decode cX12_land 198 = .ok (.iconst 2, 1) := by decide +kernel
theorem dX12_land_199 : decode cX12_land 199 = .ok (.invokevirtual 141, 3) := by decide +kernel
theorem dX12_land_202 : decode cX12_land 202 = .ok (.aload_n 0, 1) := by decide +kernel
theorem dX12_land_203 : decode cX12_land 203 = .ok (.bipush 20, 2) := by decide +kernel
theorem dX12_land_205 : decode cX12_land 205 = .ok (.invokevirtual 153, 3) := by decide +kernel
theorem dX12_land_208 : decode cX12_land 208 = .ok (.ifCond .ne 8, 3) := by decide +kernel
theorem dX12_land_211 : decode cX12_land 211 = .ok (.aload_n 0, 1) := by decide +kernel
theorem dX12_land_212 : decode cX12_land 212 = .ok (.iconst 2, 1) := by decide +kernel
theorem dX12_land_213 : decode cX12_land 213 = .ok (.invokevirtual 141, 3) := by decide +kernel
theorem dX12_land_216 : decode cX12_land 216 = .ok (.aload_n 0, 1) := by decide +kernel
theorem dX12_land_217 : decode cX12_land 217 = .ok (.getfield 24, 3) := by decide +kernel
theorem dX12_land_220 : decode cX12_land 220 = .ok (.iconst 0, 1) := by decide +kernel
theorem dX12_land_221 : decode cX12_land 221 = .ok (.dup2, 1) := by decide +kernel
theorem dX12_land_222 : decode cX12_land 222 = .ok (.iaload, 1) := by decide +kernel
theorem dX12_land_223 : decode cX12_land 223 = .ok (.iconst 1, 1) := by decide +kernel
theorem dX12_land_224 : decode cX12_land 224 = .ok (.iadd, 1) := by decide +kernel
theorem dX12_land_225 : decode cX12_land 225 = .ok (.iastore, 1) := by decide +kernel
theorem dX12_land_226 : decode cX12_land 226 = .ok (.goto (-153), 3) := by decide +kernel
theorem dX12_land_229 : decode cX12_land 229 = .ok (.aload_n 0, 1) := by decide +kernel
theorem dX12_land_230 : decode cX12_land 230 = .ok (.aload_n 0, 1) := by decide +kernel
theorem dX12_land_231 : decode cX12_land 231 = .ok (.getfield 129, 3) := by decide +kernel
theorem dX12_land_234 : decode cX12_land 234 = .ok (.putfield 215, 3) := by decide +kernel
theorem dX12_land_237 : decode cX12_land 237 = .ok (.aload_n 0, 1) := by decide +kernel
theorem dX12_land_238 : decode cX12_land 238 = .ok (.aload_n 0, 1) := by decide +kernel
theorem dX12_land_239 : decode cX12_land 239 = .ok (.getfield 129, 3) := by decide +kernel
theorem dX12_land_242 : decode cX12_land 242 = .ok (.ifCond .ne 7, 3) := by decide +kernel
theorem dX12_land_245 : decode cX12_land 245 = .ok (.iconst (-1), 1) := by decide +kernel
theorem dX12_land_246 : decode cX12_land 246 = .ok (.goto 7, 3) := by decide +kernel
theorem dX12_land_249 : decode cX12_land 249 = .ok (.aload_n 0, 1) := by decide +kernel
theorem dX12_land_250 : decode cX12_land 250 = .ok (.getfield 132, 3) := by decide +kernel
theorem dX12_land_253 : decode cX12_land 253 = .ok (.putfield 36, 3) := by decide +kernel
theorem dX12_land_256 : decode cX12_land 256 = .ok (.aload_n 0, 1) := by decide +kernel
theorem dX12_land_257 : decode cX12_land 257 = .ok (.getfield 129, 3) := by decide +kernel
theorem dX12_land_260 : decode cX12_land 260 = .ok (.ifCond .eq 11, 3) := by decide +kernel
theorem dX12_land_263 : decode cX12_land 263 = .ok (.bipush (-30), 2) := by decide +kernel
theorem dX12_land_265 : decode cX12_land 265 = .ok (.aload_n 0, 1) := by decide +kernel
theorem dX12_land_266 : decode cX12_land 266 = .ok (.getfield 129, 3) := by decide +kernel
theorem dX12_land_269 : decode cX12_land 269 = .ok (.isub, 1) := by decide +kernel
theorem dX12_land_270 : decode cX12_land 270 = .ok (.ireturn, 1) := by decide +kernel
theorem dX12_land_271 : decode cX12_land 271 = .ok (.iconst 0, 1) := by decide +kernel
theorem dX12_land_272 : decode cX12_land 272 = .ok (.istore_n 2, 1) := by decide +kernel
theorem dX12_land_273 : decode cX12_land 273 = .ok (.iload_n 2, 1) := by decide +kernel
theorem dX12_land_274 : decode cX12_land 274 = .ok (.aload_n 0, 1) := by decide +kernel
theorem dX12_land_275 : decode cX12_land 275 = .ok (.getfield 24, 3) := by decide +kernel
theorem dX12_land_278 : decode cX12_land 278 = .ok (.iconst 2, 1) := by decide +kernel
theorem dX12_land_279 : decode cX12_land 279 = .ok (.iaload, 1) := by decide +kernel
theorem dX12_land_280 : decode cX12_land 280 = .ok (.if_icmp .ge 55, 3) := by decide +kernel
theorem dX12_land_283 : decode cX12_land 283 = .ok (.iconst 0, 1) := by decide +kernel
theorem dX12_land_284 : decode cX12_land 284 = .ok (.istore_n 3, 1) := by decide +kernel
theorem dX12_land_285 : decode cX12_land 285 = .ok (.iload_n 3, 1) := by decide +kernel
theorem dX12_land_286 : decode cX12_land 286 = .ok (.aload_n 0, 1) := by decide +kernel
theorem dX12_land_287 : decode cX12_land 287 = .ok (.getfield 24, 3) := by decide +kernel
theorem dX12_land_290 : decode cX12_land 290 = .ok (.iconst 1, 1) := by decide +kernel
theorem dX12_land_291 : decode cX12_land 291 = .ok (.iaload, 1) := by decide +kernel
theorem dX12_land_292 : decode cX12_land 292 = .ok (.if_icmp .ge 37, 3) := by decide +kernel
theorem dX12_land_295 : decode cX12_land 295 = .ok (.aload_n 0, 1) := by decide +kernel
theorem dX12_land_296 : decode cX12_land 296 = .ok (.getfield 24, 3) := by decide +kernel
theorem dX12_land_299 : decode cX12_land 299 = .ok (.bipush 105, 2) := by decide +kernel
theorem dX12_land_301 : decode cX12_land 301 = .ok (.iload_n 2, 1) := by decide +kernel
theorem dX12_land_302 : decode cX12_land 302 = .ok (.iadd, 1) := by decide +kernel
theorem dX12_land_303 : decode cX12_land 303 = .ok (.dup2, 1) := by decide +kernel
theorem dX12_land_304 : decode cX12_land 304 = .ok (.iaload, 1) := by decide +kernel
theorem dX12_land_305 : decode cX12_land 305 = .ok (.aload_n 0, 1) := by decide +kernel
theorem dX12_land_306 : decode cX12_land 306 = .ok (.iload_n 2, 1) := by decide +kernel
theorem dX12_land_307 : decode cX12_land 307 = .ok (.iload_n 3, 1) := by decide +kernel
theorem dX12_land_308 : decode cX12_land 308 = .ok (.invokevirtual 218, 3) := by decide +kernel
theorem dX12_land_311 : decode cX12_land 311 = .ok (.ifCond .eq 9, 3) := by decide +kernel
theorem dX12_land_314 : decode cX12_land 314 = .ok (.iconst 1, 1) := by decide +kernel
theorem dX12_land_315 : decode cX12_land 315 = .ok (.iload_n 3, 1) := by decide +kernel
theorem dX12_land_316 : decode cX12_land 316 = .ok (.ishl, 1) := by decide +kernel
theorem dX12_land_317 : decode cX12_land 317 = .ok (.goto 4, 3) := by decide +kernel
theorem dX12_land_320 : decode cX12_land 320 = .ok (.iconst 0, 1) := by decide +kernel
theorem dX12_land_321 : decode cX12_land 321 = .ok (.ior, 1) := by decide +kernel
theorem dX12_land_322 : decode cX12_land 322 = .ok (.iastore, 1) := by decide +kernel
theorem dX12_land_323 : decode cX12_land 323 = .ok (.iinc 3 1, 3) := by decide +kernel
theorem dX12_land_326 : decode cX12_land 326 = .ok (.goto (-41), 3) := by decide +kernel
theorem dX12_land_329 : decode cX12_land 329 = .ok (.iinc 2 1, 3) := by decide +kernel
theorem dX12_land_332 : decode cX12_land 332 = .ok (.goto (-59), 3) := by decide +kernel
theorem dX12_land_335 : decode cX12_land 335 = .ok (.iconst 0, 1) := by decide +kernel
theorem dX12_land_336 : decode cX12_land 336 = .ok (.istore_n 2, 1) := by decide +kernel
theorem dX12_land_337 : decode cX12_land 337 = .ok (.iload_n 2, 1) := by decide +kernel
theorem dX12_land_338 : decode cX12_land 338 = .ok (.sipush 198, 3) := by decide +kernel
theorem dX12_land_341 : decode cX12_land 341 = .ok (.if_icmp .ge 21, 3) := by decide +kernel
theorem dX12_land_344 : decode cX12_land 344 = .ok (.aload_n 0, 1) := by decide +kernel
theorem dX12_land_345 : decode cX12_land 345 = .ok (.getfield 13, 3) := by decide +kernel
theorem dX12_land_348 : decode cX12_land 348 = .ok (.iload_n 2, 1) := by decide +kernel
theorem dX12_land_349 : decode cX12_land 349 = .ok (.aload_n 0, 1) := by decide +kernel
theorem dX12_land_350 : decode cX12_land 350 = .ok (.getfield 24, 3) := by decide +kernel
theorem dX12_land_353 : decode cX12_land 353 = .ok (.iload_n 2, 1) := by decide +kernel
theorem dX12_land_354 : decode cX12_land 354 = .ok (.iaload, 1) := by decide +kernel
theorem dX12_land_355 : decode cX12_land 355 = .ok (.iastore, 1) := by decide +kernel
theorem dX12_land_356 : decode cX12_land 356 = .ok (.iinc 2 1, 3) := by decide +kernel
theorem dX12_land_359 : decode cX12_land 359 = .ok (.goto (-22), 3) := by decide +kernel
theorem dX12_land_362 : decode cX12_land 362 = .ok (.aload_n 0, 1) := by decide +kernel
theorem dX12_land_363 : decode cX12_land 363 = .ok (.getfield 13, 3) := by decide +kernel
theorem dX12_land_366 : decode cX12_land 366 = .ok (.iconst 0, 1) := by decide +kernel
theorem dX12_land_367 : decode cX12_land 367 = .ok (.iaload, 1) := by decide +kernel
theorem dX12_land_368 : decode cX12_land 368 = .ok (.ireturn, 1) := by decide +kernel
theorem dX12_fault_0 : decode cX12_fault 0 = .ok (.aload_n 0, 1) := by decide +kernel
theorem dX12_fault_1 : decode cX12_fault 1 = .ok (.iconst 0, 1) := by decide +kernel
theorem dX12_fault_2 : decode cX12_fault 2 = .ok (.putfield 1, 3) := by decide +kernel
theorem dX12_fault_5 : decode cX12_fault 5 = .ok (.iload_n 1, 1) := by decide +kernel
theorem dX12_fault_6 : decode cX12_fault 6 = .ok (.ifCond .ne 10, 3) := by decide +kernel
theorem dX12_fault_9 : decode cX12_fault 9 = .ok (.aload_n 0, 1) := by decide +kernel
theorem dX12_fault_10 : decode cX12_fault 10 = .ok (.getfield 215, 3) := by decide +kernel
theorem dX12_fault_13 : decode cX12_fault 13 = .ok (.goto 16, 3) := by decide +kernel
theorem dX12_fault_16 : decode cX12_fault 16 = .ok (.iload_n 1, 1) := by decide +kernel
theorem dX12_fault_17 : decode cX12_fault 17 = .ok (.iconst 1, 1) := by decide +kernel
theorem dX12_fault_18 : decode cX12_fault 18 = .ok (.if_icmp .ne 10, 3) := by decide +kernel
theorem dX12_fault_21 : decode cX12_fault 21 = .ok (.aload_n 0, 1) := by decide +kernel
theorem dX12_fault_22 : decode cX12_fault 22 = .ok (.getfield 36, 3) := by decide +kernel
theorem dX12_fault_25 : decode cX12_fault 25 = .ok (.goto 4, 3) := by decide +kernel
theorem dX12_fault_28 : decode cX12_fault 28 = .ok (.iconst (-1), 1) := by decide +kernel
theorem dX12_fault_29 : decode cX12_fault 29 = .ok (.ireturn, 1) := by decide +kernel
theorem dX12_isWorld_0 : decode cX12_isWorld 0 = .ok (.iload_n 1, 1) := by decide +kernel
theorem dX12_isWorld_1 : decode cX12_isWorld 1 = .ok (.i2l, 1) := by decide +kernel
theorem dX12_isWorld_2 : decode cX12_isWorld 2 = .ok (.lconst 0, 1) := by decide +kernel
theorem dX12_isWorld_3 : decode cX12_isWorld 3 = .ok (.aload_n 0, 1) := by decide +kernel
theorem dX12_isWorld_4 : decode cX12_isWorld 4 = .ok (.getfield 13, 3) := by decide +kernel
theorem dX12_isWorld_7 : decode cX12_isWorld 7 = .ok (.iconst 1, 1) := by decide +kernel
theorem dX12_isWorld_8 : decode cX12_isWorld 8 = .ok (.iaload, 1) := by decide +kernel
theorem dX12_isWorld_9 : decode cX12_isWorld 9 = .ok (.iconst 1, 1) := by decide +kernel
theorem dX12_isWorld_10 : decode cX12_isWorld 10 = .ok (.isub, 1) := by decide +kernel
theorem dX12_isWorld_11 : decode cX12_isWorld 11 = .ok (.i2l, 1) := by decide +kernel
theorem dX12_isWorld_12 : decode cX12_isWorld 12 = .ok (.invokestatic 145, 3) := by decide +kernel
theorem dX12_isWorld_15 : decode cX12_isWorld 15 = .ok (.ireturn, 1) := by decide +kernel
theorem dX12_isFact_0 : decode cX12_isFact 0 = .ok (.lload_n 1, 1) := by decide +kernel
theorem dX12_isFact_1 : decode cX12_isFact 1 = .ok (.lconst 0, 1) := by decide +kernel
theorem dX12_isFact_2 : decode cX12_isFact 2 = .ok (.aload_n 0, 1) := by decide +kernel
theorem dX12_isFact_3 : decode cX12_isFact 3 = .ok (.getfield 13, 3) := by decide +kernel
theorem dX12_isFact_6 : decode cX12_isFact 6 = .ok (.iconst 2, 1) := by decide +kernel
theorem dX12_isFact_7 : decode cX12_isFact 7 = .ok (.iaload, 1) := by decide +kernel
theorem dX12_isFact_8 : decode cX12_isFact 8 = .ok (.iconst 1, 1) := by decide +kernel
theorem dX12_isFact_9 : decode cX12_isFact 9 = .ok (.isub, 1) := by decide +kernel
theorem dX12_isFact_10 : decode cX12_isFact 10 = .ok (.i2l, 1) := by decide +kernel
theorem dX12_isFact_11 : decode cX12_isFact 11 = .ok (.invokestatic 145, 3) := by decide +kernel
theorem dX12_isFact_14 : decode cX12_isFact 14 = .ok (.ireturn, 1) := by decide +kernel
theorem dX12_isPerson_0 : decode cX12_isPerson 0 = .ok (.lload_n 1, 1) := by decide +kernel
theorem dX12_isPerson_1 : decode cX12_isPerson 1 = .ok (.lconst 0, 1) := by decide +kernel
theorem dX12_isPerson_2 : decode cX12_isPerson 2 = .ok (.aload_n 0, 1) := by decide +kernel
theorem dX12_isPerson_3 : decode cX12_isPerson 3 = .ok (.getfield 13, 3) := by decide +kernel
theorem dX12_isPerson_6 : decode cX12_isPerson 6 = .ok (.iconst 3, 1) := by decide +kernel
theorem dX12_isPerson_7 : decode cX12_isPerson 7 = .ok (.iaload, 1) := by decide +kernel
theorem dX12_isPerson_8 : decode cX12_isPerson 8 = .ok (.iconst 1, 1) := by decide +kernel
theorem dX12_isPerson_9 : decode cX12_isPerson 9 = .ok (.isub, 1) := by decide +kernel
theorem dX12_isPerson_10 : decode cX12_isPerson 10 = .ok (.i2l, 1) := by decide +kernel
theorem dX12_isPerson_11 : decode cX12_isPerson 11 = .ok (.invokestatic 145, 3) := by decide +kernel
theorem dX12_isPerson_14 : decode cX12_isPerson 14 = .ok (.ireturn, 1) := by decide +kernel
theorem dX12_worlds_0 : decode cX12_worlds 0 = .ok (.iconst 1, 1) := by decide +kernel
theorem dX12_worlds_1 : decode cX12_worlds 1 = .ok (.aload_n 0, 1) := by decide +kernel
theorem dX12_worlds_2 : decode cX12_worlds 2 = .ok (.getfield 13, 3) := by decide +kernel
theorem dX12_worlds_5 : decode cX12_worlds 5 = .ok (.iconst 1, 1) := by decide +kernel
theorem dX12_worlds_6 : decode cX12_worlds 6 = .ok (.iaload, 1) := by decide +kernel
theorem dX12_worlds_7 : decode cX12_worlds 7 = .ok (.ishl, 1) := by decide +kernel
theorem dX12_worlds_8 : decode cX12_worlds 8 = .ok (.iconst 1, 1) := by decide +kernel
theorem dX12_worlds_9 : decode cX12_worlds 9 = .ok (.isub, 1) := by decide +kernel
theorem dX12_worlds_10 : decode cX12_worlds 10 = .ok (.ireturn, 1) := by decide +kernel
theorem dX12_bitsOf_0 : decode cX12_bitsOf 0 = .ok (.iconst 0, 1) := by decide +kernel
theorem dX12_bitsOf_1 : decode cX12_bitsOf 1 = .ok (.istore_n 1, 1) := by decide +kernel
theorem dX12_bitsOf_2 : decode cX12_bitsOf 2 = .ok (.iconst 0, 1) := by decide +kernel
theorem dX12_bitsOf_3 : decode cX12_bitsOf 3 = .ok (.istore_n 2, 1) := by decide +kernel
theorem dX12_bitsOf_4 : decode cX12_bitsOf 4 = .ok (.iload_n 2, 1) := by decide +kernel
theorem dX12_bitsOf_5 : decode cX12_bitsOf 5 = .ok (.bipush 16, 2) := by decide +kernel
theorem dX12_bitsOf_7 : decode cX12_bitsOf 7 = .ok (.if_icmp .ge 17, 3) := by decide +kernel
theorem dX12_bitsOf_10 : decode cX12_bitsOf 10 = .ok (.iload_n 1, 1) := by decide +kernel
theorem dX12_bitsOf_11 : decode cX12_bitsOf 11 = .ok (.iload_n 0, 1) := by decide +kernel
theorem dX12_bitsOf_12 : decode cX12_bitsOf 12 = .ok (.iload_n 2, 1) := by decide +kernel
theorem dX12_bitsOf_13 : decode cX12_bitsOf 13 = .ok (.ishr, 1) := by decide +kernel
theorem dX12_bitsOf_14 : decode cX12_bitsOf 14 = .ok (.iconst 1, 1) := by decide +kernel
theorem dX12_bitsOf_15 : decode cX12_bitsOf 15 = .ok (.iand, 1) := by decide +kernel
theorem dX12_bitsOf_16 : decode cX12_bitsOf 16 = .ok (.iadd, 1) := by decide +kernel
theorem dX12_bitsOf_17 : decode cX12_bitsOf 17 = .ok (.istore_n 1, 1) := by decide +kernel
theorem dX12_bitsOf_18 : decode cX12_bitsOf 18 = .ok (.iinc 2 1, 3) := by decide +kernel
theorem dX12_bitsOf_21 : decode cX12_bitsOf 21 = .ok (.goto (-17), 3) := by decide +kernel
theorem dX12_bitsOf_24 : decode cX12_bitsOf 24 = .ok (.iload_n 1, 1) := by decide +kernel
theorem dX12_bitsOf_25 : decode cX12_bitsOf 25 = .ok (.ireturn, 1) := by decide +kernel
theorem dX12_factsOf_0 : decode cX12_factsOf 0 = .ok (.iconst 0, 1) := by decide +kernel
theorem dX12_factsOf_1 : decode cX12_factsOf 1 = .ok (.istore_n 2, 1) := by decide +kernel
theorem dX12_factsOf_2 : decode cX12_factsOf 2 = .ok (.iconst 0, 1) := by decide +kernel
theorem dX12_factsOf_3 : decode cX12_factsOf 3 = .ok (.istore_n 3, 1) := by decide +kernel
theorem dX12_factsOf_4 : decode cX12_factsOf 4 = .ok (.iload_n 3, 1) := by decide +kernel
theorem dX12_factsOf_5 : decode cX12_factsOf 5 = .ok (.aload_n 0, 1) := by decide +kernel
theorem dX12_factsOf_6 : decode cX12_factsOf 6 = .ok (.getfield 13, 3) := by decide +kernel
theorem dX12_factsOf_9 : decode cX12_factsOf 9 = .ok (.iconst 2, 1) := by decide +kernel
theorem dX12_factsOf_10 : decode cX12_factsOf 10 = .ok (.iaload, 1) := by decide +kernel
theorem dX12_factsOf_11 : decode cX12_factsOf 11 = .ok (.if_icmp .ge 36, 3) := by decide +kernel
theorem dX12_factsOf_14 : decode cX12_factsOf 14 = .ok (.iload_n 2, 1) := by decide +kernel
theorem dX12_factsOf_15 : decode cX12_factsOf 15 = .ok (.aload_n 0, 1) := by decide +kernel
theorem dX12_factsOf_16 : decode cX12_factsOf 16 = .ok (.getfield 13, 3) := by decide +kernel
theorem dX12_factsOf_19 : decode cX12_factsOf 19 = .ok (.bipush 105, 2) := by decide +kernel
theorem dX12_factsOf_21 : decode cX12_factsOf 21 = .ok (.iload_n 3, 1) := by decide +kernel
theorem dX12_factsOf_22 : decode cX12_factsOf 22 = .ok (.iadd, 1) := by decide +kernel
theorem dX12_factsOf_23 : decode cX12_factsOf 23 = .ok (.iaload, 1) := by decide +kernel
theorem dX12_factsOf_24 : decode cX12_factsOf 24 = .ok (.i2l, 1) := by decide +kernel
theorem dX12_factsOf_25 : decode cX12_factsOf 25 = .ok (.iload_n 1, 1) := by decide +kernel
theorem dX12_factsOf_26 : decode cX12_factsOf 26 = .ok (.invokestatic 222, 3) := by decide +kernel
theorem dX12_factsOf_29 : decode cX12_factsOf 29 = .ok (.ifCond .eq 9, 3) := by decide +kernel
theorem dX12_factsOf_32 : decode cX12_factsOf 32 = .ok (.iconst 1, 1) := by decide +kernel
theorem dX12_factsOf_33 : decode cX12_factsOf 33 = .ok (.iload_n 3, 1) := by decide +kernel
theorem dX12_factsOf_34 : decode cX12_factsOf 34 = .ok (.ishl, 1) := by decide +kernel
theorem dX12_factsOf_35 : decode cX12_factsOf 35 = .ok (.goto 4, 3) := by decide +kernel
theorem dX12_factsOf_38 : decode cX12_factsOf 38 = .ok (.iconst 0, 1) := by decide +kernel
theorem dX12_factsOf_39 : decode cX12_factsOf 39 = .ok (.ior, 1) := by decide +kernel
theorem dX12_factsOf_40 : decode cX12_factsOf 40 = .ok (.istore_n 2, 1) := by decide +kernel
theorem dX12_factsOf_41 : decode cX12_factsOf 41 = .ok (.iinc 3 1, 3) := by decide +kernel
theorem dX12_factsOf_44 : decode cX12_factsOf 44 = .ok (.goto (-40), 3) := by decide +kernel
theorem dX12_factsOf_47 : decode cX12_factsOf 47 = .ok (.iload_n 2, 1) := by decide +kernel
theorem dX12_factsOf_48 : decode cX12_factsOf 48 = .ok (.ireturn, 1) := by decide +kernel
theorem dX12_cellOf_0 : decode cX12_cellOf 0 = .ok (.aload_n 0, 1) := by decide +kernel
theorem dX12_cellOf_1 : decode cX12_cellOf 1 = .ok (.getfield 13, 3) := by decide +kernel
theorem dX12_cellOf_4 : decode cX12_cellOf 4 = .ok (.iconst 1, 1) := by decide +kernel
theorem dX12_cellOf_5 : decode cX12_cellOf 5 = .ok (.iaload, 1) := by decide +kernel
theorem dX12_cellOf_6 : decode cX12_cellOf 6 = .ok (.ifCond .ne 5, 3) := by decide +kernel
theorem dX12_cellOf_9 : decode cX12_cellOf 9 = .ok (.iconst 0, 1) := by decide +kernel
theorem dX12_cellOf_10 : decode cX12_cellOf 10 = .ok (.ireturn, 1) := by decide +kernel
theorem dX12_cellOf_11 : decode cX12_cellOf 11 = .ok (.aload_n 0, 1) := by decide +kernel
theorem dX12_cellOf_12 : decode cX12_cellOf 12 = .ok (.invokevirtual 226, 3) := by decide +kernel
theorem dX12_cellOf_15 : decode cX12_cellOf 15 = .ok (.istore_n 3, 1) := by decide +kernel
theorem dX12_cellOf_16 : decode cX12_cellOf 16 = .ok (.iconst 0, 1) := by decide +kernel
theorem dX12_cellOf_17 : decode cX12_cellOf 17 = .ok (.istore 4, 2) := by decide +kernel
theorem dX12_cellOf_19 : decode cX12_cellOf 19 = .ok (.iload 4, 2) := by decide +kernel
theorem dX12_cellOf_21 : decode cX12_cellOf 21 = .ok (.aload_n 0, 1) := by decide +kernel
theorem dX12_cellOf_22 : decode cX12_cellOf 22 = .ok (.getfield 13, 3) := by decide +kernel
theorem dX12_cellOf_25 : decode cX12_cellOf 25 = .ok (.iconst 2, 1) := by decide +kernel
theorem dX12_cellOf_26 : decode cX12_cellOf 26 = .ok (.iaload, 1) := by decide +kernel
theorem dX12_cellOf_27 : decode cX12_cellOf 27 = .ok (.if_icmp .ge 65, 3) := by decide +kernel
theorem dX12_cellOf_30 : decode cX12_cellOf 30 = .ok (.iload_n 1, 1) := by decide +kernel
theorem dX12_cellOf_31 : decode cX12_cellOf 31 = .ok (.i2l, 1) := by decide +kernel
theorem dX12_cellOf_32 : decode cX12_cellOf 32 = .ok (.iload 4, 2) := by decide +kernel
theorem dX12_cellOf_34 : decode cX12_cellOf 34 = .ok (.invokestatic 222, 3) := by decide +kernel
theorem dX12_cellOf_37 : decode cX12_cellOf 37 = .ok (.ifCond .eq 49, 3) := by decide +kernel
theorem dX12_cellOf_40 : decode cX12_cellOf 40 = .ok (.iload_n 3, 1) := by decide +kernel
theorem dX12_cellOf_41 : decode cX12_cellOf 41 = .ok (.aload_n 0, 1) := by decide +kernel
theorem dX12_cellOf_42 : decode cX12_cellOf 42 = .ok (.getfield 13, 3) := by decide +kernel
theorem dX12_cellOf_45 : decode cX12_cellOf 45 = .ok (.bipush 105, 2) := by decide +kernel
theorem dX12_cellOf_47 : decode cX12_cellOf 47 = .ok (.iload 4, 2) := by decide +kernel
theorem dX12_cellOf_49 : decode cX12_cellOf 49 = .ok (.iadd, 1) := by decide +kernel
theorem dX12_cellOf_50 : decode cX12_cellOf 50 = .ok (.iaload, 1) := by decide +kernel
theorem dX12_cellOf_51 : decode cX12_cellOf 51 = .ok (.i2l, 1) := by decide +kernel
theorem dX12_cellOf_52 : decode cX12_cellOf 52 = .ok (.iload_n 2, 1) := by decide +kernel
theorem dX12_cellOf_53 : decode cX12_cellOf 53 = .ok (.invokestatic 222, 3) := by decide +kernel
theorem dX12_cellOf_56 : decode cX12_cellOf 56 = .ok (.ifCond .eq 16, 3) := by decide +kernel
theorem dX12_cellOf_59 : decode cX12_cellOf 59 = .ok (.aload_n 0, 1) := by decide +kernel
theorem dX12_cellOf_60 : decode cX12_cellOf 60 = .ok (.getfield 13, 3) := by decide +kernel
theorem dX12_cellOf_63 : decode cX12_cellOf 63 = .ok (.bipush 105, 2) := by decide +kernel
theorem dX12_cellOf_65 : decode cX12_cellOf 65 = .ok (.iload 4, 2) := by decide +kernel
theorem dX12_cellOf_67 : decode cX12_cellOf 67 = .ok (.iadd, 1) := by decide +kernel
theorem dX12_cellOf_68 : decode cX12_cellOf 68 = .ok (.iaload, 1) := by decide +kernel
theorem dX12_cellOf_69 : decode cX12_cellOf 69 = .ok (.goto 15, 3) := by decide +kernel
theorem dX12_cellOf_72 : decode cX12_cellOf 72 = .ok (.aload_n 0, 1) := by decide +kernel
theorem dX12_cellOf_73 : decode cX12_cellOf 73 = .ok (.getfield 13, 3) := by decide +kernel
theorem dX12_cellOf_76 : decode cX12_cellOf 76 = .ok (.bipush 105, 2) := by decide +kernel
theorem dX12_cellOf_78 : decode cX12_cellOf 78 = .ok (.iload 4, 2) := by decide +kernel
theorem dX12_cellOf_80 : decode cX12_cellOf 80 = .ok (.iadd, 1) := by decide +kernel
theorem dX12_cellOf_81 : decode cX12_cellOf 81 = .ok (.iaload, 1) := by decide +kernel
theorem dX12_cellOf_82 : decode cX12_cellOf 82 = .ok (.iconst (-1), 1) := by decide +kernel
theorem dX12_cellOf_83 : decode cX12_cellOf 83 = .ok (.ixor, 1) := by decide +kernel
theorem dX12_cellOf_84 : decode cX12_cellOf 84 = .ok (.iand, 1) := by decide +kernel
theorem dX12_cellOf_85 : decode cX12_cellOf 85 = .ok (.istore_n 3, 1) := by decide +kernel
theorem dX12_cellOf_86 : decode cX12_cellOf 86 = .ok (.iinc 4 1, 3) := by decide +kernel
theorem dX12_cellOf_89 : decode cX12_cellOf 89 = .ok (.goto (-70), 3) := by decide +kernel
theorem dX12_cellOf_92 : decode cX12_cellOf 92 = .ok (.iload_n 3, 1) := by decide +kernel
theorem dX12_cellOf_93 : decode cX12_cellOf 93 = .ok (.ireturn, 1) := by decide +kernel
theorem dX12_guilty_0 : decode cX12_guilty 0 = .ok (.iconst 0, 1) := by decide +kernel
theorem dX12_guilty_1 : decode cX12_guilty 1 = .ok (.istore_n 1, 1) := by decide +kernel
theorem dX12_guilty_2 : decode cX12_guilty 2 = .ok (.iconst 0, 1) := by decide +kernel
theorem dX12_guilty_3 : decode cX12_guilty 3 = .ok (.istore_n 2, 1) := by decide +kernel
theorem dX12_guilty_4 : decode cX12_guilty 4 = .ok (.iload_n 2, 1) := by decide +kernel
theorem dX12_guilty_5 : decode cX12_guilty 5 = .ok (.aload_n 0, 1) := by decide +kernel
theorem dX12_guilty_6 : decode cX12_guilty 6 = .ok (.getfield 13, 3) := by decide +kernel
theorem dX12_guilty_9 : decode cX12_guilty 9 = .ok (.iconst 1, 1) := by decide +kernel
theorem dX12_guilty_10 : decode cX12_guilty 10 = .ok (.iaload, 1) := by decide +kernel
theorem dX12_guilty_11 : decode cX12_guilty 11 = .ok (.if_icmp .ge 23, 3) := by decide +kernel
theorem dX12_guilty_14 : decode cX12_guilty 14 = .ok (.iload_n 1, 1) := by decide +kernel
theorem dX12_guilty_15 : decode cX12_guilty 15 = .ok (.aload_n 0, 1) := by decide +kernel
theorem dX12_guilty_16 : decode cX12_guilty 16 = .ok (.getfield 13, 3) := by decide +kernel
theorem dX12_guilty_19 : decode cX12_guilty 19 = .ok (.bipush 75, 2) := by decide +kernel
theorem dX12_guilty_21 : decode cX12_guilty 21 = .ok (.iload_n 2, 1) := by decide +kernel
theorem dX12_guilty_22 : decode cX12_guilty 22 = .ok (.iadd, 1) := by decide +kernel
theorem dX12_guilty_23 : decode cX12_guilty 23 = .ok (.iaload, 1) := by decide +kernel
theorem dX12_guilty_24 : decode cX12_guilty 24 = .ok (.iload_n 2, 1) := by decide +kernel
theorem dX12_guilty_25 : decode cX12_guilty 25 = .ok (.ishl, 1) := by decide +kernel
theorem dX12_guilty_26 : decode cX12_guilty 26 = .ok (.ior, 1) := by decide +kernel
theorem dX12_guilty_27 : decode cX12_guilty 27 = .ok (.istore_n 1, 1) := by decide +kernel
theorem dX12_guilty_28 : decode cX12_guilty 28 = .ok (.iinc 2 1, 3) := by decide +kernel
theorem dX12_guilty_31 : decode cX12_guilty 31 = .ok (.goto (-27), 3) := by decide +kernel
theorem dX12_guilty_34 : decode cX12_guilty 34 = .ok (.iload_n 1, 1) := by decide +kernel
theorem dX12_guilty_35 : decode cX12_guilty 35 = .ok (.ireturn, 1) := by decide +kernel
theorem dX12_isPlain_0 : decode cX12_isPlain 0 = .ok (.iload_n 0, 1) := by decide +kernel
theorem dX12_isPlain_1 : decode cX12_isPlain 1 = .ok (.iload_n 1, 1) := by decide +kernel
theorem dX12_isPlain_2 : decode cX12_isPlain 2 = .ok (.iand, 1) := by decide +kernel
theorem dX12_isPlain_3 : decode cX12_isPlain 3 = .ok (.ifCond .eq 11, 3) := by decide +kernel
theorem dX12_isPlain_6 : decode cX12_isPlain 6 = .ok (.iload_n 0, 1) := by decide +kernel
theorem dX12_isPlain_7 : decode cX12_isPlain 7 = .ok (.iload_n 1, 1) := by decide +kernel
theorem dX12_isPlain_8 : decode cX12_isPlain 8 = .ok (.iconst (-1), 1) := by decide +kernel
theorem dX12_isPlain_9 : decode cX12_isPlain 9 = .ok (.ixor, 1) := by decide +kernel
theorem dX12_isPlain_10 : decode cX12_isPlain 10 = .ok (.iand, 1) := by decide +kernel
theorem dX12_isPlain_11 : decode cX12_isPlain 11 = .ok (.ifCond .ne 7, 3) := by decide +kernel
theorem dX12_isPlain_14 : decode cX12_isPlain 14 = .ok (.iconst 1, 1) := by decide +kernel
theorem dX12_isPlain_15 : decode cX12_isPlain 15 = .ok (.goto 4, 3) := by decide +kernel
theorem dX12_isPlain_18 : decode cX12_isPlain 18 = .ok (.iconst 0, 1) := by decide +kernel
theorem dX12_isPlain_19 : decode cX12_isPlain 19 = .ok (.ireturn, 1) := by decide +kernel
theorem dX12_knownIn_0 : decode cX12_knownIn 0 = .ok (.iconst 0, 1) := by decide +kernel
theorem dX12_knownIn_1 : decode cX12_knownIn 1 = .ok (.istore_n 2, 1) := by decide +kernel
theorem dX12_knownIn_2 : decode cX12_knownIn 2 = .ok (.iconst 0, 1) := by decide +kernel
theorem dX12_knownIn_3 : decode cX12_knownIn 3 = .ok (.istore_n 3, 1) := by decide +kernel
theorem dX12_knownIn_4 : decode cX12_knownIn 4 = .ok (.iload_n 3, 1) := by decide +kernel
theorem dX12_knownIn_5 : decode cX12_knownIn 5 = .ok (.aload_n 0, 1) := by decide +kernel
theorem dX12_knownIn_6 : decode cX12_knownIn 6 = .ok (.getfield 13, 3) := by decide +kernel
theorem dX12_knownIn_9 : decode cX12_knownIn 9 = .ok (.iconst 2, 1) := by decide +kernel
theorem dX12_knownIn_10 : decode cX12_knownIn 10 = .ok (.iaload, 1) := by decide +kernel
theorem dX12_knownIn_11 : decode cX12_knownIn 11 = .ok (.if_icmp .ge 35, 3) := by decide +kernel
theorem dX12_knownIn_14 : decode cX12_knownIn 14 = .ok (.iload_n 2, 1) := by decide +kernel
theorem dX12_knownIn_15 : decode cX12_knownIn 15 = .ok (.iload_n 1, 1) := by decide +kernel
theorem dX12_knownIn_16 : decode cX12_knownIn 16 = .ok (.aload_n 0, 1) := by decide +kernel
theorem dX12_knownIn_17 : decode cX12_knownIn 17 = .ok (.getfield 13, 3) := by decide +kernel
theorem dX12_knownIn_20 : decode cX12_knownIn 20 = .ok (.bipush 105, 2) := by decide +kernel
theorem dX12_knownIn_22 : decode cX12_knownIn 22 = .ok (.iload_n 3, 1) := by decide +kernel
theorem dX12_knownIn_23 : decode cX12_knownIn 23 = .ok (.iadd, 1) := by decide +kernel
theorem dX12_knownIn_24 : decode cX12_knownIn 24 = .ok (.iaload, 1) := by decide +kernel
theorem dX12_knownIn_25 : decode cX12_knownIn 25 = .ok (.invokestatic 229, 3) := by decide +kernel
theorem dX12_knownIn_28 : decode cX12_knownIn 28 = .ok (.ifCond .eq 9, 3) := by decide +kernel
theorem dX12_knownIn_31 : decode cX12_knownIn 31 = .ok (.iconst 1, 1) := by decide +kernel
theorem dX12_knownIn_32 : decode cX12_knownIn 32 = .ok (.iload_n 3, 1) := by decide +kernel
theorem dX12_knownIn_33 : decode cX12_knownIn 33 = .ok (.ishl, 1) := by decide +kernel
theorem dX12_knownIn_34 : decode cX12_knownIn 34 = .ok (.goto 4, 3) := by decide +kernel
theorem dX12_knownIn_37 : decode cX12_knownIn 37 = .ok (.iconst 0, 1) := by decide +kernel
theorem dX12_knownIn_38 : decode cX12_knownIn 38 = .ok (.ior, 1) := by decide +kernel
theorem dX12_knownIn_39 : decode cX12_knownIn 39 = .ok (.istore_n 2, 1) := by decide +kernel
theorem dX12_knownIn_40 : decode cX12_knownIn 40 = .ok (.iinc 3 1, 3) := by decide +kernel
theorem dX12_knownIn_43 : decode cX12_knownIn 43 = .ok (.goto (-39), 3) := by decide +kernel
theorem dX12_knownIn_46 : decode cX12_knownIn 46 = .ok (.iload_n 2, 1) := by decide +kernel
theorem dX12_knownIn_47 : decode cX12_knownIn 47 = .ok (.ireturn, 1) := by decide +kernel
theorem dX12_cellNow_0 : decode cX12_cellNow 0 = .ok (.aload_n 0, 1) := by decide +kernel
theorem dX12_cellNow_1 : decode cX12_cellNow 1 = .ok (.aload_n 0, 1) := by decide +kernel
theorem dX12_cellNow_2 : decode cX12_cellNow 2 = .ok (.getfield 13, 3) := by decide +kernel
theorem dX12_cellNow_5 : decode cX12_cellNow 5 = .ok (.iconst 5, 1) := by decide +kernel
theorem dX12_cellNow_6 : decode cX12_cellNow 6 = .ok (.iload_n 1, 1) := by decide +kernel
theorem dX12_cellNow_7 : decode cX12_cellNow 7 = .ok (.iadd, 1) := by decide +kernel
theorem dX12_cellNow_8 : decode cX12_cellNow 8 = .ok (.iaload, 1) := by decide +kernel
theorem dX12_cellNow_9 : decode cX12_cellNow 9 = .ok (.aload_n 0, 1) := by decide +kernel
theorem dX12_cellNow_10 : decode cX12_cellNow 10 = .ok (.getfield 13, 3) := by decide +kernel
theorem dX12_cellNow_13 : decode cX12_cellNow 13 = .ok (.iconst 4, 1) := by decide +kernel
theorem dX12_cellNow_14 : decode cX12_cellNow 14 = .ok (.iaload, 1) := by decide +kernel
theorem dX12_cellNow_15 : decode cX12_cellNow 15 = .ok (.invokevirtual 232, 3) := by decide +kernel
theorem dX12_cellNow_18 : decode cX12_cellNow 18 = .ok (.ireturn, 1) := by decide +kernel
theorem dX12_world_0 : decode cX12_world 0 = .ok (.aload_n 0, 1) := by decide +kernel
theorem dX12_world_1 : decode cX12_world 1 = .ok (.iconst 0, 1) := by decide +kernel
theorem dX12_world_2 : decode cX12_world 2 = .ok (.putfield 1, 3) := by decide +kernel
theorem dX12_world_5 : decode cX12_world 5 = .ok (.aload_n 0, 1) := by decide +kernel
theorem dX12_world_6 : decode cX12_world 6 = .ok (.iload_n 1, 1) := by decide +kernel
theorem dX12_world_7 : decode cX12_world 7 = .ok (.invokevirtual 235, 3) := by decide +kernel
theorem dX12_world_10 : decode cX12_world 10 = .ok (.ifCond .ne 6, 3) := by decide +kernel
theorem dX12_world_13 : decode cX12_world 13 = .ok (.bipush (-2), 2) := by decide +kernel
theorem dX12_world_15 : decode cX12_world 15 = .ok (.ireturn, 1) := by decide +kernel
theorem dX12_world_16 : decode cX12_world 16 = .ok (.iload_n 2, 1) := by decide +kernel
theorem dX12_world_17 : decode cX12_world 17 = .ok (.tableswitch 80 0 5 #[39, 39, 39, 54, 64, 74], 39) := by decide +kernel
theorem dX12_world_56 : decode cX12_world 56 = .ok (.aload_n 0, 1) := by decide +kernel
theorem dX12_world_57 : decode cX12_world 57 = .ok (.getfield 13, 3) := by decide +kernel
theorem dX12_world_60 : decode cX12_world 60 = .ok (.bipush 11, 2) := by decide +kernel
theorem dX12_world_62 : decode cX12_world 62 = .ok (.bipush 16, 2) := by decide +kernel
theorem dX12_world_64 : decode cX12_world 64 = .ok (.iload_n 2, 1) := by decide +kernel
theorem dX12_world_65 : decode cX12_world 65 = .ok (.imul, 1) := by decide +kernel
theorem dX12_world_66 : decode cX12_world 66 = .ok (.iadd, 1) := by decide +kernel
theorem dX12_world_67 : decode cX12_world 67 = .ok (.iload_n 1, 1) := by decide +kernel
theorem dX12_world_68 : decode cX12_world 68 = .ok (.iadd, 1) := by decide +kernel
theorem dX12_world_69 : decode cX12_world 69 = .ok (.iaload, 1) := by decide +kernel
theorem dX12_world_70 : decode cX12_world 70 = .ok (.ireturn, 1) := by decide +kernel
theorem dX12_world_71 : decode cX12_world 71 = .ok (.aload_n 0, 1) := by decide +kernel
theorem dX12_world_72 : decode cX12_world 72 = .ok (.getfield 13, 3) := by decide +kernel
theorem dX12_world_75 : decode cX12_world 75 = .ok (.bipush 59, 2) := by decide +kernel
theorem dX12_world_77 : decode cX12_world 77 = .ok (.iload_n 1, 1) := by decide +kernel
theorem dX12_world_78 : decode cX12_world 78 = .ok (.iadd, 1) := by decide +kernel
theorem dX12_world_79 : decode cX12_world 79 = .ok (.iaload, 1) := by decide +kernel
theorem dX12_world_80 : decode cX12_world 80 = .ok (.ireturn, 1) := by decide +kernel
theorem dX12_world_81 : decode cX12_world 81 = .ok (.aload_n 0, 1) := by decide +kernel
theorem dX12_world_82 : decode cX12_world 82 = .ok (.getfield 13, 3) := by decide +kernel
theorem dX12_world_85 : decode cX12_world 85 = .ok (.bipush 75, 2) := by decide +kernel
theorem dX12_world_87 : decode cX12_world 87 = .ok (.iload_n 1, 1) := by decide +kernel
theorem dX12_world_88 : decode cX12_world 88 = .ok (.iadd, 1) := by decide +kernel
theorem dX12_world_89 : decode cX12_world 89 = .ok (.iaload, 1) := by decide +kernel
theorem dX12_world_90 : decode cX12_world 90 = .ok (.ireturn, 1) := by decide +kernel
theorem dX12_world_91 : decode cX12_world 91 = .ok (.aload_n 0, 1) := by decide +kernel
theorem dX12_world_92 : decode cX12_world 92 = .ok (.iload_n 1, 1) := by decide +kernel
theorem dX12_world_93 : decode cX12_world 93 = .ok (.invokevirtual 238, 3) := by decide +kernel
theorem dX12_world_96 : decode cX12_world 96 = .ok (.ireturn, 1) := by decide +kernel
theorem dX12_world_97 : decode cX12_world 97 = .ok (.bipush (-2), 2) := by decide +kernel
theorem dX12_world_99 : decode cX12_world 99 = .ok (.ireturn, 1) := by decide +kernel
theorem dX12_fact_0 : decode cX12_fact 0 = .ok (.aload_n 0, 1) := by decide +kernel
theorem dX12_fact_1 : decode cX12_fact 1 = .ok (.iconst 0, 1) := by decide +kernel
theorem dX12_fact_2 : decode cX12_fact 2 = .ok (.putfield 1, 3) := by decide +kernel
theorem dX12_fact_5 : decode cX12_fact 5 = .ok (.aload_n 0, 1) := by decide +kernel
theorem dX12_fact_6 : decode cX12_fact 6 = .ok (.iload_n 1, 1) := by decide +kernel
theorem dX12_fact_7 : decode cX12_fact 7 = .ok (.i2l, 1) := by decide +kernel
theorem dX12_fact_8 : decode cX12_fact 8 = .ok (.invokevirtual 241, 3) := by decide +kernel
theorem dX12_fact_11 : decode cX12_fact 11 = .ok (.ifCond .eq 15, 3) := by decide +kernel
theorem dX12_fact_14 : decode cX12_fact 14 = .ok (.aload_n 0, 1) := by decide +kernel
theorem dX12_fact_15 : decode cX12_fact 15 = .ok (.getfield 13, 3) := by decide +kernel
theorem dX12_fact_18 : decode cX12_fact 18 = .ok (.bipush 105, 2) := by decide +kernel
theorem dX12_fact_20 : decode cX12_fact 20 = .ok (.iload_n 1, 1) := by decide +kernel
theorem dX12_fact_21 : decode cX12_fact 21 = .ok (.iadd, 1) := by decide +kernel
theorem dX12_fact_22 : decode cX12_fact 22 = .ok (.iaload, 1) := by decide +kernel
theorem dX12_fact_23 : decode cX12_fact 23 = .ok (.goto 5, 3) := by decide +kernel
theorem dX12_fact_26 : decode cX12_fact 26 = .ok (.bipush (-2), 2) := by decide +kernel
theorem dX12_fact_28 : decode cX12_fact 28 = .ok (.ireturn, 1) := by decide +kernel
theorem dX12_person_0 : decode cX12_person 0 = .ok (.aload_n 0, 1) := by decide +kernel
theorem dX12_person_1 : decode cX12_person 1 = .ok (.iconst 0, 1) := by decide +kernel
theorem dX12_person_2 : decode cX12_person 2 = .ok (.putfield 1, 3) := by decide +kernel
theorem dX12_person_5 : decode cX12_person 5 = .ok (.aload_n 0, 1) := by decide +kernel
theorem dX12_person_6 : decode cX12_person 6 = .ok (.iload_n 1, 1) := by decide +kernel
theorem dX12_person_7 : decode cX12_person 7 = .ok (.i2l, 1) := by decide +kernel
theorem dX12_person_8 : decode cX12_person 8 = .ok (.invokevirtual 245, 3) := by decide +kernel
theorem dX12_person_11 : decode cX12_person 11 = .ok (.ifCond .ne 6, 3) := by decide +kernel
theorem dX12_person_14 : decode cX12_person 14 = .ok (.bipush (-2), 2) := by decide +kernel
theorem dX12_person_16 : decode cX12_person 16 = .ok (.ireturn, 1) := by decide +kernel
theorem dX12_person_17 : decode cX12_person 17 = .ok (.iload_n 2, 1) := by decide +kernel
theorem dX12_person_18 : decode cX12_person 18 = .ok (.tableswitch 90 0 4 #[34, 43, 49, 59, 80], 34) := by decide +kernel
theorem dX12_person_52 : decode cX12_person 52 = .ok (.aload_n 0, 1) := by decide +kernel
theorem dX12_person_53 : decode cX12_person 53 = .ok (.getfield 13, 3) := by decide +kernel
theorem dX12_person_56 : decode cX12_person 56 = .ok (.iconst 5, 1) := by decide +kernel
theorem dX12_person_57 : decode cX12_person 57 = .ok (.iload_n 1, 1) := by decide +kernel
theorem dX12_person_58 : decode cX12_person 58 = .ok (.iadd, 1) := by decide +kernel
theorem dX12_person_59 : decode cX12_person 59 = .ok (.iaload, 1) := by decide +kernel
theorem dX12_person_60 : decode cX12_person 60 = .ok (.ireturn, 1) := by decide +kernel
theorem dX12_person_61 : decode cX12_person 61 = .ok (.aload_n 0, 1) := by decide +kernel
theorem dX12_person_62 : decode cX12_person 62 = .ok (.iload_n 1, 1) := by decide +kernel
theorem dX12_person_63 : decode cX12_person 63 = .ok (.invokevirtual 248, 3) := by decide +kernel
theorem dX12_person_66 : decode cX12_person 66 = .ok (.ireturn, 1) := by decide +kernel
theorem dX12_person_67 : decode cX12_person 67 = .ok (.aload_n 0, 1) := by decide +kernel
theorem dX12_person_68 : decode cX12_person 68 = .ok (.aload_n 0, 1) := by decide +kernel
theorem dX12_person_69 : decode cX12_person 69 = .ok (.iload_n 1, 1) := by decide +kernel
theorem dX12_person_70 : decode cX12_person 70 = .ok (.invokevirtual 248, 3) := by decide +kernel
theorem dX12_person_73 : decode cX12_person 73 = .ok (.invokevirtual 251, 3) := by decide +kernel
theorem dX12_person_76 : decode cX12_person 76 = .ok (.ireturn, 1) := by decide +kernel
theorem dX12_person_77 : decode cX12_person 77 = .ok (.aload_n 0, 1) := by decide +kernel
theorem dX12_person_78 : decode cX12_person 78 = .ok (.iload_n 1, 1) := by decide +kernel
theorem dX12_person_79 : decode cX12_person 79 = .ok (.invokevirtual 248, 3) := by decide +kernel
theorem dX12_person_82 : decode cX12_person 82 = .ok (.aload_n 0, 1) := by decide +kernel
theorem dX12_person_83 : decode cX12_person 83 = .ok (.invokevirtual 254, 3) := by decide +kernel
theorem dX12_person_86 : decode cX12_person 86 = .ok (.invokestatic 229, 3) := by decide +kernel
theorem dX12_person_89 : decode cX12_person 89 = .ok (.ifCond .eq 7, 3) := by decide +kernel
theorem dX12_person_92 : decode cX12_person 92 = .ok (.iconst 1, 1) := by decide +kernel
theorem dX12_person_93 : decode cX12_person 93 = .ok (.goto 4, 3) := by decide +kernel
theorem dX12_person_96 : decode cX12_person 96 = .ok (.iconst 0, 1) := by decide +kernel
theorem dX12_person_97 : decode cX12_person 97 = .ok (.ireturn, 1) := by decide +kernel
theorem dX12_person_98 : decode cX12_person 98 = .ok (.aload_n 0, 1) := by decide +kernel
theorem dX12_person_99 : decode cX12_person 99 = .ok (.getfield 13, 3) := by decide +kernel
theorem dX12_person_102 : decode cX12_person 102 = .ok (.bipush 91, 2) := by decide +kernel
theorem dX12_person_104 : decode cX12_person 104 = .ok (.iload_n 1, 1) := by decide +kernel
theorem dX12_person_105 : decode cX12_person 105 = .ok (.iadd, 1) := by decide +kernel
theorem dX12_person_106 : decode cX12_person 106 = .ok (.iaload, 1) := by decide +kernel
theorem dX12_person_107 : decode cX12_person 107 = .ok (.ireturn, 1) := by decide +kernel
theorem dX12_person_108 : decode cX12_person 108 = .ok (.bipush (-2), 2) := by decide +kernel
theorem dX12_person_110 : decode cX12_person 110 = .ok (.ireturn, 1) := by decide +kernel
theorem dX12_hints_0 : decode cX12_hints 0 = .ok (.aload_n 0, 1) := by decide +kernel
theorem dX12_hints_1 : decode cX12_hints 1 = .ok (.iconst 0, 1) := by decide +kernel
theorem dX12_hints_2 : decode cX12_hints 2 = .ok (.putfield 1, 3) := by decide +kernel
theorem dX12_hints_5 : decode cX12_hints 5 = .ok (.aload_n 0, 1) := by decide +kernel
theorem dX12_hints_6 : decode cX12_hints 6 = .ok (.iload_n 1, 1) := by decide +kernel
theorem dX12_hints_7 : decode cX12_hints 7 = .ok (.i2l, 1) := by decide +kernel
theorem dX12_hints_8 : decode cX12_hints 8 = .ok (.invokevirtual 241, 3) := by decide +kernel
theorem dX12_hints_11 : decode cX12_hints 11 = .ok (.ifCond .eq 15, 3) := by decide +kernel
theorem dX12_hints_14 : decode cX12_hints 14 = .ok (.aload_n 0, 1) := by decide +kernel
theorem dX12_hints_15 : decode cX12_hints 15 = .ok (.getfield 13, 3) := by decide +kernel
theorem dX12_hints_18 : decode cX12_hints 18 = .ok (.bipush 97, 2) := by decide +kernel
theorem dX12_hints_20 : decode cX12_hints 20 = .ok (.iload_n 1, 1) := by decide +kernel
theorem dX12_hints_21 : decode cX12_hints 21 = .ok (.iadd, 1) := by decide +kernel
theorem dX12_hints_22 : decode cX12_hints 22 = .ok (.iaload, 1) := by decide +kernel
theorem dX12_hints_23 : decode cX12_hints 23 = .ok (.goto 5, 3) := by decide +kernel
theorem dX12_hints_26 : decode cX12_hints 26 = .ok (.bipush (-2), 2) := by decide +kernel
theorem dX12_hints_28 : decode cX12_hints 28 = .ok (.ireturn, 1) := by decide +kernel
theorem dX12_knows_0 : decode cX12_knows 0 = .ok (.aload_n 0, 1) := by decide +kernel
theorem dX12_knows_1 : decode cX12_knows 1 = .ok (.iconst 0, 1) := by decide +kernel
theorem dX12_knows_2 : decode cX12_knows 2 = .ok (.putfield 1, 3) := by decide +kernel
theorem dX12_knows_5 : decode cX12_knows 5 = .ok (.aload_n 0, 1) := by decide +kernel
theorem dX12_knows_6 : decode cX12_knows 6 = .ok (.iload_n 1, 1) := by decide +kernel
theorem dX12_knows_7 : decode cX12_knows 7 = .ok (.i2l, 1) := by decide +kernel
theorem dX12_knows_8 : decode cX12_knows 8 = .ok (.invokevirtual 245, 3) := by decide +kernel
theorem dX12_knows_11 : decode cX12_knows 11 = .ok (.ifCond .eq 12, 3) := by decide +kernel
theorem dX12_knows_14 : decode cX12_knows 14 = .ok (.aload_n 0, 1) := by decide +kernel
theorem dX12_knows_15 : decode cX12_knows 15 = .ok (.iload_n 2, 1) := by decide +kernel
theorem dX12_knows_16 : decode cX12_knows 16 = .ok (.i2l, 1) := by decide +kernel
theorem dX12_knows_17 : decode cX12_knows 17 = .ok (.invokevirtual 241, 3) := by decide +kernel
theorem dX12_knows_20 : decode cX12_knows 20 = .ok (.ifCond .ne 6, 3) := by decide +kernel
theorem dX12_knows_23 : decode cX12_knows 23 = .ok (.bipush (-2), 2) := by decide +kernel
theorem dX12_knows_25 : decode cX12_knows 25 = .ok (.ireturn, 1) := by decide +kernel
theorem dX12_knows_26 : decode cX12_knows 26 = .ok (.aload_n 0, 1) := by decide +kernel
theorem dX12_knows_27 : decode cX12_knows 27 = .ok (.iload_n 1, 1) := by decide +kernel
theorem dX12_knows_28 : decode cX12_knows 28 = .ok (.invokevirtual 248, 3) := by decide +kernel
theorem dX12_knows_31 : decode cX12_knows 31 = .ok (.istore_n 3, 1) := by decide +kernel
theorem dX12_knows_32 : decode cX12_knows 32 = .ok (.iload_n 3, 1) := by decide +kernel
theorem dX12_knows_33 : decode cX12_knows 33 = .ok (.aload_n 0, 1) := by decide +kernel
theorem dX12_knows_34 : decode cX12_knows 34 = .ok (.getfield 13, 3) := by decide +kernel
theorem dX12_knows_37 : decode cX12_knows 37 = .ok (.bipush 105, 2) := by decide +kernel
theorem dX12_knows_39 : decode cX12_knows 39 = .ok (.iload_n 2, 1) := by decide +kernel
theorem dX12_knows_40 : decode cX12_knows 40 = .ok (.iadd, 1) := by decide +kernel
theorem dX12_knows_41 : decode cX12_knows 41 = .ok (.iaload, 1) := by decide +kernel
theorem dX12_knows_42 : decode cX12_knows 42 = .ok (.iconst (-1), 1) := by decide +kernel
theorem dX12_knows_43 : decode cX12_knows 43 = .ok (.ixor, 1) := by decide +kernel
theorem dX12_knows_44 : decode cX12_knows 44 = .ok (.iand, 1) := by decide +kernel
theorem dX12_knows_45 : decode cX12_knows 45 = .ok (.ifCond .ne 7, 3) := by decide +kernel
theorem dX12_knows_48 : decode cX12_knows 48 = .ok (.iconst 1, 1) := by decide +kernel
theorem dX12_knows_49 : decode cX12_knows 49 = .ok (.goto 22, 3) := by decide +kernel
theorem dX12_knows_52 : decode cX12_knows 52 = .ok (.iload_n 3, 1) := by decide +kernel
theorem dX12_knows_53 : decode cX12_knows 53 = .ok (.aload_n 0, 1) := by decide +kernel
theorem dX12_knows_54 : decode cX12_knows 54 = .ok (.getfield 13, 3) := by decide +kernel
theorem dX12_knows_57 : decode cX12_knows 57 = .ok (.bipush 105, 2) := by decide +kernel
theorem dX12_knows_59 : decode cX12_knows 59 = .ok (.iload_n 2, 1) := by decide +kernel
theorem dX12_knows_60 : decode cX12_knows 60 = .ok (.iadd, 1) := by decide +kernel
theorem dX12_knows_61 : decode cX12_knows 61 = .ok (.iaload, 1) := by decide +kernel
theorem dX12_knows_62 : decode cX12_knows 62 = .ok (.iand, 1) := by decide +kernel
theorem dX12_knows_63 : decode cX12_knows 63 = .ok (.ifCond .ne 7, 3) := by decide +kernel
theorem dX12_knows_66 : decode cX12_knows 66 = .ok (.iconst 0, 1) := by decide +kernel
theorem dX12_knows_67 : decode cX12_knows 67 = .ok (.goto 4, 3) := by decide +kernel
theorem dX12_knows_70 : decode cX12_knows 70 = .ok (.iconst (-1), 1) := by decide +kernel
theorem dX12_knows_71 : decode cX12_knows 71 = .ok (.ireturn, 1) := by decide +kernel
theorem dX12_cell_0 : decode cX12_cell 0 = .ok (.aload_n 0, 1) := by decide +kernel
theorem dX12_cell_1 : decode cX12_cell 1 = .ok (.iconst 0, 1) := by decide +kernel
theorem dX12_cell_2 : decode cX12_cell 2 = .ok (.putfield 1, 3) := by decide +kernel
theorem dX12_cell_5 : decode cX12_cell 5 = .ok (.aload_n 0, 1) := by decide +kernel
theorem dX12_cell_6 : decode cX12_cell 6 = .ok (.iload_n 1, 1) := by decide +kernel
theorem dX12_cell_7 : decode cX12_cell 7 = .ok (.i2l, 1) := by decide +kernel
theorem dX12_cell_8 : decode cX12_cell 8 = .ok (.invokevirtual 245, 3) := by decide +kernel
theorem dX12_cell_11 : decode cX12_cell 11 = .ok (.ifCond .eq 27, 3) := by decide +kernel
theorem dX12_cell_14 : decode cX12_cell 14 = .ok (.aload_n 0, 1) := by decide +kernel
theorem dX12_cell_15 : decode cX12_cell 15 = .ok (.iload_n 2, 1) := by decide +kernel
theorem dX12_cell_16 : decode cX12_cell 16 = .ok (.invokevirtual 235, 3) := by decide +kernel
theorem dX12_cell_19 : decode cX12_cell 19 = .ok (.ifCond .eq 19, 3) := by decide +kernel
theorem dX12_cell_22 : decode cX12_cell 22 = .ok (.aload_n 0, 1) := by decide +kernel
theorem dX12_cell_23 : decode cX12_cell 23 = .ok (.aload_n 0, 1) := by decide +kernel
theorem dX12_cell_24 : decode cX12_cell 24 = .ok (.getfield 13, 3) := by decide +kernel
theorem dX12_cell_27 : decode cX12_cell 27 = .ok (.iconst 5, 1) := by decide +kernel
theorem dX12_cell_28 : decode cX12_cell 28 = .ok (.iload_n 1, 1) := by decide +kernel
theorem dX12_cell_29 : decode cX12_cell 29 = .ok (.iadd, 1) := by decide +kernel
theorem dX12_cell_30 : decode cX12_cell 30 = .ok (.iaload, 1) := by decide +kernel
theorem dX12_cell_31 : decode cX12_cell 31 = .ok (.iload_n 2, 1) := by decide +kernel
theorem dX12_cell_32 : decode cX12_cell 32 = .ok (.invokevirtual 232, 3) := by decide +kernel
theorem dX12_cell_35 : decode cX12_cell 35 = .ok (.goto 5, 3) := by decide +kernel
theorem dX12_cell_38 : decode cX12_cell 38 = .ok (.bipush (-2), 2) := by decide +kernel
theorem dX12_cell_40 : decode cX12_cell 40 = .ok (.ireturn, 1) := by decide +kernel
theorem dX12_keeps_0 : decode cX12_keeps 0 = .ok (.iconst 0, 1) := by decide +kernel
theorem dX12_keeps_1 : decode cX12_keeps 1 = .ok (.istore_n 1, 1) := by decide +kernel
theorem dX12_keeps_2 : decode cX12_keeps 2 = .ok (.iload_n 1, 1) := by decide +kernel
theorem dX12_keeps_3 : decode cX12_keeps 3 = .ok (.bipush 7, 2) := by decide +kernel
theorem dX12_keeps_5 : decode cX12_keeps 5 = .ok (.if_icmp .ge 23, 3) := by decide +kernel
theorem dX12_keeps_8 : decode cX12_keeps 8 = .ok (.aload_n 0, 1) := by decide +kernel
theorem dX12_keeps_9 : decode cX12_keeps 9 = .ok (.getfield 42, 3) := by decide +kernel
theorem dX12_keeps_12 : decode cX12_keeps 12 = .ok (.iload_n 1, 1) := by decide +kernel
theorem dX12_keeps_13 : decode cX12_keeps 13 = .ok (.aload_n 0, 1) := by decide +kernel
theorem dX12_keeps_14 : decode cX12_keeps 14 = .ok (.getfield 13, 3) := by decide +kernel
theorem dX12_keeps_17 : decode cX12_keeps 17 = .ok (.iconst 4, 1) := by decide +kernel
theorem dX12_keeps_18 : decode cX12_keeps 18 = .ok (.iload_n 1, 1) := by decide +kernel
theorem dX12_keeps_19 : decode cX12_keeps 19 = .ok (.iadd, 1) := by decide +kernel
theorem dX12_keeps_20 : decode cX12_keeps 20 = .ok (.iaload, 1) := by decide +kernel
theorem dX12_keeps_21 : decode cX12_keeps 21 = .ok (.iastore, 1) := by decide +kernel
theorem dX12_keeps_22 : decode cX12_keeps 22 = .ok (.iinc 1 1, 3) := by decide +kernel
theorem dX12_keeps_25 : decode cX12_keeps 25 = .ok (.goto (-23), 3) := by decide +kernel
theorem dX12_keeps_28 : decode cX12_keeps 28 = .ok (.return_, 1) := by decide +kernel
theorem dX12_isAgain_0 : decode cX12_isAgain 0 = .ok (.iconst 0, 1) := by decide +kernel
theorem dX12_isAgain_1 : decode cX12_isAgain 1 = .ok (.istore_n 1, 1) := by decide +kernel
theorem dX12_isAgain_2 : decode cX12_isAgain 2 = .ok (.iload_n 1, 1) := by decide +kernel
theorem dX12_isAgain_3 : decode cX12_isAgain 3 = .ok (.bipush 7, 2) := by decide +kernel
theorem dX12_isAgain_5 : decode cX12_isAgain 5 = .ok (.if_icmp .ge 23, 3) := by decide +kernel
theorem dX12_isAgain_8 : decode cX12_isAgain 8 = .ok (.aload_n 0, 1) := by decide +kernel
theorem dX12_isAgain_9 : decode cX12_isAgain 9 = .ok (.getfield 13, 3) := by decide +kernel
theorem dX12_isAgain_12 : decode cX12_isAgain 12 = .ok (.iconst 4, 1) := by decide +kernel
theorem dX12_isAgain_13 : decode cX12_isAgain 13 = .ok (.iload_n 1, 1) := by decide +kernel
theorem dX12_isAgain_14 : decode cX12_isAgain 14 = .ok (.iadd, 1) := by decide +kernel
theorem dX12_isAgain_15 : decode cX12_isAgain 15 = .ok (.aload_n 0, 1) := by decide +kernel
theorem dX12_isAgain_16 : decode cX12_isAgain 16 = .ok (.getfield 42, 3) := by decide +kernel
theorem dX12_isAgain_19 : decode cX12_isAgain 19 = .ok (.iload_n 1, 1) := by decide +kernel
theorem dX12_isAgain_20 : decode cX12_isAgain 20 = .ok (.iaload, 1) := by decide +kernel
theorem dX12_isAgain_21 : decode cX12_isAgain 21 = .ok (.iastore, 1) := by decide +kernel
theorem dX12_isAgain_22 : decode cX12_isAgain 22 = .ok (.iinc 1 1, 3) := by decide +kernel
theorem dX12_isAgain_25 : decode cX12_isAgain 25 = .ok (.goto (-23), 3) := by decide +kernel
theorem dX12_isAgain_28 : decode cX12_isAgain 28 = .ok (.return_, 1) := by decide +kernel
theorem dX12_notes_0 : decode cX12_notes 0 = .ok (.aload_n 0, 1) := by decide +kernel
theorem dX12_notes_1 : decode cX12_notes 1 = .ok (.getfield 13, 3) := by decide +kernel
theorem dX12_notes_4 : decode cX12_notes 4 = .ok (.bipush 113, 2) := by decide +kernel
theorem dX12_notes_6 : decode cX12_notes 6 = .ok (.iaload, 1) := by decide +kernel
theorem dX12_notes_7 : decode cX12_notes 7 = .ok (.bipush 12, 2) := by decide +kernel
theorem dX12_notes_9 : decode cX12_notes 9 = .ok (.if_icmp .ne 46, 3) := by decide +kernel
theorem dX12_notes_12 : decode cX12_notes 12 = .ok (.iconst 0, 1) := by decide +kernel
theorem dX12_notes_13 : decode cX12_notes 13 = .ok (.istore_n 1, 1) := by decide +kernel
theorem dX12_notes_14 : decode cX12_notes 14 = .ok (.iload_n 1, 1) := by decide +kernel
theorem dX12_notes_15 : decode cX12_notes 15 = .ok (.bipush 77, 2) := by decide +kernel
theorem dX12_notes_17 : decode cX12_notes 17 = .ok (.if_icmp .ge 27, 3) := by decide +kernel
theorem dX12_notes_20 : decode cX12_notes 20 = .ok (.aload_n 0, 1) := by decide +kernel
theorem dX12_notes_21 : decode cX12_notes 21 = .ok (.getfield 13, 3) := by decide +kernel
theorem dX12_notes_24 : decode cX12_notes 24 = .ok (.bipush 114, 2) := by decide +kernel
theorem dX12_notes_26 : decode cX12_notes 26 = .ok (.iload_n 1, 1) := by decide +kernel
theorem dX12_notes_27 : decode cX12_notes 27 = .ok (.iadd, 1) := by decide +kernel
theorem dX12_notes_28 : decode cX12_notes 28 = .ok (.aload_n 0, 1) := by decide +kernel
theorem dX12_notes_29 : decode cX12_notes 29 = .ok (.getfield 13, 3) := by decide +kernel
theorem dX12_notes_32 : decode cX12_notes 32 = .ok (.bipush 121, 2) := by decide +kernel
theorem dX12_notes_34 : decode cX12_notes 34 = .ok (.iload_n 1, 1) := by decide +kernel
theorem dX12_notes_35 : decode cX12_notes 35 = .ok (.iadd, 1) := by decide +kernel
theorem dX12_notes_36 : decode cX12_notes 36 = .ok (.iaload, 1) := by decide +kernel
theorem dX12_notes_37 : decode cX12_notes 37 = .ok (.iastore, 1) := by decide +kernel
theorem dX12_notes_38 : decode cX12_notes 38 = .ok (.iinc 1 1, 3) := by decide +kernel
theorem dX12_notes_41 : decode cX12_notes 41 = .ok (.goto (-27), 3) := by decide +kernel
theorem dX12_notes_44 : decode cX12_notes 44 = .ok (.aload_n 0, 1) := by decide +kernel
theorem dX12_notes_45 : decode cX12_notes 45 = .ok (.getfield 13, 3) := by decide +kernel
theorem dX12_notes_48 : decode cX12_notes 48 = .ok (.bipush 113, 2) := by decide +kernel
theorem dX12_notes_50 : decode cX12_notes 50 = .ok (.dup2, 1) := by decide +kernel
theorem dX12_notes_51 : decode cX12_notes 51 = .ok (.iaload, 1) := by decide +kernel
theorem dX12_notes_52 : decode cX12_notes 52 = .ok (.iconst 1, 1) := by decide +kernel
theorem dX12_notes_53 : decode cX12_notes 53 = .ok (.isub, 1) := by decide +kernel
theorem dX12_notes_54 : decode cX12_notes 54 = .ok (.iastore, 1) := by decide +kernel
theorem dX12_notes_55 : decode cX12_notes 55 = .ok (.iconst 0, 1) := by decide +kernel
theorem dX12_notes_56 : decode cX12_notes 56 = .ok (.istore_n 1, 1) := by decide +kernel
theorem dX12_notes_57 : decode cX12_notes 57 = .ok (.iload_n 1, 1) := by decide +kernel
theorem dX12_notes_58 : decode cX12_notes 58 = .ok (.bipush 7, 2) := by decide +kernel
theorem dX12_notes_60 : decode cX12_notes 60 = .ok (.if_icmp .ge 35, 3) := by decide +kernel
theorem dX12_notes_63 : decode cX12_notes 63 = .ok (.aload_n 0, 1) := by decide +kernel
theorem dX12_notes_64 : decode cX12_notes 64 = .ok (.getfield 13, 3) := by decide +kernel
theorem dX12_notes_67 : decode cX12_notes 67 = .ok (.bipush 114, 2) := by decide +kernel
theorem dX12_notes_69 : decode cX12_notes 69 = .ok (.bipush 7, 2) := by decide +kernel
theorem dX12_notes_71 : decode cX12_notes 71 = .ok (.aload_n 0, 1) := by decide +kernel
theorem dX12_notes_72 : decode cX12_notes 72 = .ok (.getfield 13, 3) := by decide +kernel
theorem dX12_notes_75 : decode cX12_notes 75 = .ok (.bipush 113, 2) := by decide +kernel
theorem dX12_notes_77 : decode cX12_notes 77 = .ok (.iaload, 1) := by decide +kernel
theorem dX12_notes_78 : decode cX12_notes 78 = .ok (.imul, 1) := by decide +kernel
theorem dX12_notes_79 : decode cX12_notes 79 = .ok (.iadd, 1) := by decide +kernel
theorem dX12_notes_80 : decode cX12_notes 80 = .ok (.iload_n 1, 1) := by decide +kernel
theorem dX12_notes_81 : decode cX12_notes 81 = .ok (.iadd, 1) := by decide +kernel
theorem dX12_notes_82 : decode cX12_notes 82 = .ok (.aload_n 0, 1) := by decide +kernel
theorem dX12_notes_83 : decode cX12_notes 83 = .ok (.getfield 42, 3) := by decide +kernel
theorem dX12_notes_86 : decode cX12_notes 86 = .ok (.iload_n 1, 1) := by decide +kernel
theorem dX12_notes_87 : decode cX12_notes 87 = .ok (.iaload, 1) := by decide +kernel
theorem dX12_notes_88 : decode cX12_notes 88 = .ok (.iastore, 1) := by decide +kernel
theorem dX12_notes_89 : decode cX12_notes 89 = .ok (.iinc 1 1, 3) := by decide +kernel
theorem dX12_notes_92 : decode cX12_notes 92 = .ok (.goto (-35), 3) := by decide +kernel
theorem dX12_notes_95 : decode cX12_notes 95 = .ok (.aload_n 0, 1) := by decide +kernel
theorem dX12_notes_96 : decode cX12_notes 96 = .ok (.getfield 13, 3) := by decide +kernel
theorem dX12_notes_99 : decode cX12_notes 99 = .ok (.bipush 113, 2) := by decide +kernel
theorem dX12_notes_101 : decode cX12_notes 101 = .ok (.dup2, 1) := by decide +kernel
theorem dX12_notes_102 : decode cX12_notes 102 = .ok (.iaload, 1) := by decide +kernel
theorem dX12_notes_103 : decode cX12_notes 103 = .ok (.iconst 1, 1) := by decide +kernel
theorem dX12_notes_104 : decode cX12_notes 104 = .ok (.iadd, 1) := by decide +kernel
theorem dX12_notes_105 : decode cX12_notes 105 = .ok (.iastore, 1) := by decide +kernel
theorem dX12_notes_106 : decode cX12_notes 106 = .ok (.return_, 1) := by decide +kernel
theorem dX12_knowsNow_0 : decode cX12_knowsNow 0 = .ok (.aload_n 0, 1) := by decide +kernel
theorem dX12_knowsNow_1 : decode cX12_knowsNow 1 = .ok (.iload_n 1, 1) := by decide +kernel
theorem dX12_knowsNow_2 : decode cX12_knowsNow 2 = .ok (.invokevirtual 248, 3) := by decide +kernel
theorem dX12_knowsNow_5 : decode cX12_knowsNow 5 = .ok (.aload_n 0, 1) := by decide +kernel
theorem dX12_knowsNow_6 : decode cX12_knowsNow 6 = .ok (.getfield 13, 3) := by decide +kernel
theorem dX12_knowsNow_9 : decode cX12_knowsNow 9 = .ok (.bipush 105, 2) := by decide +kernel
theorem dX12_knowsNow_11 : decode cX12_knowsNow 11 = .ok (.iload_n 2, 1) := by decide +kernel
theorem dX12_knowsNow_12 : decode cX12_knowsNow 12 = .ok (.iadd, 1) := by decide +kernel
theorem dX12_knowsNow_13 : decode cX12_knowsNow 13 = .ok (.iaload, 1) := by decide +kernel
theorem dX12_knowsNow_14 : decode cX12_knowsNow 14 = .ok (.invokestatic 229, 3) := by decide +kernel
theorem dX12_knowsNow_17 : decode cX12_knowsNow 17 = .ok (.ireturn, 1) := by decide +kernel
theorem dX12_asks_0 : decode cX12_asks 0 = .ok (.aload_n 0, 1) := by decide +kernel
theorem dX12_asks_1 : decode cX12_asks 1 = .ok (.iload_n 1, 1) := by decide +kernel
theorem dX12_asks_2 : decode cX12_asks 2 = .ok (.iload_n 2, 1) := by decide +kernel
theorem dX12_asks_3 : decode cX12_asks 3 = .ok (.invokevirtual 257, 3) := by decide +kernel
theorem dX12_asks_6 : decode cX12_asks 6 = .ok (.ifCond .eq 7, 3) := by decide +kernel
theorem dX12_asks_9 : decode cX12_asks 9 = .ok (.iconst 1, 1) := by decide +kernel
theorem dX12_asks_10 : decode cX12_asks 10 = .ok (.goto 4, 3) := by decide +kernel
theorem dX12_asks_13 : decode cX12_asks 13 = .ok (.iconst 0, 1) := by decide +kernel
theorem dX12_asks_14 : decode cX12_asks 14 = .ok (.istore_n 3, 1) := by decide +kernel
theorem dX12_asks_15 : decode cX12_asks 15 = .ok (.aload_n 0, 1) := by decide +kernel
theorem dX12_asks_16 : decode cX12_asks 16 = .ok (.getfield 13, 3) := by decide +kernel
theorem dX12_asks_19 : decode cX12_asks 19 = .ok (.iconst 5, 1) := by decide +kernel
theorem dX12_asks_20 : decode cX12_asks 20 = .ok (.iload_n 1, 1) := by decide +kernel
theorem dX12_asks_21 : decode cX12_asks 21 = .ok (.iadd, 1) := by decide +kernel
theorem dX12_asks_22 : decode cX12_asks 22 = .ok (.dup2, 1) := by decide +kernel
theorem dX12_asks_23 : decode cX12_asks 23 = .ok (.iaload, 1) := by decide +kernel
theorem dX12_asks_24 : decode cX12_asks 24 = .ok (.aload_n 0, 1) := by decide +kernel
theorem dX12_asks_25 : decode cX12_asks 25 = .ok (.getfield 13, 3) := by decide +kernel
theorem dX12_asks_28 : decode cX12_asks 28 = .ok (.bipush 97, 2) := by decide +kernel
theorem dX12_asks_30 : decode cX12_asks 30 = .ok (.iload_n 2, 1) := by decide +kernel
theorem dX12_asks_31 : decode cX12_asks 31 = .ok (.iadd, 1) := by decide +kernel
theorem dX12_asks_32 : decode cX12_asks 32 = .ok (.iaload, 1) := by decide +kernel
theorem dX12_asks_33 : decode cX12_asks 33 = .ok (.ior, 1) := by decide +kernel
theorem dX12_asks_34 : decode cX12_asks 34 = .ok (.iastore, 1) := by decide +kernel
theorem dX12_asks_35 : decode cX12_asks 35 = .ok (.iload_n 3, 1) := by decide +kernel
theorem dX12_asks_36 : decode cX12_asks 36 = .ok (.ireturn, 1) := by decide +kernel
theorem dX12_daysOne_0 : decode cX12_daysOne 0 = .ok (.iconst 0, 1) := by decide +kernel
theorem dX12_daysOne_1 : decode cX12_daysOne 1 = .ok (.istore_n 1, 1) := by decide +kernel
theorem dX12_daysOne_2 : decode cX12_daysOne 2 = .ok (.iconst 0, 1) := by decide +kernel
theorem dX12_daysOne_3 : decode cX12_daysOne 3 = .ok (.istore_n 2, 1) := by decide +kernel
theorem dX12_daysOne_4 : decode cX12_daysOne 4 = .ok (.iload_n 2, 1) := by decide +kernel
theorem dX12_daysOne_5 : decode cX12_daysOne 5 = .ok (.aload_n 0, 1) := by decide +kernel
theorem dX12_daysOne_6 : decode cX12_daysOne 6 = .ok (.getfield 13, 3) := by decide +kernel
theorem dX12_daysOne_9 : decode cX12_daysOne 9 = .ok (.iconst 3, 1) := by decide +kernel
theorem dX12_daysOne_10 : decode cX12_daysOne 10 = .ok (.iaload, 1) := by decide +kernel
theorem dX12_daysOne_11 : decode cX12_daysOne 11 = .ok (.if_icmp .ge 79, 3) := by decide +kernel
theorem dX12_daysOne_14 : decode cX12_daysOne 14 = .ok (.aload_n 0, 1) := by decide +kernel
theorem dX12_daysOne_15 : decode cX12_daysOne 15 = .ok (.getfield 45, 3) := by decide +kernel
theorem dX12_daysOne_18 : decode cX12_daysOne 18 = .ok (.iload_n 2, 1) := by decide +kernel
theorem dX12_daysOne_19 : decode cX12_daysOne 19 = .ok (.aload_n 0, 1) := by decide +kernel
theorem dX12_daysOne_20 : decode cX12_daysOne 20 = .ok (.getfield 13, 3) := by decide +kernel
theorem dX12_daysOne_23 : decode cX12_daysOne 23 = .ok (.iconst 5, 1) := by decide +kernel
theorem dX12_daysOne_24 : decode cX12_daysOne 24 = .ok (.iload_n 2, 1) := by decide +kernel
theorem dX12_daysOne_25 : decode cX12_daysOne 25 = .ok (.iadd, 1) := by decide +kernel
theorem dX12_daysOne_26 : decode cX12_daysOne 26 = .ok (.iaload, 1) := by decide +kernel
theorem dX12_daysOne_27 : decode cX12_daysOne 27 = .ok (.iastore, 1) := by decide +kernel
theorem dX12_daysOne_28 : decode cX12_daysOne 28 = .ok (.iconst 0, 1) := by decide +kernel
theorem dX12_daysOne_29 : decode cX12_daysOne 29 = .ok (.istore_n 3, 1) := by decide +kernel
theorem dX12_daysOne_30 : decode cX12_daysOne 30 = .ok (.iload_n 3, 1) := by decide +kernel
theorem dX12_daysOne_31 : decode cX12_daysOne 31 = .ok (.aload_n 0, 1) := by decide +kernel
theorem dX12_daysOne_32 : decode cX12_daysOne 32 = .ok (.getfield 13, 3) := by decide +kernel
theorem dX12_daysOne_35 : decode cX12_daysOne 35 = .ok (.iconst 3, 1) := by decide +kernel
theorem dX12_daysOne_36 : decode cX12_daysOne 36 = .ok (.iaload, 1) := by decide +kernel
theorem dX12_daysOne_37 : decode cX12_daysOne 37 = .ok (.if_icmp .ge 47, 3) := by decide +kernel
theorem dX12_daysOne_40 : decode cX12_daysOne 40 = .ok (.aload_n 0, 1) := by decide +kernel
theorem dX12_daysOne_41 : decode cX12_daysOne 41 = .ok (.getfield 45, 3) := by decide +kernel
theorem dX12_daysOne_44 : decode cX12_daysOne 44 = .ok (.iload_n 2, 1) := by decide +kernel
theorem dX12_daysOne_45 : decode cX12_daysOne 45 = .ok (.dup2, 1) := by decide +kernel
theorem dX12_daysOne_46 : decode cX12_daysOne 46 = .ok (.iaload, 1) := by decide +kernel
theorem dX12_daysOne_47 : decode cX12_daysOne 47 = .ok (.aload_n 0, 1) := by decide +kernel
theorem dX12_daysOne_48 : decode cX12_daysOne 48 = .ok (.getfield 13, 3) := by decide +kernel
theorem dX12_daysOne_51 : decode cX12_daysOne 51 = .ok (.bipush 91, 2) := by decide +kernel
theorem dX12_daysOne_53 : decode cX12_daysOne 53 = .ok (.iload_n 2, 1) := by decide +kernel
theorem dX12_daysOne_54 : decode cX12_daysOne 54 = .ok (.iadd, 1) := by decide +kernel
theorem dX12_daysOne_55 : decode cX12_daysOne 55 = .ok (.iaload, 1) := by decide +kernel
theorem dX12_daysOne_56 : decode cX12_daysOne 56 = .ok (.i2l, 1) := by decide +kernel
theorem dX12_daysOne_57 : decode cX12_daysOne 57 = .ok (.iload_n 3, 1) := by decide +kernel
theorem dX12_daysOne_58 : decode cX12_daysOne 58 = .ok (.invokestatic 222, 3) := by decide +kernel
theorem dX12_daysOne_61 : decode cX12_daysOne 61 = .ok (.ifCond .eq 14, 3) := by decide +kernel
theorem dX12_daysOne_64 : decode cX12_daysOne 64 = .ok (.aload_n 0, 1) := by decide +kernel
theorem dX12_daysOne_65 : decode cX12_daysOne 65 = .ok (.getfield 13, 3) := by decide +kernel
theorem dX12_daysOne_68 : decode cX12_daysOne 68 = .ok (.iconst 5, 1) := by decide +kernel
theorem dX12_daysOne_69 : decode cX12_daysOne 69 = .ok (.iload_n 3, 1) := by decide +kernel
theorem dX12_daysOne_70 : decode cX12_daysOne 70 = .ok (.iadd, 1) := by decide +kernel
theorem dX12_daysOne_71 : decode cX12_daysOne 71 = .ok (.iaload, 1) := by decide +kernel
theorem dX12_daysOne_72 : decode cX12_daysOne 72 = .ok (.goto 4, 3) := by decide +kernel
theorem dX12_daysOne_75 : decode cX12_daysOne 75 = .ok (.iconst 0, 1) := by decide +kernel
theorem dX12_daysOne_76 : decode cX12_daysOne 76 = .ok (.ior, 1) := by decide +kernel
theorem dX12_daysOne_77 : decode cX12_daysOne 77 = .ok (.iastore, 1) := by decide +kernel
theorem dX12_daysOne_78 : decode cX12_daysOne 78 = .ok (.iinc 3 1, 3) := by decide +kernel
theorem dX12_daysOne_81 : decode cX12_daysOne 81 = .ok (.goto (-51), 3) := by decide +kernel
theorem dX12_daysOne_84 : decode cX12_daysOne 84 = .ok (.iinc 2 1, 3) := by decide +kernel
theorem dX12_daysOne_87 : decode cX12_daysOne 87 = .ok (.goto (-83), 3) := by decide +kernel
theorem dX12_daysOne_90 : decode cX12_daysOne 90 = .ok (.iconst 0, 1) := by decide +kernel
theorem dX12_daysOne_91 : decode cX12_daysOne 91 = .ok (.istore_n 2, 1) := by decide +kernel
theorem dX12_daysOne_92 : decode cX12_daysOne 92 = .ok (.iload_n 2, 1) := by decide +kernel
theorem dX12_daysOne_93 : decode cX12_daysOne 93 = .ok (.aload_n 0, 1) := by decide +kernel
theorem dX12_daysOne_94 : decode cX12_daysOne 94 = .ok (.getfield 13, 3) := by decide +kernel
theorem dX12_daysOne_97 : decode cX12_daysOne 97 = .ok (.iconst 3, 1) := by decide +kernel
theorem dX12_daysOne_98 : decode cX12_daysOne 98 = .ok (.iaload, 1) := by decide +kernel
theorem dX12_daysOne_99 : decode cX12_daysOne 99 = .ok (.if_icmp .ge 48, 3) := by decide +kernel
theorem dX12_daysOne_102 : decode cX12_daysOne 102 = .ok (.iload_n 1, 1) := by decide +kernel
theorem dX12_daysOne_103 : decode cX12_daysOne 103 = .ok (.aload_n 0, 1) := by decide +kernel
theorem dX12_daysOne_104 : decode cX12_daysOne 104 = .ok (.getfield 45, 3) := by decide +kernel
theorem dX12_daysOne_107 : decode cX12_daysOne 107 = .ok (.iload_n 2, 1) := by decide +kernel
theorem dX12_daysOne_108 : decode cX12_daysOne 108 = .ok (.iaload, 1) := by decide +kernel
theorem dX12_daysOne_109 : decode cX12_daysOne 109 = .ok (.aload_n 0, 1) := by decide +kernel
theorem dX12_daysOne_110 : decode cX12_daysOne 110 = .ok (.getfield 13, 3) := by decide +kernel
theorem dX12_daysOne_113 : decode cX12_daysOne 113 = .ok (.iconst 5, 1) := by decide +kernel
theorem dX12_daysOne_114 : decode cX12_daysOne 114 = .ok (.iload_n 2, 1) := by decide +kernel
theorem dX12_daysOne_115 : decode cX12_daysOne 115 = .ok (.iadd, 1) := by decide +kernel
theorem dX12_daysOne_116 : decode cX12_daysOne 116 = .ok (.iaload, 1) := by decide +kernel
theorem dX12_daysOne_117 : decode cX12_daysOne 117 = .ok (.if_icmp .eq 7, 3) := by decide +kernel
theorem dX12_daysOne_120 : decode cX12_daysOne 120 = .ok (.iconst 1, 1) := by decide +kernel
theorem dX12_daysOne_121 : decode cX12_daysOne 121 = .ok (.goto 4, 3) := by decide +kernel
theorem dX12_daysOne_124 : decode cX12_daysOne 124 = .ok (.iconst 0, 1) := by decide +kernel
theorem dX12_daysOne_125 : decode cX12_daysOne 125 = .ok (.ior, 1) := by decide +kernel
theorem dX12_daysOne_126 : decode cX12_daysOne 126 = .ok (.istore_n 1, 1) := by decide +kernel
theorem dX12_daysOne_127 : decode cX12_daysOne 127 = .ok (.aload_n 0, 1) := by decide +kernel
theorem dX12_daysOne_128 : decode cX12_daysOne 128 = .ok (.getfield 13, 3) := by decide +kernel
theorem dX12_daysOne_131 : decode cX12_daysOne 131 = .ok (.iconst 5, 1) := by decide +kernel
theorem dX12_daysOne_132 : decode cX12_daysOne 132 = .ok (.iload_n 2, 1) := by decide +kernel
theorem dX12_daysOne_133 : decode cX12_daysOne 133 = .ok (.iadd, 1) := by decide +kernel
theorem dX12_daysOne_134 : decode cX12_daysOne 134 = .ok (.aload_n 0, 1) := by decide +kernel
theorem dX12_daysOne_135 : decode cX12_daysOne 135 = .ok (.getfield 45, 3) := by decide +kernel
theorem dX12_daysOne_138 : decode cX12_daysOne 138 = .ok (.iload_n 2, 1) := by decide +kernel
theorem dX12_daysOne_139 : decode cX12_daysOne 139 = .ok (.iaload, 1) := by decide +kernel
theorem dX12_daysOne_140 : decode cX12_daysOne 140 = .ok (.iastore, 1) := by decide +kernel
theorem dX12_daysOne_141 : decode cX12_daysOne 141 = .ok (.iinc 2 1, 3) := by decide +kernel
theorem dX12_daysOne_144 : decode cX12_daysOne 144 = .ok (.goto (-52), 3) := by decide +kernel
theorem dX12_daysOne_147 : decode cX12_daysOne 147 = .ok (.iload_n 1, 1) := by decide +kernel
theorem dX12_daysOne_148 : decode cX12_daysOne 148 = .ok (.ireturn, 1) := by decide +kernel
theorem dX12_tell_0 : decode cX12_tell 0 = .ok (.aload_n 0, 1) := by decide +kernel
theorem dX12_tell_1 : decode cX12_tell 1 = .ok (.iconst 0, 1) := by decide +kernel
theorem dX12_tell_2 : decode cX12_tell 2 = .ok (.putfield 1, 3) := by decide +kernel
theorem dX12_tell_5 : decode cX12_tell 5 = .ok (.aload_n 0, 1) := by decide +kernel
theorem dX12_tell_6 : decode cX12_tell 6 = .ok (.iload_n 1, 1) := by decide +kernel
theorem dX12_tell_7 : decode cX12_tell 7 = .ok (.i2l, 1) := by decide +kernel
theorem dX12_tell_8 : decode cX12_tell 8 = .ok (.invokevirtual 245, 3) := by decide +kernel
theorem dX12_tell_11 : decode cX12_tell 11 = .ok (.ifCond .eq 12, 3) := by decide +kernel
theorem dX12_tell_14 : decode cX12_tell 14 = .ok (.aload_n 0, 1) := by decide +kernel
theorem dX12_tell_15 : decode cX12_tell 15 = .ok (.iload_n 2, 1) := by decide +kernel
theorem dX12_tell_16 : decode cX12_tell 16 = .ok (.i2l, 1) := by decide +kernel
theorem dX12_tell_17 : decode cX12_tell 17 = .ok (.invokevirtual 241, 3) := by decide +kernel
theorem dX12_tell_20 : decode cX12_tell 20 = .ok (.ifCond .ne 6, 3) := by decide +kernel
theorem dX12_tell_23 : decode cX12_tell 23 = .ok (.bipush (-2), 2) := by decide +kernel
theorem dX12_tell_25 : decode cX12_tell 25 = .ok (.ireturn, 1) := by decide +kernel
theorem dX12_tell_26 : decode cX12_tell 26 = .ok (.aload_n 0, 1) := by decide +kernel
theorem dX12_tell_27 : decode cX12_tell 27 = .ok (.invokevirtual 260, 3) := by decide +kernel
theorem dX12_tell_30 : decode cX12_tell 30 = .ok (.aload_n 0, 1) := by decide +kernel
theorem dX12_tell_31 : decode cX12_tell 31 = .ok (.getfield 13, 3) := by decide +kernel
theorem dX12_tell_34 : decode cX12_tell 34 = .ok (.iconst 5, 1) := by decide +kernel
theorem dX12_tell_35 : decode cX12_tell 35 = .ok (.iload_n 1, 1) := by decide +kernel
theorem dX12_tell_36 : decode cX12_tell 36 = .ok (.iadd, 1) := by decide +kernel
theorem dX12_tell_37 : decode cX12_tell 37 = .ok (.dup2, 1) := by decide +kernel
theorem dX12_tell_38 : decode cX12_tell 38 = .ok (.iaload, 1) := by decide +kernel
theorem dX12_tell_39 : decode cX12_tell 39 = .ok (.iconst 1, 1) := by decide +kernel
theorem dX12_tell_40 : decode cX12_tell 40 = .ok (.iload_n 2, 1) := by decide +kernel
theorem dX12_tell_41 : decode cX12_tell 41 = .ok (.ishl, 1) := by decide +kernel
theorem dX12_tell_42 : decode cX12_tell 42 = .ok (.ior, 1) := by decide +kernel
theorem dX12_tell_43 : decode cX12_tell 43 = .ok (.iastore, 1) := by decide +kernel
theorem dX12_tell_44 : decode cX12_tell 44 = .ok (.aload_n 0, 1) := by decide +kernel
theorem dX12_tell_45 : decode cX12_tell 45 = .ok (.invokevirtual 263, 3) := by decide +kernel
theorem dX12_tell_48 : decode cX12_tell 48 = .ok (.aload_n 0, 1) := by decide +kernel
theorem dX12_tell_49 : decode cX12_tell 49 = .ok (.iload_n 1, 1) := by decide +kernel
theorem dX12_tell_50 : decode cX12_tell 50 = .ok (.invokevirtual 248, 3) := by decide +kernel
theorem dX12_tell_53 : decode cX12_tell 53 = .ok (.invokestatic 266, 3) := by decide +kernel
theorem dX12_tell_56 : decode cX12_tell 56 = .ok (.ireturn, 1) := by decide +kernel
theorem dX12_ask_0 : decode cX12_ask 0 = .ok (.aload_n 0, 1) := by decide +kernel
theorem dX12_ask_1 : decode cX12_ask 1 = .ok (.iconst 0, 1) := by decide +kernel
theorem dX12_ask_2 : decode cX12_ask 2 = .ok (.putfield 1, 3) := by decide +kernel
theorem dX12_ask_5 : decode cX12_ask 5 = .ok (.aload_n 0, 1) := by decide +kernel
theorem dX12_ask_6 : decode cX12_ask 6 = .ok (.iload_n 1, 1) := by decide +kernel
theorem dX12_ask_7 : decode cX12_ask 7 = .ok (.i2l, 1) := by decide +kernel
theorem dX12_ask_8 : decode cX12_ask 8 = .ok (.invokevirtual 245, 3) := by decide +kernel
theorem dX12_ask_11 : decode cX12_ask 11 = .ok (.ifCond .eq 12, 3) := by decide +kernel
theorem dX12_ask_14 : decode cX12_ask 14 = .ok (.aload_n 0, 1) := by decide +kernel
theorem dX12_ask_15 : decode cX12_ask 15 = .ok (.iload_n 2, 1) := by decide +kernel
theorem dX12_ask_16 : decode cX12_ask 16 = .ok (.i2l, 1) := by decide +kernel
theorem dX12_ask_17 : decode cX12_ask 17 = .ok (.invokevirtual 241, 3) := by decide +kernel
theorem dX12_ask_20 : decode cX12_ask 20 = .ok (.ifCond .ne 6, 3) := by decide +kernel
theorem dX12_ask_23 : decode cX12_ask 23 = .ok (.bipush (-2), 2) := by decide +kernel
theorem dX12_ask_25 : decode cX12_ask 25 = .ok (.ireturn, 1) := by decide +kernel
theorem dX12_ask_26 : decode cX12_ask 26 = .ok (.aload_n 0, 1) := by decide +kernel
theorem dX12_ask_27 : decode cX12_ask 27 = .ok (.invokevirtual 260, 3) := by decide +kernel
theorem dX12_ask_30 : decode cX12_ask 30 = .ok (.aload_n 0, 1) := by decide +kernel
theorem dX12_ask_31 : decode cX12_ask 31 = .ok (.iload_n 1, 1) := by decide +kernel
theorem dX12_ask_32 : decode cX12_ask 32 = .ok (.iload_n 2, 1) := by decide +kernel
theorem dX12_ask_33 : decode cX12_ask 33 = .ok (.invokevirtual 269, 3) := by decide +kernel
theorem dX12_ask_36 : decode cX12_ask 36 = .ok (.istore_n 3, 1) := by decide +kernel
theorem dX12_ask_37 : decode cX12_ask 37 = .ok (.aload_n 0, 1) := by decide +kernel
theorem dX12_ask_38 : decode cX12_ask 38 = .ok (.invokevirtual 263, 3) := by decide +kernel
theorem dX12_ask_41 : decode cX12_ask 41 = .ok (.iload_n 3, 1) := by decide +kernel
theorem dX12_ask_42 : decode cX12_ask 42 = .ok (.ireturn, 1) := by decide +kernel
theorem dX12_days_0 : decode cX12_days 0 = .ok (.aload_n 0, 1) := by decide +kernel
theorem dX12_days_1 : decode cX12_days 1 = .ok (.iconst 0, 1) := by decide +kernel
theorem dX12_days_2 : decode cX12_days 2 = .ok (.putfield 1, 3) := by decide +kernel
theorem dX12_days_5 : decode cX12_days 5 = .ok (.iload_n 1, 1) := by decide +kernel
theorem dX12_days_6 : decode cX12_days 6 = .ok (.i2l, 1) := by decide +kernel
theorem dX12_days_7 : decode cX12_days 7 = .ok (.lconst 1, 1) := by decide +kernel
theorem dX12_days_8 : decode cX12_days 8 = .ok (.ldc2_w 272, 3) := by decide +kernel
theorem dX12_days_11 : decode cX12_days 11 = .ok (.invokestatic 145, 3) := by decide +kernel
theorem dX12_days_14 : decode cX12_days 14 = .ok (.ifCond .ne 6, 3) := by decide +kernel
theorem dX12_days_17 : decode cX12_days 17 = .ok (.bipush (-3), 2) := by decide +kernel
theorem dX12_days_19 : decode cX12_days 19 = .ok (.ireturn, 1) := by decide +kernel
theorem dX12_days_20 : decode cX12_days 20 = .ok (.aload_n 0, 1) := by decide +kernel
theorem dX12_days_21 : decode cX12_days 21 = .ok (.invokevirtual 260, 3) := by decide +kernel
theorem dX12_days_24 : decode cX12_days 24 = .ok (.iconst 0, 1) := by decide +kernel
theorem dX12_days_25 : decode cX12_days 25 = .ok (.istore_n 2, 1) := by decide +kernel
theorem dX12_days_26 : decode cX12_days 26 = .ok (.iload_n 2, 1) := by decide +kernel
theorem dX12_days_27 : decode cX12_days 27 = .ok (.iload_n 1, 1) := by decide +kernel
theorem dX12_days_28 : decode cX12_days 28 = .ok (.if_icmp .ge 14, 3) := by decide +kernel
theorem dX12_days_31 : decode cX12_days 31 = .ok (.aload_n 0, 1) := by decide +kernel
theorem dX12_days_32 : decode cX12_days 32 = .ok (.invokevirtual 274, 3) := by decide +kernel
theorem dX12_days_35 : decode cX12_days 35 = .ok (.pop, 1) := by decide +kernel
theorem dX12_days_36 : decode cX12_days 36 = .ok (.iinc 2 1, 3) := by decide +kernel
theorem dX12_days_39 : decode cX12_days 39 = .ok (.goto (-13), 3) := by decide +kernel
theorem dX12_days_42 : decode cX12_days 42 = .ok (.aload_n 0, 1) := by decide +kernel
theorem dX12_days_43 : decode cX12_days 43 = .ok (.invokevirtual 263, 3) := by decide +kernel
theorem dX12_days_46 : decode cX12_days 46 = .ok (.iconst 0, 1) := by decide +kernel
theorem dX12_days_47 : decode cX12_days 47 = .ok (.istore_n 2, 1) := by decide +kernel
theorem dX12_days_48 : decode cX12_days 48 = .ok (.iconst 0, 1) := by decide +kernel
theorem dX12_days_49 : decode cX12_days 49 = .ok (.istore_n 3, 1) := by decide +kernel
theorem dX12_days_50 : decode cX12_days 50 = .ok (.iload_n 3, 1) := by decide +kernel
theorem dX12_days_51 : decode cX12_days 51 = .ok (.aload_n 0, 1) := by decide +kernel
theorem dX12_days_52 : decode cX12_days 52 = .ok (.getfield 13, 3) := by decide +kernel
theorem dX12_days_55 : decode cX12_days 55 = .ok (.iconst 3, 1) := by decide +kernel
theorem dX12_days_56 : decode cX12_days 56 = .ok (.iaload, 1) := by decide +kernel
theorem dX12_days_57 : decode cX12_days 57 = .ok (.if_icmp .ge 36, 3) := by decide +kernel
theorem dX12_days_60 : decode cX12_days 60 = .ok (.iload_n 2, 1) := by decide +kernel
theorem dX12_days_61 : decode cX12_days 61 = .ok (.aload_n 0, 1) := by decide +kernel
theorem dX12_days_62 : decode cX12_days 62 = .ok (.getfield 42, 3) := by decide +kernel
theorem dX12_days_65 : decode cX12_days 65 = .ok (.iconst 1, 1) := by decide +kernel
theorem dX12_days_66 : decode cX12_days 66 = .ok (.iload_n 3, 1) := by decide +kernel
theorem dX12_days_67 : decode cX12_days 67 = .ok (.iadd, 1) := by decide +kernel
theorem dX12_days_68 : decode cX12_days 68 = .ok (.iaload, 1) := by decide +kernel
theorem dX12_days_69 : decode cX12_days 69 = .ok (.aload_n 0, 1) := by decide +kernel
theorem dX12_days_70 : decode cX12_days 70 = .ok (.getfield 13, 3) := by decide +kernel
theorem dX12_days_73 : decode cX12_days 73 = .ok (.iconst 5, 1) := by decide +kernel
theorem dX12_days_74 : decode cX12_days 74 = .ok (.iload_n 3, 1) := by decide +kernel
theorem dX12_days_75 : decode cX12_days 75 = .ok (.iadd, 1) := by decide +kernel
theorem dX12_days_76 : decode cX12_days 76 = .ok (.iaload, 1) := by decide +kernel
theorem dX12_days_77 : decode cX12_days 77 = .ok (.if_icmp .ne 7, 3) := by decide +kernel
theorem dX12_days_80 : decode cX12_days 80 = .ok (.iconst 0, 1) := by decide +kernel
theorem dX12_days_81 : decode cX12_days 81 = .ok (.goto 4, 3) := by decide +kernel
theorem dX12_days_84 : decode cX12_days 84 = .ok (.iconst 1, 1) := by decide +kernel
theorem dX12_days_85 : decode cX12_days 85 = .ok (.iadd, 1) := by decide +kernel
theorem dX12_days_86 : decode cX12_days 86 = .ok (.istore_n 2, 1) := by decide +kernel
theorem dX12_days_87 : decode cX12_days 87 = .ok (.iinc 3 1, 3) := by decide +kernel
theorem dX12_days_90 : decode cX12_days 90 = .ok (.goto (-40), 3) := by decide +kernel
theorem dX12_days_93 : decode cX12_days 93 = .ok (.iload_n 2, 1) := by decide +kernel
theorem dX12_days_94 : decode cX12_days 94 = .ok (.ireturn, 1) := by decide +kernel
theorem dX12_isTrue_0 : decode cX12_isTrue 0 = .ok (.aload_n 0, 1) := by decide +kernel
theorem dX12_isTrue_1 : decode cX12_isTrue 1 = .ok (.iconst 0, 1) := by decide +kernel
theorem dX12_isTrue_2 : decode cX12_isTrue 2 = .ok (.putfield 1, 3) := by decide +kernel
theorem dX12_isTrue_5 : decode cX12_isTrue 5 = .ok (.aload_n 0, 1) := by decide +kernel
theorem dX12_isTrue_6 : decode cX12_isTrue 6 = .ok (.iload_n 1, 1) := by decide +kernel
theorem dX12_isTrue_7 : decode cX12_isTrue 7 = .ok (.invokevirtual 235, 3) := by decide +kernel
theorem dX12_isTrue_10 : decode cX12_isTrue 10 = .ok (.ifCond .ne 6, 3) := by decide +kernel
theorem dX12_isTrue_13 : decode cX12_isTrue 13 = .ok (.bipush (-2), 2) := by decide +kernel
theorem dX12_isTrue_15 : decode cX12_isTrue 15 = .ok (.ireturn, 1) := by decide +kernel
theorem dX12_isTrue_16 : decode cX12_isTrue 16 = .ok (.aload_n 0, 1) := by decide +kernel
theorem dX12_isTrue_17 : decode cX12_isTrue 17 = .ok (.invokevirtual 260, 3) := by decide +kernel
theorem dX12_isTrue_20 : decode cX12_isTrue 20 = .ok (.aload_n 0, 1) := by decide +kernel
theorem dX12_isTrue_21 : decode cX12_isTrue 21 = .ok (.getfield 13, 3) := by decide +kernel
theorem dX12_isTrue_24 : decode cX12_isTrue 24 = .ok (.iconst 4, 1) := by decide +kernel
theorem dX12_isTrue_25 : decode cX12_isTrue 25 = .ok (.iload_n 1, 1) := by decide +kernel
theorem dX12_isTrue_26 : decode cX12_isTrue 26 = .ok (.iastore, 1) := by decide +kernel
theorem dX12_isTrue_27 : decode cX12_isTrue 27 = .ok (.aload_n 0, 1) := by decide +kernel
theorem dX12_isTrue_28 : decode cX12_isTrue 28 = .ok (.invokevirtual 263, 3) := by decide +kernel
theorem dX12_isTrue_31 : decode cX12_isTrue 31 = .ok (.aload_n 0, 1) := by decide +kernel
theorem dX12_isTrue_32 : decode cX12_isTrue 32 = .ok (.getfield 42, 3) := by decide +kernel
theorem dX12_isTrue_35 : decode cX12_isTrue 35 = .ok (.iconst 0, 1) := by decide +kernel
theorem dX12_isTrue_36 : decode cX12_isTrue 36 = .ok (.iaload, 1) := by decide +kernel
theorem dX12_isTrue_37 : decode cX12_isTrue 37 = .ok (.ireturn, 1) := by decide +kernel
theorem dX12_undo_0 : decode cX12_undo 0 = .ok (.aload_n 0, 1) := by decide +kernel
theorem dX12_undo_1 : decode cX12_undo 1 = .ok (.iconst 0, 1) := by decide +kernel
theorem dX12_undo_2 : decode cX12_undo 2 = .ok (.putfield 1, 3) := by decide +kernel
theorem dX12_undo_5 : decode cX12_undo 5 = .ok (.iload_n 1, 1) := by decide +kernel
theorem dX12_undo_6 : decode cX12_undo 6 = .ok (.i2l, 1) := by decide +kernel
theorem dX12_undo_7 : decode cX12_undo 7 = .ok (.lconst 1, 1) := by decide +kernel
theorem dX12_undo_8 : decode cX12_undo 8 = .ok (.ldc2_w 164, 3) := by decide +kernel
theorem dX12_undo_11 : decode cX12_undo 11 = .ok (.invokestatic 145, 3) := by decide +kernel
theorem dX12_undo_14 : decode cX12_undo 14 = .ok (.ifCond .eq 14, 3) := by decide +kernel
theorem dX12_undo_17 : decode cX12_undo 17 = .ok (.iload_n 1, 1) := by decide +kernel
theorem dX12_undo_18 : decode cX12_undo 18 = .ok (.aload_n 0, 1) := by decide +kernel
theorem dX12_undo_19 : decode cX12_undo 19 = .ok (.getfield 13, 3) := by decide +kernel
theorem dX12_undo_22 : decode cX12_undo 22 = .ok (.bipush 113, 2) := by decide +kernel
theorem dX12_undo_24 : decode cX12_undo 24 = .ok (.iaload, 1) := by decide +kernel
theorem dX12_undo_25 : decode cX12_undo 25 = .ok (.if_icmp .le 6, 3) := by decide +kernel
theorem dX12_undo_28 : decode cX12_undo 28 = .ok (.bipush (-3), 2) := by decide +kernel
theorem dX12_undo_30 : decode cX12_undo 30 = .ok (.ireturn, 1) := by decide +kernel
theorem dX12_undo_31 : decode cX12_undo 31 = .ok (.aload_n 0, 1) := by decide +kernel
theorem dX12_undo_32 : decode cX12_undo 32 = .ok (.getfield 13, 3) := by decide +kernel
theorem dX12_undo_35 : decode cX12_undo 35 = .ok (.bipush 113, 2) := by decide +kernel
theorem dX12_undo_37 : decode cX12_undo 37 = .ok (.dup2, 1) := by decide +kernel
theorem dX12_undo_38 : decode cX12_undo 38 = .ok (.iaload, 1) := by decide +kernel
theorem dX12_undo_39 : decode cX12_undo 39 = .ok (.iload_n 1, 1) := by decide +kernel
theorem dX12_undo_40 : decode cX12_undo 40 = .ok (.isub, 1) := by decide +kernel
theorem dX12_undo_41 : decode cX12_undo 41 = .ok (.iastore, 1) := by decide +kernel
theorem dX12_undo_42 : decode cX12_undo 42 = .ok (.iconst 0, 1) := by decide +kernel
theorem dX12_undo_43 : decode cX12_undo 43 = .ok (.istore_n 2, 1) := by decide +kernel
theorem dX12_undo_44 : decode cX12_undo 44 = .ok (.iload_n 2, 1) := by decide +kernel
theorem dX12_undo_45 : decode cX12_undo 45 = .ok (.bipush 7, 2) := by decide +kernel
theorem dX12_undo_47 : decode cX12_undo 47 = .ok (.if_icmp .ge 37, 3) := by decide +kernel
theorem dX12_undo_50 : decode cX12_undo 50 = .ok (.aload_n 0, 1) := by decide +kernel
theorem dX12_undo_51 : decode cX12_undo 51 = .ok (.getfield 13, 3) := by decide +kernel
theorem dX12_undo_54 : decode cX12_undo 54 = .ok (.iconst 4, 1) := by decide +kernel
theorem dX12_undo_55 : decode cX12_undo 55 = .ok (.iload_n 2, 1) := by decide +kernel
theorem dX12_undo_56 : decode cX12_undo 56 = .ok (.iadd, 1) := by decide +kernel
theorem dX12_undo_57 : decode cX12_undo 57 = .ok (.aload_n 0, 1) := by decide +kernel
theorem dX12_undo_58 : decode cX12_undo 58 = .ok (.getfield 13, 3) := by decide +kernel
theorem dX12_undo_61 : decode cX12_undo 61 = .ok (.bipush 114, 2) := by decide +kernel
theorem dX12_undo_63 : decode cX12_undo 63 = .ok (.bipush 7, 2) := by decide +kernel
theorem dX12_undo_65 : decode cX12_undo 65 = .ok (.aload_n 0, 1) := by decide +kernel
theorem dX12_undo_66 : decode cX12_undo 66 = .ok (.getfield 13, 3) := by decide +kernel
theorem dX12_undo_69 : decode cX12_undo 69 = .ok (.bipush 113, 2) := by decide +kernel
theorem dX12_undo_71 : decode cX12_undo 71 = .ok (.iaload, 1) := by decide +kernel
theorem dX12_undo_72 : decode cX12_undo 72 = .ok (.imul, 1) := by decide +kernel
theorem dX12_undo_73 : decode cX12_undo 73 = .ok (.iadd, 1) := by decide +kernel
theorem dX12_undo_74 : decode cX12_undo 74 = .ok (.iload_n 2, 1) := by decide +kernel
theorem dX12_undo_75 : decode cX12_undo 75 = .ok (.iadd, 1) := by decide +kernel
theorem dX12_undo_76 : decode cX12_undo 76 = .ok (.iaload, 1) := by decide +kernel
theorem dX12_undo_77 : decode cX12_undo 77 = .ok (.iastore, 1) := by decide +kernel
theorem dX12_undo_78 : decode cX12_undo 78 = .ok (.iinc 2 1, 3) := by decide +kernel
theorem dX12_undo_81 : decode cX12_undo 81 = .ok (.goto (-37), 3) := by decide +kernel
theorem dX12_undo_84 : decode cX12_undo 84 = .ok (.aload_n 0, 1) := by decide +kernel
theorem dX12_undo_85 : decode cX12_undo 85 = .ok (.getfield 13, 3) := by decide +kernel
theorem dX12_undo_88 : decode cX12_undo 88 = .ok (.bipush 113, 2) := by decide +kernel
theorem dX12_undo_90 : decode cX12_undo 90 = .ok (.iaload, 1) := by decide +kernel
theorem dX12_undo_91 : decode cX12_undo 91 = .ok (.ireturn, 1) := by decide +kernel
theorem dX12_doesAll_0 : decode cX12_doesAll 0 = .ok (.aload_n 0, 1) := by decide +kernel
theorem dX12_doesAll_1 : decode cX12_doesAll 1 = .ok (.iconst 0, 1) := by decide +kernel
theorem dX12_doesAll_2 : decode cX12_doesAll 2 = .ok (.putfield 278, 3) := by decide +kernel
theorem dX12_doesAll_5 : decode cX12_doesAll 5 = .ok (.iconst 0, 1) := by decide +kernel
theorem dX12_doesAll_6 : decode cX12_doesAll 6 = .ok (.istore_n 2, 1) := by decide +kernel
theorem dX12_doesAll_7 : decode cX12_doesAll 7 = .ok (.iload_n 2, 1) := by decide +kernel
theorem dX12_doesAll_8 : decode cX12_doesAll 8 = .ok (.aload_n 0, 1) := by decide +kernel
theorem dX12_doesAll_9 : decode cX12_doesAll 9 = .ok (.getfield 76, 3) := by decide +kernel
theorem dX12_doesAll_12 : decode cX12_doesAll 12 = .ok (.iload_n 1, 1) := by decide +kernel
theorem dX12_doesAll_13 : decode cX12_doesAll 13 = .ok (.iaload, 1) := by decide +kernel
theorem dX12_doesAll_14 : decode cX12_doesAll 14 = .ok (.if_icmp .ge 134, 3) := by decide +kernel
theorem dX12_doesAll_17 : decode cX12_doesAll 17 = .ok (.aload_n 0, 1) := by decide +kernel
theorem dX12_doesAll_18 : decode cX12_doesAll 18 = .ok (.getfield 79, 3) := by decide +kernel
theorem dX12_doesAll_21 : decode cX12_doesAll 21 = .ok (.bipush 40, 2) := by decide +kernel
theorem dX12_doesAll_23 : decode cX12_doesAll 23 = .ok (.iload_n 1, 1) := by decide +kernel
theorem dX12_doesAll_24 : decode cX12_doesAll 24 = .ok (.imul, 1) := by decide +kernel
theorem dX12_doesAll_25 : decode cX12_doesAll 25 = .ok (.iload_n 2, 1) := by decide +kernel
theorem dX12_doesAll_26 : decode cX12_doesAll 26 = .ok (.iadd, 1) := by decide +kernel
theorem dX12_doesAll_27 : decode cX12_doesAll 27 = .ok (.laload, 1) := by decide +kernel
theorem dX12_doesAll_28 : decode cX12_doesAll 28 = .ok (.lstore_n 3, 1) := by decide +kernel
theorem dX12_doesAll_29 : decode cX12_doesAll 29 = .ok (.lload_n 3, 1) := by decide +kernel
theorem dX12_doesAll_30 : decode cX12_doesAll 30 = .ok (.ldc2_w 281, 3) := by decide +kernel
theorem dX12_doesAll_33 : decode cX12_doesAll 33 = .ok (.lcmp, 1) := by decide +kernel
theorem dX12_doesAll_34 : decode cX12_doesAll 34 = .ok (.ifCond .ne 11, 3) := by decide +kernel
theorem dX12_doesAll_37 : decode cX12_doesAll 37 = .ok (.aload_n 0, 1) := by decide +kernel
theorem dX12_doesAll_38 : decode cX12_doesAll 38 = .ok (.invokevirtual 274, 3) := by decide +kernel
theorem dX12_doesAll_41 : decode cX12_doesAll 41 = .ok (.pop, 1) := by decide +kernel
theorem dX12_doesAll_42 : decode cX12_doesAll 42 = .ok (.goto 100, 3) := by decide +kernel
theorem dX12_doesAll_45 : decode cX12_doesAll 45 = .ok (.lload_n 3, 1) := by decide +kernel
theorem dX12_doesAll_46 : decode cX12_doesAll 46 = .ok (.ldc2_w 283, 3) := by decide +kernel
theorem dX12_doesAll_49 : decode cX12_doesAll 49 = .ok (.lrem, 1) := by decide +kernel
theorem dX12_doesAll_50 : decode cX12_doesAll 50 = .ok (.ldc2_w 285, 3) := by decide +kernel
theorem dX12_doesAll_53 : decode cX12_doesAll 53 = .ok (.ldiv, 1) := by decide +kernel
theorem dX12_doesAll_54 : decode cX12_doesAll 54 = .ok (.lstore 5, 2) := by decide +kernel
theorem dX12_doesAll_56 : decode cX12_doesAll 56 = .ok (.lload_n 3, 1) := by decide +kernel
theorem dX12_doesAll_57 : decode cX12_doesAll 57 = .ok (.ldc2_w 285, 3) := by decide +kernel
theorem dX12_doesAll_60 : decode cX12_doesAll 60 = .ok (.lrem, 1) := by decide +kernel
theorem dX12_doesAll_61 : decode cX12_doesAll 61 = .ok (.lstore 7, 2) := by decide +kernel
theorem dX12_doesAll_63 : decode cX12_doesAll 63 = .ok (.lload_n 3, 1) := by decide +kernel
theorem dX12_doesAll_64 : decode cX12_doesAll 64 = .ok (.lconst 0, 1) := by decide +kernel
theorem dX12_doesAll_65 : decode cX12_doesAll 65 = .ok (.ldc2_w 287, 3) := by decide +kernel
theorem dX12_doesAll_68 : decode cX12_doesAll 68 = .ok (.invokestatic 145, 3) := by decide +kernel
theorem dX12_doesAll_71 : decode cX12_doesAll 71 = .ok (.ifCond .eq 21, 3) := by decide +kernel
theorem dX12_doesAll_74 : decode cX12_doesAll 74 = .ok (.aload_n 0, 1) := by decide +kernel
theorem dX12_doesAll_75 : decode cX12_doesAll 75 = .ok (.lload 5, 2) := by decide +kernel
theorem dX12_doesAll_77 : decode cX12_doesAll 77 = .ok (.invokevirtual 245, 3) := by decide +kernel
theorem dX12_doesAll_80 : decode cX12_doesAll 80 = .ok (.ifCond .eq 12, 3) := by decide +kernel
theorem dX12_doesAll_83 : decode cX12_doesAll 83 = .ok (.aload_n 0, 1) := by decide +kernel
theorem dX12_doesAll_84 : decode cX12_doesAll 84 = .ok (.lload 7, 2) := by decide +kernel
theorem dX12_doesAll_86 : decode cX12_doesAll 86 = .ok (.invokevirtual 241, 3) := by decide +kernel
theorem dX12_doesAll_89 : decode cX12_doesAll 89 = .ok (.ifCond .ne 5, 3) := by decide +kernel
theorem dX12_doesAll_92 : decode cX12_doesAll 92 = .ok (.iload_n 2, 1) := by decide +kernel
theorem dX12_doesAll_93 : decode cX12_doesAll 93 = .ok (.ireturn, 1) := by decide +kernel
theorem dX12_doesAll_94 : decode cX12_doesAll 94 = .ok (.lload_n 3, 1) := by decide +kernel
theorem dX12_doesAll_95 : decode cX12_doesAll 95 = .ok (.ldc2_w 283, 3) := by decide +kernel
theorem dX12_doesAll_98 : decode cX12_doesAll 98 = .ok (.lcmp, 1) := by decide +kernel
theorem dX12_doesAll_99 : decode cX12_doesAll 99 = .ok (.ifCond .ge 24, 3) := by decide +kernel
theorem dX12_doesAll_102 : decode cX12_doesAll 102 = .ok (.aload_n 0, 1) := by decide +kernel
theorem dX12_doesAll_103 : decode cX12_doesAll 103 = .ok (.getfield 13, 3) := by decide +kernel
theorem dX12_doesAll_106 : decode cX12_doesAll 106 = .ok (.iconst 5, 1) := by decide +kernel
theorem dX12_doesAll_107 : decode cX12_doesAll 107 = .ok (.lload 5, 2) := by decide +kernel
theorem dX12_doesAll_109 : decode cX12_doesAll 109 = .ok (.l2i, 1) := by decide +kernel
theorem dX12_doesAll_110 : decode cX12_doesAll 110 = .ok (.iadd, 1) := by decide +kernel
theorem dX12_doesAll_111 : decode cX12_doesAll 111 = .ok (.dup2, 1) := by decide +kernel
theorem dX12_doesAll_112 : decode cX12_doesAll 112 = .ok (.iaload, 1) := by decide +kernel
theorem dX12_doesAll_113 : decode cX12_doesAll 113 = .ok (.iconst 1, 1) := by decide +kernel
theorem dX12_doesAll_114 : decode cX12_doesAll 114 = .ok (.lload 7, 2) := by decide +kernel
theorem dX12_doesAll_116 : decode cX12_doesAll 116 = .ok (.l2i, 1) := by decide +kernel
theorem dX12_doesAll_117 : decode cX12_doesAll 117 = .ok (.ishl, 1) := by decide +kernel
theorem dX12_doesAll_118 : decode cX12_doesAll 118 = .ok (.ior, 1) := by decide +kernel
theorem dX12_doesAll_119 : decode cX12_doesAll 119 = .ok (.iastore, 1) := by decide +kernel
theorem dX12_doesAll_120 : decode cX12_doesAll 120 = .ok (.goto 22, 3) := by decide +kernel
theorem dX12_doesAll_123 : decode cX12_doesAll 123 = .ok (.aload_n 0, 1) := by decide +kernel
theorem dX12_doesAll_124 : decode cX12_doesAll 124 = .ok (.dup, 1) := by decide +kernel
theorem dX12_doesAll_125 : decode cX12_doesAll 125 = .ok (.getfield 278, 3) := by decide +kernel
theorem dX12_doesAll_128 : decode cX12_doesAll 128 = .ok (.aload_n 0, 1) := by decide +kernel
theorem dX12_doesAll_129 : decode cX12_doesAll 129 = .ok (.lload 5, 2) := by decide +kernel
theorem dX12_doesAll_131 : decode cX12_doesAll 131 = .ok (.l2i, 1) := by decide +kernel
theorem dX12_doesAll_132 : decode cX12_doesAll 132 = .ok (.lload 7, 2) := by decide +kernel
theorem dX12_doesAll_134 : decode cX12_doesAll 134 = .ok (.l2i, 1) := by decide +kernel
theorem dX12_doesAll_135 : decode cX12_doesAll 135 = .ok (.invokevirtual 269, 3) := by decide +kernel
theorem dX12_doesAll_138 : decode cX12_doesAll 138 = .ok (.iadd, 1) := by decide +kernel
theorem dX12_doesAll_139 : decode cX12_doesAll 139 = .ok (.putfield 278, 3) := by decide +kernel
theorem dX12_doesAll_142 : decode cX12_doesAll 142 = .ok (.iinc 2 1, 3) := by decide +kernel
theorem dX12_doesAll_145 : decode cX12_doesAll 145 = .ok (.goto (-138), 3) := by decide +kernel
theorem dX12_doesAll_148 : decode cX12_doesAll 148 = .ok (.aload_n 0, 1) := by decide +kernel
theorem dX12_doesAll_149 : decode cX12_doesAll 149 = .ok (.getfield 76, 3) := by decide +kernel
theorem dX12_doesAll_152 : decode cX12_doesAll 152 = .ok (.iload_n 1, 1) := by decide +kernel
theorem dX12_doesAll_153 : decode cX12_doesAll 153 = .ok (.iaload, 1) := by decide +kernel
theorem dX12_doesAll_154 : decode cX12_doesAll 154 = .ok (.ireturn, 1) := by decide +kernel
theorem dX12_judge_0 : decode cX12_judge 0 = .ok (.aload_n 0, 1) := by decide +kernel
theorem dX12_judge_1 : decode cX12_judge 1 = .ok (.iconst 0, 1) := by decide +kernel
theorem dX12_judge_2 : decode cX12_judge 2 = .ok (.putfield 1, 3) := by decide +kernel
theorem dX12_judge_5 : decode cX12_judge 5 = .ok (.iload_n 1, 1) := by decide +kernel
theorem dX12_judge_6 : decode cX12_judge 6 = .ok (.i2l, 1) := by decide +kernel
theorem dX12_judge_7 : decode cX12_judge 7 = .ok (.lconst 0, 1) := by decide +kernel
theorem dX12_judge_8 : decode cX12_judge 8 = .ok (.ldc2_w 289, 3) := by decide +kernel
theorem dX12_judge_11 : decode cX12_judge 11 = .ok (.invokestatic 145, 3) := by decide +kernel
theorem dX12_judge_14 : decode cX12_judge 14 = .ok (.ifCond .eq 15, 3) := by decide +kernel
theorem dX12_judge_17 : decode cX12_judge 17 = .ok (.iload_n 2, 1) := by decide +kernel
theorem dX12_judge_18 : decode cX12_judge 18 = .ok (.i2l, 1) := by decide +kernel
theorem dX12_judge_19 : decode cX12_judge 19 = .ok (.lconst 0, 1) := by decide +kernel
theorem dX12_judge_20 : decode cX12_judge 20 = .ok (.ldc2_w 289, 3) := by decide +kernel
theorem dX12_judge_23 : decode cX12_judge 23 = .ok (.invokestatic 145, 3) := by decide +kernel
theorem dX12_judge_26 : decode cX12_judge 26 = .ok (.ifCond .ne 6, 3) := by decide +kernel
theorem dX12_judge_29 : decode cX12_judge 29 = .ok (.bipush (-2), 2) := by decide +kernel
theorem dX12_judge_31 : decode cX12_judge 31 = .ok (.ireturn, 1) := by decide +kernel
theorem dX12_judge_32 : decode cX12_judge 32 = .ok (.aload_n 0, 1) := by decide +kernel
theorem dX12_judge_33 : decode cX12_judge 33 = .ok (.getfield 73, 3) := by decide +kernel
theorem dX12_judge_36 : decode cX12_judge 36 = .ok (.iload_n 1, 1) := by decide +kernel
theorem dX12_judge_37 : decode cX12_judge 37 = .ok (.iaload, 1) := by decide +kernel
theorem dX12_judge_38 : decode cX12_judge 38 = .ok (.iconst (-1), 1) := by decide +kernel
theorem dX12_judge_39 : decode cX12_judge 39 = .ok (.if_icmp .ne 6, 3) := by decide +kernel
theorem dX12_judge_42 : decode cX12_judge 42 = .ok (.bipush (-6), 2) := by decide +kernel
theorem dX12_judge_44 : decode cX12_judge 44 = .ok (.ireturn, 1) := by decide +kernel
theorem dX12_judge_45 : decode cX12_judge 45 = .ok (.aload_n 0, 1) := by decide +kernel
theorem dX12_judge_46 : decode cX12_judge 46 = .ok (.invokevirtual 260, 3) := by decide +kernel
theorem dX12_judge_49 : decode cX12_judge 49 = .ok (.aload_n 0, 1) := by decide +kernel
theorem dX12_judge_50 : decode cX12_judge 50 = .ok (.iload_n 1, 1) := by decide +kernel
theorem dX12_judge_51 : decode cX12_judge 51 = .ok (.invokevirtual 291, 3) := by decide +kernel
theorem dX12_judge_54 : decode cX12_judge 54 = .ok (.istore_n 3, 1) := by decide +kernel
theorem dX12_judge_55 : decode cX12_judge 55 = .ok (.aload_n 0, 1) := by decide +kernel
theorem dX12_judge_56 : decode cX12_judge 56 = .ok (.iconst 0, 1) := by decide +kernel
theorem dX12_judge_57 : decode cX12_judge 57 = .ok (.aload_n 0, 1) := by decide +kernel
theorem dX12_judge_58 : decode cX12_judge 58 = .ok (.getfield 13, 3) := by decide +kernel
theorem dX12_judge_61 : decode cX12_judge 61 = .ok (.iconst 4, 1) := by decide +kernel
theorem dX12_judge_62 : decode cX12_judge 62 = .ok (.iaload, 1) := by decide +kernel
theorem dX12_judge_63 : decode cX12_judge 63 = .ok (.invokevirtual 294, 3) := by decide +kernel
theorem dX12_judge_66 : decode cX12_judge 66 = .ok (.istore 4, 2) := by decide +kernel
theorem dX12_judge_68 : decode cX12_judge 68 = .ok (.aload_n 0, 1) := by decide +kernel
theorem dX12_judge_69 : decode cX12_judge 69 = .ok (.invokevirtual 297, 3) := by decide +kernel
theorem dX12_judge_72 : decode cX12_judge 72 = .ok (.iload_n 2, 1) := by decide +kernel
theorem dX12_judge_73 : decode cX12_judge 73 = .ok (.ifCond .ne 21, 3) := by decide +kernel
theorem dX12_judge_76 : decode cX12_judge 76 = .ok (.iload_n 3, 1) := by decide +kernel
theorem dX12_judge_77 : decode cX12_judge 77 = .ok (.aload_n 0, 1) := by decide +kernel
theorem dX12_judge_78 : decode cX12_judge 78 = .ok (.getfield 76, 3) := by decide +kernel
theorem dX12_judge_81 : decode cX12_judge 81 = .ok (.iload_n 1, 1) := by decide +kernel
theorem dX12_judge_82 : decode cX12_judge 82 = .ok (.iaload, 1) := by decide +kernel
theorem dX12_judge_83 : decode cX12_judge 83 = .ok (.if_icmp .ne 7, 3) := by decide +kernel
theorem dX12_judge_86 : decode cX12_judge 86 = .ok (.iconst (-1), 1) := by decide +kernel
theorem dX12_judge_87 : decode cX12_judge 87 = .ok (.goto 30, 3) := by decide +kernel
theorem dX12_judge_90 : decode cX12_judge 90 = .ok (.iload_n 3, 1) := by decide +kernel
theorem dX12_judge_91 : decode cX12_judge 91 = .ok (.goto 26, 3) := by decide +kernel
theorem dX12_judge_94 : decode cX12_judge 94 = .ok (.iload_n 2, 1) := by decide +kernel
theorem dX12_judge_95 : decode cX12_judge 95 = .ok (.iconst 1, 1) := by decide +kernel
theorem dX12_judge_96 : decode cX12_judge 96 = .ok (.if_icmp .ne 7, 3) := by decide +kernel
theorem dX12_judge_99 : decode cX12_judge 99 = .ok (.iload_n 3, 1) := by decide +kernel
theorem dX12_judge_100 : decode cX12_judge 100 = .ok (.goto 17, 3) := by decide +kernel
theorem dX12_judge_103 : decode cX12_judge 103 = .ok (.iload_n 2, 1) := by decide +kernel
theorem dX12_judge_104 : decode cX12_judge 104 = .ok (.iconst 2, 1) := by decide +kernel
theorem dX12_judge_105 : decode cX12_judge 105 = .ok (.if_icmp .ne 8, 3) := by decide +kernel
theorem dX12_judge_108 : decode cX12_judge 108 = .ok (.iload 4, 2) := by decide +kernel
theorem dX12_judge_110 : decode cX12_judge 110 = .ok (.goto 7, 3) := by decide +kernel
theorem dX12_judge_113 : decode cX12_judge 113 = .ok (.aload_n 0, 1) := by decide +kernel
theorem dX12_judge_114 : decode cX12_judge 114 = .ok (.getfield 278, 3) := by decide +kernel
theorem dX12_judge_117 : decode cX12_judge 117 = .ok (.ireturn, 1) := by decide +kernel
theorem dX12_perform_0 : decode cX12_perform 0 = .ok (.aload_n 0, 1) := by decide +kernel
theorem dX12_perform_1 : decode cX12_perform 1 = .ok (.iconst 0, 1) := by decide +kernel
theorem dX12_perform_2 : decode cX12_perform 2 = .ok (.putfield 1, 3) := by decide +kernel
theorem dX12_perform_5 : decode cX12_perform 5 = .ok (.iload_n 1, 1) := by decide +kernel
theorem dX12_perform_6 : decode cX12_perform 6 = .ok (.i2l, 1) := by decide +kernel
theorem dX12_perform_7 : decode cX12_perform 7 = .ok (.lconst 0, 1) := by decide +kernel
theorem dX12_perform_8 : decode cX12_perform 8 = .ok (.ldc2_w 289, 3) := by decide +kernel
theorem dX12_perform_11 : decode cX12_perform 11 = .ok (.invokestatic 145, 3) := by decide +kernel
theorem dX12_perform_14 : decode cX12_perform 14 = .ok (.ifCond .ne 6, 3) := by decide +kernel
theorem dX12_perform_17 : decode cX12_perform 17 = .ok (.bipush (-2), 2) := by decide +kernel
theorem dX12_perform_19 : decode cX12_perform 19 = .ok (.ireturn, 1) := by decide +kernel
theorem dX12_perform_20 : decode cX12_perform 20 = .ok (.aload_n 0, 1) := by decide +kernel
theorem dX12_perform_21 : decode cX12_perform 21 = .ok (.getfield 73, 3) := by decide +kernel
theorem dX12_perform_24 : decode cX12_perform 24 = .ok (.iload_n 1, 1) := by decide +kernel
theorem dX12_perform_25 : decode cX12_perform 25 = .ok (.iaload, 1) := by decide +kernel
theorem dX12_perform_26 : decode cX12_perform 26 = .ok (.iconst (-1), 1) := by decide +kernel
theorem dX12_perform_27 : decode cX12_perform 27 = .ok (.if_icmp .ne 6, 3) := by decide +kernel
theorem dX12_perform_30 : decode cX12_perform 30 = .ok (.bipush (-6), 2) := by decide +kernel
theorem dX12_perform_32 : decode cX12_perform 32 = .ok (.ireturn, 1) := by decide +kernel
theorem dX12_perform_33 : decode cX12_perform 33 = .ok (.aload_n 0, 1) := by decide +kernel
theorem dX12_perform_34 : decode cX12_perform 34 = .ok (.invokevirtual 260, 3) := by decide +kernel
theorem dX12_perform_37 : decode cX12_perform 37 = .ok (.aload_n 0, 1) := by decide +kernel
theorem dX12_perform_38 : decode cX12_perform 38 = .ok (.iload_n 1, 1) := by decide +kernel
theorem dX12_perform_39 : decode cX12_perform 39 = .ok (.invokevirtual 291, 3) := by decide +kernel
theorem dX12_perform_42 : decode cX12_perform 42 = .ok (.istore_n 2, 1) := by decide +kernel
theorem dX12_perform_43 : decode cX12_perform 43 = .ok (.iload_n 2, 1) := by decide +kernel
theorem dX12_perform_44 : decode cX12_perform 44 = .ok (.ifCond .le 7, 3) := by decide +kernel
theorem dX12_perform_47 : decode cX12_perform 47 = .ok (.aload_n 0, 1) := by decide +kernel
theorem dX12_perform_48 : decode cX12_perform 48 = .ok (.invokevirtual 263, 3) := by decide +kernel
theorem dX12_perform_51 : decode cX12_perform 51 = .ok (.iload_n 2, 1) := by decide +kernel
theorem dX12_perform_52 : decode cX12_perform 52 = .ok (.ireturn, 1) := by decide +kernel
theorem dX12_draw_0 : decode cX12_draw 0 = .ok (.aload_n 0, 1) := by decide +kernel
theorem dX12_draw_1 : decode cX12_draw 1 = .ok (.ldc_w 300, 3) := by decide +kernel
theorem dX12_draw_4 : decode cX12_draw 4 = .ok (.aload_n 0, 1) := by decide +kernel
theorem dX12_draw_5 : decode cX12_draw 5 = .ok (.getfield 301, 3) := by decide +kernel
theorem dX12_draw_8 : decode cX12_draw 8 = .ok (.imul, 1) := by decide +kernel
theorem dX12_draw_9 : decode cX12_draw 9 = .ok (.sipush 12345, 3) := by decide +kernel
theorem dX12_draw_12 : decode cX12_draw 12 = .ok (.iadd, 1) := by decide +kernel
theorem dX12_draw_13 : decode cX12_draw 13 = .ok (.putfield 301, 3) := by decide +kernel
theorem dX12_draw_16 : decode cX12_draw 16 = .ok (.aload_n 0, 1) := by decide +kernel
theorem dX12_draw_17 : decode cX12_draw 17 = .ok (.getfield 301, 3) := by decide +kernel
theorem dX12_draw_20 : decode cX12_draw 20 = .ok (.bipush 16, 2) := by decide +kernel
theorem dX12_draw_22 : decode cX12_draw 22 = .ok (.iushr, 1) := by decide +kernel
theorem dX12_draw_23 : decode cX12_draw 23 = .ok (.iload_n 1, 1) := by decide +kernel
theorem dX12_draw_24 : decode cX12_draw 24 = .ok (.irem, 1) := by decide +kernel
theorem dX12_draw_25 : decode cX12_draw 25 = .ok (.ireturn, 1) := by decide +kernel
theorem dX12_comes_0 : decode cX12_comes 0 = .ok (.aload_n 0, 1) := by decide +kernel
theorem dX12_comes_1 : decode cX12_comes 1 = .ok (.iconst 4, 1) := by decide +kernel
theorem dX12_comes_2 : decode cX12_comes 2 = .ok (.invokevirtual 304, 3) := by decide +kernel
theorem dX12_comes_5 : decode cX12_comes 5 = .ok (.istore_n 1, 1) := by decide +kernel
theorem dX12_comes_6 : decode cX12_comes 6 = .ok (.iload_n 1, 1) := by decide +kernel
theorem dX12_comes_7 : decode cX12_comes 7 = .ok (.ifCond .ne 9, 3) := by decide +kernel
theorem dX12_comes_10 : decode cX12_comes 10 = .ok (.aload_n 0, 1) := by decide +kernel
theorem dX12_comes_11 : decode cX12_comes 11 = .ok (.invokevirtual 274, 3) := by decide +kernel
theorem dX12_comes_14 : decode cX12_comes 14 = .ok (.pop, 1) := by decide +kernel
theorem dX12_comes_15 : decode cX12_comes 15 = .ok (.return_, 1) := by decide +kernel
theorem dX12_comes_16 : decode cX12_comes 16 = .ok (.iload_n 1, 1) := by decide +kernel
theorem dX12_comes_17 : decode cX12_comes 17 = .ok (.iconst 1, 1) := by decide +kernel
theorem dX12_comes_18 : decode cX12_comes 18 = .ok (.if_icmp .ne 20, 3) := by decide +kernel
theorem dX12_comes_21 : decode cX12_comes 21 = .ok (.aload_n 0, 1) := by decide +kernel
theorem dX12_comes_22 : decode cX12_comes 22 = .ok (.getfield 13, 3) := by decide +kernel
theorem dX12_comes_25 : decode cX12_comes 25 = .ok (.iconst 4, 1) := by decide +kernel
theorem dX12_comes_26 : decode cX12_comes 26 = .ok (.aload_n 0, 1) := by decide +kernel
theorem dX12_comes_27 : decode cX12_comes 27 = .ok (.aload_n 0, 1) := by decide +kernel
theorem dX12_comes_28 : decode cX12_comes 28 = .ok (.getfield 13, 3) := by decide +kernel
theorem dX12_comes_31 : decode cX12_comes 31 = .ok (.iconst 1, 1) := by decide +kernel
theorem dX12_comes_32 : decode cX12_comes 32 = .ok (.iaload, 1) := by decide +kernel
theorem dX12_comes_33 : decode cX12_comes 33 = .ok (.invokevirtual 304, 3) := by decide +kernel
theorem dX12_comes_36 : decode cX12_comes 36 = .ok (.iastore, 1) := by decide +kernel
theorem dX12_comes_37 : decode cX12_comes 37 = .ok (.return_, 1) := by decide +kernel
theorem dX12_comes_38 : decode cX12_comes 38 = .ok (.aload_n 0, 1) := by decide +kernel
theorem dX12_comes_39 : decode cX12_comes 39 = .ok (.aload_n 0, 1) := by decide +kernel
theorem dX12_comes_40 : decode cX12_comes 40 = .ok (.getfield 13, 3) := by decide +kernel
theorem dX12_comes_43 : decode cX12_comes 43 = .ok (.iconst 3, 1) := by decide +kernel
theorem dX12_comes_44 : decode cX12_comes 44 = .ok (.iaload, 1) := by decide +kernel
theorem dX12_comes_45 : decode cX12_comes 45 = .ok (.invokevirtual 304, 3) := by decide +kernel
theorem dX12_comes_48 : decode cX12_comes 48 = .ok (.istore_n 2, 1) := by decide +kernel
theorem dX12_comes_49 : decode cX12_comes 49 = .ok (.aload_n 0, 1) := by decide +kernel
theorem dX12_comes_50 : decode cX12_comes 50 = .ok (.aload_n 0, 1) := by decide +kernel
theorem dX12_comes_51 : decode cX12_comes 51 = .ok (.getfield 13, 3) := by decide +kernel
theorem dX12_comes_54 : decode cX12_comes 54 = .ok (.iconst 2, 1) := by decide +kernel
theorem dX12_comes_55 : decode cX12_comes 55 = .ok (.iaload, 1) := by decide +kernel
theorem dX12_comes_56 : decode cX12_comes 56 = .ok (.invokevirtual 304, 3) := by decide +kernel
theorem dX12_comes_59 : decode cX12_comes 59 = .ok (.istore_n 3, 1) := by decide +kernel
theorem dX12_comes_60 : decode cX12_comes 60 = .ok (.iload_n 1, 1) := by decide +kernel
theorem dX12_comes_61 : decode cX12_comes 61 = .ok (.iconst 2, 1) := by decide +kernel
theorem dX12_comes_62 : decode cX12_comes 62 = .ok (.if_icmp .ne 13, 3) := by decide +kernel
theorem dX12_comes_65 : decode cX12_comes 65 = .ok (.aload_n 0, 1) := by decide +kernel
theorem dX12_comes_66 : decode cX12_comes 66 = .ok (.iload_n 2, 1) := by decide +kernel
theorem dX12_comes_67 : decode cX12_comes 67 = .ok (.iload_n 3, 1) := by decide +kernel
theorem dX12_comes_68 : decode cX12_comes 68 = .ok (.invokevirtual 269, 3) := by decide +kernel
theorem dX12_comes_71 : decode cX12_comes 71 = .ok (.pop, 1) := by decide +kernel
theorem dX12_comes_72 : decode cX12_comes 72 = .ok (.goto 17, 3) := by decide +kernel
theorem dX12_comes_75 : decode cX12_comes 75 = .ok (.aload_n 0, 1) := by decide +kernel
theorem dX12_comes_76 : decode cX12_comes 76 = .ok (.getfield 13, 3) := by decide +kernel
theorem dX12_comes_79 : decode cX12_comes 79 = .ok (.iconst 5, 1) := by decide +kernel
theorem dX12_comes_80 : decode cX12_comes 80 = .ok (.iload_n 2, 1) := by decide +kernel
theorem dX12_comes_81 : decode cX12_comes 81 = .ok (.iadd, 1) := by decide +kernel
theorem dX12_comes_82 : decode cX12_comes 82 = .ok (.dup2, 1) := by decide +kernel
theorem dX12_comes_83 : decode cX12_comes 83 = .ok (.iaload, 1) := by decide +kernel
theorem dX12_comes_84 : decode cX12_comes 84 = .ok (.iconst 1, 1) := by decide +kernel
theorem dX12_comes_85 : decode cX12_comes 85 = .ok (.iload_n 3, 1) := by decide +kernel
theorem dX12_comes_86 : decode cX12_comes 86 = .ok (.ishl, 1) := by decide +kernel
theorem dX12_comes_87 : decode cX12_comes 87 = .ok (.ior, 1) := by decide +kernel
theorem dX12_comes_88 : decode cX12_comes 88 = .ok (.iastore, 1) := by decide +kernel
theorem dX12_comes_89 : decode cX12_comes 89 = .ok (.return_, 1) := by decide +kernel
theorem dX12_year_0 : decode cX12_year 0 = .ok (.aload_n 0, 1) := by decide +kernel
theorem dX12_year_1 : decode cX12_year 1 = .ok (.iconst 0, 1) := by decide +kernel
theorem dX12_year_2 : decode cX12_year 2 = .ok (.putfield 1, 3) := by decide +kernel
theorem dX12_year_5 : decode cX12_year 5 = .ok (.iload_n 2, 1) := by decide +kernel
theorem dX12_year_6 : decode cX12_year 6 = .ok (.i2l, 1) := by decide +kernel
theorem dX12_year_7 : decode cX12_year 7 = .ok (.lconst 1, 1) := by decide +kernel
theorem dX12_year_8 : decode cX12_year 8 = .ok (.ldc2_w 272, 3) := by decide +kernel
theorem dX12_year_11 : decode cX12_year 11 = .ok (.invokestatic 145, 3) := by decide +kernel
theorem dX12_year_14 : decode cX12_year 14 = .ok (.ifCond .ne 6, 3) := by decide +kernel
theorem dX12_year_17 : decode cX12_year 17 = .ok (.bipush (-3), 2) := by decide +kernel
theorem dX12_year_19 : decode cX12_year 19 = .ok (.ireturn, 1) := by decide +kernel
theorem dX12_year_20 : decode cX12_year 20 = .ok (.aload_n 0, 1) := by decide +kernel
theorem dX12_year_21 : decode cX12_year 21 = .ok (.getfield 13, 3) := by decide +kernel
theorem dX12_year_24 : decode cX12_year 24 = .ok (.iconst 1, 1) := by decide +kernel
theorem dX12_year_25 : decode cX12_year 25 = .ok (.iaload, 1) := by decide +kernel
theorem dX12_year_26 : decode cX12_year 26 = .ok (.ifCond .eq 21, 3) := by decide +kernel
theorem dX12_year_29 : decode cX12_year 29 = .ok (.aload_n 0, 1) := by decide +kernel
theorem dX12_year_30 : decode cX12_year 30 = .ok (.getfield 13, 3) := by decide +kernel
theorem dX12_year_33 : decode cX12_year 33 = .ok (.iconst 3, 1) := by decide +kernel
theorem dX12_year_34 : decode cX12_year 34 = .ok (.iaload, 1) := by decide +kernel
theorem dX12_year_35 : decode cX12_year 35 = .ok (.ifCond .eq 12, 3) := by decide +kernel
theorem dX12_year_38 : decode cX12_year 38 = .ok (.aload_n 0, 1) := by decide +kernel
theorem dX12_year_39 : decode cX12_year 39 = .ok (.getfield 13, 3) := by decide +kernel
theorem dX12_year_42 : decode cX12_year 42 = .ok (.iconst 2, 1) := by decide +kernel
theorem dX12_year_43 : decode cX12_year 43 = .ok (.iaload, 1) := by decide +kernel
theorem dX12_year_44 : decode cX12_year 44 = .ok (.ifCond .ne 6, 3) := by decide +kernel
theorem dX12_year_47 : decode cX12_year 47 = .ok (.bipush (-5), 2) := by decide +kernel
theorem dX12_year_49 : decode cX12_year 49 = .ok (.ireturn, 1) := by decide +kernel
theorem dX12_year_50 : decode cX12_year 50 = .ok (.aload_n 0, 1) := by decide +kernel
theorem dX12_year_51 : decode cX12_year 51 = .ok (.invokevirtual 260, 3) := by decide +kernel
theorem dX12_year_54 : decode cX12_year 54 = .ok (.aload_n 0, 1) := by decide +kernel
theorem dX12_year_55 : decode cX12_year 55 = .ok (.iload_n 1, 1) := by decide +kernel
theorem dX12_year_56 : decode cX12_year 56 = .ok (.putfield 301, 3) := by decide +kernel
theorem dX12_year_59 : decode cX12_year 59 = .ok (.iconst 0, 1) := by decide +kernel
theorem dX12_year_60 : decode cX12_year 60 = .ok (.istore_n 3, 1) := by decide +kernel
theorem dX12_year_61 : decode cX12_year 61 = .ok (.iload_n 3, 1) := by decide +kernel
